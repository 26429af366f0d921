/-! the reference: lay, copy -/
def layG (n : Nat) (thing k : Int32) : Prop := thing = 0 ∨ thing = 3 ∨ (thing = 1 ∧ (0 ≤ k.toInt ∧ k.toInt < n)) ∨ (thing = 2 ∧ (0 ≤ k.toInt ∧ k.toInt ≤ 3))
def cpA (g f : Nat → Int32) (o p : Nat) (k : Nat) : Nat → Int32 := fun i => if o ≤ i ∧ i < o + k then f (p + (i - o)) else g i
theorem cpA_0 {g f : Nat → Int32} {o p : Nat} : cpA g f o p 0 = g := by
  funext i
  unfold cpA
  rw [if_neg (by omega)]
theorem cpA_succ {g f : Nat → Int32} {o p k : Nat} : upd (cpA g f o p k) (o + k) (f (p + k)) = cpA g f o p (k + 1) := by
  funext i
  unfold upd cpA
  by_cases e : i = o + k
  · subst e
    rw [if_pos rfl, if_pos (by omega), show o + k - o = k by omega]
  · rw [if_neg e]
    by_cases h : o ≤ i ∧ i < o + k
    · rw [if_pos h, if_pos (by omega)]
    · rw [if_neg h, if_neg (by omega)]
def layN (n : Nat) (σ : SG) (i : Nat) (thing k : Int32) (s : SG) : Prop := s 26 = upd (σ 26) i thing ∧ s 27 = upd (σ 27) i (if thing = 1 then σ 20 (131 + 5 * k.toNatClampNeg) else k) ∧ s 28 = upd (σ 28) i (if thing = 1 then woK (σ 20 (131 + 5 * k.toNatClampNeg)) (σ 20 (131 + 5 * k.toNatClampNeg + 1)) else 0) ∧ s 29 = (if thing = 2 then upd (σ 29) i (σ 24 k.toNatClampNeg) else σ 29) ∧ s 30 = (if thing = 2 then cpA (σ 30) (σ 25) (24 * i) (24 * k.toNatClampNeg) 24 else σ 30)
theorem c_X8_worth' {G : GM} {σ : SG} {k : Int32} {a : Nat} (e : k = nI a) (ha : a < 8) : CI G yX8_worth cX8_worth 3 (some .int) 1 [rf G 109, .int k] σ (fun r s => r = woK (σ 20 (131 + 5 * a)) (σ 20 (131 + 5 * a + 1)) ∧ s = σ) := by
  subst e
  exact c_X8_worth ha
set_option maxHeartbeats 4000000 in
set_option maxRecDepth 100000 in
theorem c_X8_lay {G : GM} {σ : SG} {n : Nat} {slot thing k : Int32} (hN : σ 20 0 = nI n) (h8 : n ≤ 8) : CI G yX8_lay cX8_lay 7 (some .int) 2 [rf G 109, .int slot, .int thing, .int k] σ (fun r s => same [26, 27, 28, 29, 30] σ s ∧ ((ix slot 5 = none ∨ ¬ layG n thing k) → r = vBAD ∧ s = σ) ∧ (∀ i, ix slot 5 = some i → layG n thing k → ((thing = 2 ∧ σ 23 k.toNatClampNeg < 0) → r = vNOTH ∧ s = σ) ∧ (¬ (thing = 2 ∧ σ 23 k.toNatClampNeg < 0) → r = σ 26 i ∧ layN n σ i thing k s))) := by
  refine Con.of cd_X8_lay (Nat.le_of_ble_eq_true rfl) ?_
  intro X hX hZ
  have hX : Fx X G RX8 cX8_lay 7 2 := hX
  show RR X G 7 0 (ll [(0, rf G 109), (1, .int slot), (2, .int thing), (3, .int k)]) [] σ
  have main : ∀ i, i < 5 → slot = nI i → layG n thing k → RR X G 7 56 (ll [(0, rf G 109), (1, .int slot), (2, .int thing), (3, .int k)]) [] σ := by
    intro i hi e hg
    subst e
    have hix := ix_some (n := 5) hi (by omega)
    have hk1 : thing = 1 → k = nI k.toNatClampNeg ∧ k.toNatClampNeg < 8 := by
      intro e1
      have h : 0 ≤ k.toInt ∧ k.toInt < n := by
        rcases hg with e | e | ⟨_, h⟩ | ⟨e, _⟩
        · rw [e1] at e; exact absurd e (by decide)
        · rw [e1] at e; exact absurd e (by decide)
        · exact h
        · rw [e1] at e; exact absurd e (by decide)
      obtain ⟨a, ha, rfl⟩ := ix_of h (by omega)
      rw [nI_clamp (by omega)]
      exact ⟨rfl, by omega⟩
    have hk2 : thing = 2 → k = nI k.toNatClampNeg ∧ k.toNatClampNeg < 4 := by
      intro e1
      have h : 0 ≤ k.toInt ∧ k.toInt ≤ 3 := by
        rcases hg with e | e | ⟨e, _⟩ | ⟨_, h⟩
        · rw [e1] at e; exact absurd e (by decide)
        · rw [e1] at e; exact absurd e (by decide)
        · rw [e1] at e; exact absurd e (by decide)
        · exact h
      obtain ⟨a, ha, rfl⟩ := ix_of (n := 4) (k := k) ⟨by omega, by omega⟩ (by omega)
      rw [nI_clamp (by omega)]
      exact ⟨rfl, ha⟩
    have fin : ∀ s : SG, ¬ (thing = 2 ∧ σ 23 k.toNatClampNeg < 0) → layN n σ i thing k s → same [26, 27, 28, 29, 30] σ s → RR X G 7 187 (ll [(5, .int (σ 26 i))]) [] s := by
      intro s hm hl hs
      refine r_iload hX dX8_lay_187 rfl (RR.pc (b := 189) rfl ?_)
      exact r_iret hX hZ dX8_lay_189 ⟨_, rfl, ⟨hs, fun z => z.elim (fun e => (ns hix e).elim) (fun e => absurd hg e), fun j e _ => by have q := se hix e; subst q; exact ⟨fun z => absurd z hm, fun _ => ⟨rfl, hl⟩⟩⟩⟩
    have rest : ¬ (thing = 2 ∧ σ 23 k.toNatClampNeg < 0) → RR X G 7 74 (ll [(0, rf G 109), (1, .int (nI i)), (2, .int thing), (3, .int k)]) [] σ := by
      intro hm
      refine r_aload_n hX dX8_lay_74 rfl ⟨_, rfl⟩ (RR.pc (b := 75) rfl ?_)
      refine r_getr hX dX8_lay_75 fl_X8_28 (by first | rfl | assumption) rfl (RR.pc (b := 78) rfl ?_)
      refine r_iload_n (i := 0) hX dX8_lay_78 rfl (RR.pc (b := 79) rfl ?_)
      refine r_iald hX dX8_lay_79 (by first | rfl | assumption) rfl (by omega) (by decide) (by first | exact Nat.zero_add _ | rfl) (RR.pc (b := 80) rfl ?_)
      refine r_istore hX dX8_lay_80 (by decide) (RR.pc (b := 82) rfl ?_)
      refine r_aload_n hX dX8_lay_82 rfl ⟨_, rfl⟩ (RR.pc (b := 83) rfl ?_)
      refine r_getr hX dX8_lay_83 fl_X8_28 (by first | rfl | assumption) rfl (RR.pc (b := 86) rfl ?_)
      refine r_iload_n (i := 0) hX dX8_lay_86 rfl (RR.pc (b := 87) rfl ?_)
      refine r_iload_n (i := 0) hX dX8_lay_87 rfl (RR.pc (b := 88) rfl ?_)
      refine r_iast hX dX8_lay_88 (by first | rfl | assumption) rfl (by omega) (by decide) (by first | exact Nat.zero_add _ | rfl) (RR.pc (b := 89) rfl ?_)
      refine r_aload_n hX dX8_lay_89 rfl ⟨_, rfl⟩ (RR.pc (b := 90) rfl ?_)
      refine r_getr hX dX8_lay_90 fl_X8_31 (by first | rfl | assumption) rfl (RR.pc (b := 93) rfl ?_)
      refine r_iload_n (i := 0) hX dX8_lay_93 rfl (RR.pc (b := 94) rfl ?_)
      refine r_iload_n (i := 0) hX dX8_lay_94 rfl (RR.pc (b := 95) rfl ?_)
      refine r_iconst (v := 1) hX dX8_lay_95 (by decide) (RR.pc (b := 96) rfl ?_)
      refine r_dia2 109 (if thing = 1 then σ 20 (131 + 5 * k.toNatClampNeg) else k) (fun hj96 => ?_) ?_
      · refine r_icmp_ne (tgt := 108) hX dX8_lay_96 rfl (fun h96 => ?_) (fun h96 => RR.pc (b := 99) rfl ?_)
        · refine r_iload_n (i := 0) hX dX8_lay_108 rfl (RR.pc (b := 109) rfl ?_)
          exact RR.eqt (congrArg (fun q => Value.int q :: _) (if_neg h96).symm) hj96
        · refine r_aload_n hX dX8_lay_99 rfl ⟨_, rfl⟩ (RR.pc (b := 100) rfl ?_)
          refine r_iload_n (i := 0) hX dX8_lay_100 rfl (RR.pc (b := 101) rfl ?_)
          refine r_iconst (v := 0) hX dX8_lay_101 (by decide) (RR.pc (b := 102) rfl ?_)
          refine r_callVi hX dX8_lay_102 ml_X8_90 cd_X8_of iv_X8_of (c_X8_of (a := k.toNatClampNeg) (b := 0) (q := 131 + 5 * k.toNatClampNeg) (hk1 h96).1 rfl rfl (by have := (hk1 h96).2; omega)) (by decide) (by first | rfl | assumption) rfl rfl rfl rfl (Nat.le_of_ble_eq_true rfl) (fun r_102 s_102 e_102 => RR.pc (b := 105) rfl ?_)
          obtain ⟨rfl, rfl⟩ := e_102
          rw [su_ne (by decide)]
          refine r_goto (tgt := 109) hX dX8_lay_105 rfl ?_
          exact RR.eqt (congrArg (fun q => Value.int q :: _) (if_pos h96).symm) hj96
      refine r_iast hX dX8_lay_109 (by first | rfl | assumption) rfl (by omega) (by decide) (by first | exact Nat.zero_add _ | rfl) (RR.pc (b := 110) rfl ?_)
      refine r_aload_n hX dX8_lay_110 rfl ⟨_, rfl⟩ (RR.pc (b := 111) rfl ?_)
      refine r_getr hX dX8_lay_111 fl_X8_34 (by first | rfl | assumption) rfl (RR.pc (b := 114) rfl ?_)
      refine r_iload_n (i := 0) hX dX8_lay_114 rfl (RR.pc (b := 115) rfl ?_)
      refine r_iload_n (i := 0) hX dX8_lay_115 rfl (RR.pc (b := 116) rfl ?_)
      refine r_iconst (v := 1) hX dX8_lay_116 (by decide) (RR.pc (b := 117) rfl ?_)
      refine r_dia2 129 (if thing = 1 then woK (σ 20 (131 + 5 * k.toNatClampNeg)) (σ 20 (131 + 5 * k.toNatClampNeg + 1)) else 0) (fun hj117 => ?_) ?_
      · refine r_icmp_ne (tgt := 128) hX dX8_lay_117 rfl (fun h117 => ?_) (fun h117 => RR.pc (b := 120) rfl ?_)
        · refine r_iconst (v := 0) hX dX8_lay_128 (by decide) (RR.pc (b := 129) rfl ?_)
          exact RR.eqt (congrArg (fun q => Value.int q :: _) (if_neg h117).symm) hj117
        · refine r_aload_n hX dX8_lay_120 rfl ⟨_, rfl⟩ (RR.pc (b := 121) rfl ?_)
          refine r_iload_n (i := 0) hX dX8_lay_121 rfl (RR.pc (b := 122) rfl ?_)
          refine r_callVi hX dX8_lay_122 ml_X8_114 cd_X8_worth iv_X8_worth (c_X8_worth' (hk1 h117).1 (hk1 h117).2) (by decide) (by first | rfl | assumption) rfl rfl rfl rfl (Nat.le_of_ble_eq_true rfl) (fun r_122 s_122 e_122 => RR.pc (b := 125) rfl ?_)
          obtain ⟨rfl, rfl⟩ := e_122
          rw [su_ne (by decide), su_ne (by decide)]
          refine r_goto (tgt := 129) hX dX8_lay_125 rfl ?_
          exact RR.eqt (congrArg (fun q => Value.int q :: _) (if_pos h117).symm) hj117
      refine r_iast hX dX8_lay_129 (by first | rfl | assumption) rfl (by omega) (by decide) (by first | exact Nat.zero_add _ | rfl) (RR.pc (b := 130) rfl ?_)
      refine r_iload_n (i := 0) hX dX8_lay_130 rfl (RR.pc (b := 131) rfl ?_)
      refine r_iconst (v := 2) hX dX8_lay_131 (by decide) (RR.pc (b := 132) rfl ?_)
      have hs0 : same [26, 27, 28, 29, 30] σ (su (su (su σ 26 i thing) 27 i (if thing = 1 then σ 20 (131 + 5 * k.toNatClampNeg) else k)) 28 i (if thing = 1 then woK (σ 20 (131 + 5 * k.toNatClampNeg)) (σ 20 (131 + 5 * k.toNatClampNeg + 1)) else 0)) := (((same.rf.su (by simp)).su (by simp)).su (by simp))
      refine r_icmp_ne (tgt := 187) hX dX8_lay_132 rfl (fun h132 => ?_) (fun h132 => RR.pc (b := 135) rfl ?_)
      · refine RR.cut (fin _ hm ⟨?_, ?_, ?_, ?_, ?_⟩ hs0) (List.forall_mem_cons.mpr ⟨rfl, fun _ h => absurd h List.not_mem_nil⟩)
        · rw [su_ne (by decide), su_ne (by decide), su_eq]
        · rw [su_ne (by decide), su_eq, su_ne (by decide)]
        · rw [su_eq, su_ne (by decide), su_ne (by decide)]
        · rw [if_neg h132, su_ne (by decide), su_ne (by decide), su_ne (by decide)]
        · rw [if_neg h132, su_ne (by decide), su_ne (by decide), su_ne (by decide)]
      · obtain ⟨ek, hk4⟩ := hk2 h132
        generalize hst : su (su (su σ 26 i thing) 27 i (if thing = 1 then σ 20 (131 + 5 * k.toNatClampNeg) else k)) 28 i (if thing = 1 then woK (σ 20 (131 + 5 * k.toNatClampNeg)) (σ 20 (131 + 5 * k.toNatClampNeg + 1)) else 0) = τ at hs0
        have t24 : τ 24 = σ 24 := hs0 24 (by decide)
        have t25 : τ 25 = σ 25 := hs0 25 (by decide)
        have t29 : τ 29 = σ 29 := by rw [← hst, su_ne (by decide), su_ne (by decide), su_ne (by decide)]
        have t30 : τ 30 = σ 30 := by rw [← hst, su_ne (by decide), su_ne (by decide), su_ne (by decide)]
        have loop := loopK 24 (fun j => RR X G 7 150 (ll [(0, rf G 109), (1, .int (nI i)), (3, .int k), (5, .int (σ 26 i)), (6, .int (nI j))]) [] (sr (su τ 29 i (σ 24 k.toNatClampNeg)) 30 (cpA (σ 30) (σ 25) (24 * i) (24 * k.toNatClampNeg) j))) (by
          intro j hj ih
          refine r_iload hX dX8_lay_150 rfl (RR.pc (b := 152) rfl ?_)
          refine r_bipush (v := 24) hX dX8_lay_152 (by decide) (RR.pc (b := 154) rfl ?_)
          refine r_icmp_ge (tgt := 187) hX dX8_lay_154 rfl (fun h154 => ?_) (fun h154 => RR.pc (b := 157) rfl ?_)
          · have hj2 : j = 24 := by rw [show (24 : Int32) = nI 24 from rfl, nI_leI (by omega) (by omega)] at h154; omega
            subst hj2
            refine RR.cut (fin _ hm ⟨?_, ?_, ?_, ?_, ?_⟩ ((hs0.su (by simp)).sr (by simp))) (List.forall_mem_cons.mpr ⟨rfl, fun _ h => absurd h List.not_mem_nil⟩)
            · rw [sr_ne (by decide), su_ne (by decide), ← hst, su_ne (by decide), su_ne (by decide), su_eq]
            · rw [sr_ne (by decide), su_ne (by decide), ← hst, su_ne (by decide), su_eq, su_ne (by decide)]
            · rw [sr_ne (by decide), su_ne (by decide), ← hst, su_eq, su_ne (by decide), su_ne (by decide)]
            · rw [if_pos h132, sr_ne (by decide), su_eq, t29]
            · rw [if_pos h132, sr_eq]
          · have hj2 : j < 24 := by rw [show (24 : Int32) = nI 24 from rfl, nI_leI (by omega) (by omega)] at h154; omega
            refine r_aload_n hX dX8_lay_157 rfl ⟨_, rfl⟩ (RR.pc (b := 158) rfl ?_)
            refine r_getr hX dX8_lay_158 fl_X8_40 (by first | rfl | assumption) rfl (RR.pc (b := 161) rfl ?_)
            refine r_bipush (v := 24) hX dX8_lay_161 (by decide) (RR.pc (b := 163) rfl ?_)
            refine r_iload_n (i := 0) hX dX8_lay_163 rfl (RR.pc (b := 164) rfl ?_)
            refine r_imul hX dX8_lay_164 (RR.pc (b := 165) rfl ?_)
            refine r_iload hX dX8_lay_165 rfl (RR.pc (b := 167) rfl ?_)
            refine r_iadd hX dX8_lay_167 (RR.pc (b := 168) rfl ?_)
            refine r_aload_n hX dX8_lay_168 rfl ⟨_, rfl⟩ (RR.pc (b := 169) rfl ?_)
            refine r_getr hX dX8_lay_169 fl_X8_25 (by first | rfl | assumption) rfl (RR.pc (b := 172) rfl ?_)
            refine r_bipush (v := 24) hX dX8_lay_172 (by decide) (RR.pc (b := 174) rfl ?_)
            refine r_iload_n (i := 0) hX dX8_lay_174 rfl (RR.pc (b := 175) rfl ?_)
            refine r_imul hX dX8_lay_175 (RR.pc (b := 176) rfl ?_)
            refine r_iload hX dX8_lay_176 rfl (RR.pc (b := 178) rfl ?_)
            refine r_iadd hX dX8_lay_178 (RR.pc (b := 179) rfl ?_)
            refine r_iald hX dX8_lay_179 (by first | rfl | assumption) (j := 24 * k.toNatClampNeg + j) (by rw [ek, nI_clamp (by omega)]; exact ix24 _ j) (by omega) (by decide) (by first | exact Nat.zero_add _ | rfl) (RR.pc (b := 180) rfl ?_)
            rw [sr_ne (by decide), su_ne (by decide), t25]
            refine r_iast hX dX8_lay_180 (by first | rfl | assumption) (ix24 i j) (by omega) (by decide) (by first | exact Nat.zero_add _ | rfl) (RR.pc (b := 181) rfl ?_)
            refine r_iinc hX dX8_lay_181 rfl (by decide) (nI_1 j) (RR.pc (b := 184) rfl ?_)
            refine r_goto (tgt := 150) hX dX8_lay_184 rfl ?_
            exact RR.eqs (by rw [su_sr, cpA_succ]) (RR.cut (ih hj2) (List.forall_mem_cons.mpr ⟨rfl, List.forall_mem_cons.mpr ⟨rfl, List.forall_mem_cons.mpr ⟨rfl, List.forall_mem_cons.mpr ⟨rfl, List.forall_mem_cons.mpr ⟨rfl, fun _ h => absurd h List.not_mem_nil⟩⟩⟩⟩⟩))
          )
        refine r_aload_n hX dX8_lay_135 rfl ⟨_, rfl⟩ (RR.pc (b := 136) rfl ?_)
        refine r_getr hX dX8_lay_136 fl_X8_37 (by first | rfl | assumption) rfl (RR.pc (b := 139) rfl ?_)
        refine r_iload_n (i := 0) hX dX8_lay_139 rfl (RR.pc (b := 140) rfl ?_)
        refine r_aload_n hX dX8_lay_140 rfl ⟨_, rfl⟩ (RR.pc (b := 141) rfl ?_)
        refine r_getr hX dX8_lay_141 fl_X8_22 (by first | rfl | assumption) rfl (RR.pc (b := 144) rfl ?_)
        refine r_iload_n (i := 0) hX dX8_lay_144 rfl (RR.pc (b := 145) rfl ?_)
        refine r_iald hX dX8_lay_145 (by first | rfl | assumption) (j := k.toNatClampNeg) ek (by omega) (by decide) (by first | exact Nat.zero_add _ | rfl) (RR.pc (b := 146) rfl ?_)
        refine r_iast hX dX8_lay_146 (by first | rfl | assumption) rfl (by omega) (by decide) (by first | exact Nat.zero_add _ | rfl) (RR.pc (b := 147) rfl ?_)
        refine r_iconst (v := 0) hX dX8_lay_147 (by decide) (RR.pc (b := 148) rfl ?_)
        refine r_istore hX dX8_lay_148 (by decide) (RR.pc (b := 150) rfl ?_)
        rw [t24]
        exact RR.eqs (show _ = sr (su τ 29 i (σ 24 k.toNatClampNeg)) 30 (cpA (σ 30) (σ 25) (24 * i) (24 * k.toNatClampNeg) 0) from by rw [cpA_0, ← t30, show τ 30 = (su τ 29 i (σ 24 k.toNatClampNeg)) 30 from (su_ne (by decide)).symm, sr_self]) (RR.cut (loop 0 (by omega)) (List.forall_mem_cons.mpr ⟨rfl, List.forall_mem_cons.mpr ⟨rfl, List.forall_mem_cons.mpr ⟨rfl, List.forall_mem_cons.mpr ⟨rfl, List.forall_mem_cons.mpr ⟨rfl, fun _ h => absurd h List.not_mem_nil⟩⟩⟩⟩⟩))
    refine r_iload_n (i := 0) hX dX8_lay_56 rfl (RR.pc (b := 57) rfl ?_)
    refine r_iconst (v := 2) hX dX8_lay_57 (by decide) (RR.pc (b := 58) rfl ?_)
    refine r_icmp_ne (tgt := 74) hX dX8_lay_58 rfl (fun h58 => ?_) (fun h58 => RR.pc (b := 61) rfl ?_)
    · exact RR.cut (rest (fun z => by first | exact h58 z.1 | exact absurd z.2 (Int32.not_lt.mpr h67))) (List.forall_mem_cons.mpr ⟨rfl, List.forall_mem_cons.mpr ⟨rfl, List.forall_mem_cons.mpr ⟨rfl, List.forall_mem_cons.mpr ⟨rfl, fun _ h => absurd h List.not_mem_nil⟩⟩⟩⟩)
    · refine r_aload_n hX dX8_lay_61 rfl ⟨_, rfl⟩ (RR.pc (b := 62) rfl ?_)
      refine r_getr hX dX8_lay_62 fl_X8_19 (by first | rfl | assumption) rfl (RR.pc (b := 65) rfl ?_)
      refine r_iload_n (i := 0) hX dX8_lay_65 rfl (RR.pc (b := 66) rfl ?_)
      refine r_iald hX dX8_lay_66 (by first | rfl | assumption) (j := k.toNatClampNeg) (hk2 h58).1 (by have := (hk2 h58).2; omega) (by decide) (by first | exact Nat.zero_add _ | rfl) (RR.pc (b := 67) rfl ?_)
      refine r_if_ge (tgt := 74) hX dX8_lay_67 rfl (fun h67 => ?_) (fun h67 => RR.pc (b := 70) rfl ?_)
      · exact RR.cut (rest (fun z => by first | exact h58 z.1 | exact absurd z.2 (Int32.not_lt.mpr h67))) (List.forall_mem_cons.mpr ⟨rfl, List.forall_mem_cons.mpr ⟨rfl, List.forall_mem_cons.mpr ⟨rfl, List.forall_mem_cons.mpr ⟨rfl, fun _ h => absurd h List.not_mem_nil⟩⟩⟩⟩)
      · refine r_ldcw hX dX8_lay_70 kc_X8_291 (RR.pc (b := 73) rfl ?_)
        exact r_iret hX hZ dX8_lay_73 ⟨_, rfl, ⟨same.rf, fun z => z.elim (fun e => (ns hix e).elim) (fun e => absurd hg e), fun j e _ => by have q := se hix e; subst q; exact ⟨fun _ => ⟨rfl, rfl⟩, fun z => absurd ⟨h58, Int32.not_le.mp h67⟩ z⟩⟩⟩
  have t39 : ∀ g : Int32, (g = 1 ∧ layG n thing k) ∨ (g = 0 ∧ ¬ layG n thing k) → RR X G 7 39 (ll [(0, rf G 109), (1, .int slot), (2, .int thing), (3, .int k)]) [.int g] σ := by
    intro g hg
    refine r_istore hX dX8_lay_39 (by decide) (RR.pc (b := 41) rfl ?_)
    refine r_iload_n (i := 0) hX dX8_lay_41 rfl (RR.pc (b := 42) rfl ?_)
    refine r_callSie hX dX8_lay_42 ml_X8_300 cd_X8_isSlot st_X8_isSlot c_X8_isSlot (by decide) rfl rfl (Nat.le_of_ble_eq_true rfl) (RR.pc (b := 45) rfl ?_)
    refine r_if_eq_b (tgt := 53) hX dX8_lay_45 rfl (fun h45 => ?_) (fun h45 => RR.pc (b := 48) rfl ?_)
    · refine r_ldc hX dX8_lay_53 kc_X8_84 (RR.pc (b := 55) rfl ?_)
      exact r_iret hX hZ dX8_lay_55 ⟨_, rfl, ⟨same.rf, fun _ => ⟨rfl, rfl⟩, fun i e gg => by obtain ⟨q1, rfl⟩ := ix_lt e (by omega); first | exact absurd ⟨by rw [nI_toInt (by omega)]; omega, by rw [nI_toInt (by omega)]; omega⟩ h45 | (rcases hg with ⟨rfl, _⟩ | ⟨_, z⟩; exact absurd h50 (by decide); exact absurd gg z)⟩⟩
    · refine r_iload hX dX8_lay_48 rfl (RR.pc (b := 50) rfl ?_)
      refine r_if_ne (tgt := 56) hX dX8_lay_50 rfl (fun h50 => ?_) (fun h50 => RR.pc (b := 53) rfl ?_)
      · obtain ⟨i, hi, e⟩ := ix_of (n := 5) (k := slot) ⟨by omega, by omega⟩ (by omega)
        exact RR.cut (main i hi e (by rcases hg with ⟨_, z⟩ | ⟨rfl, _⟩; exact z; exact absurd rfl h50)) (List.forall_mem_cons.mpr ⟨rfl, List.forall_mem_cons.mpr ⟨rfl, List.forall_mem_cons.mpr ⟨rfl, List.forall_mem_cons.mpr ⟨rfl, fun _ h => absurd h List.not_mem_nil⟩⟩⟩⟩)
      · refine r_ldc hX dX8_lay_53 kc_X8_84 (RR.pc (b := 55) rfl ?_)
        exact r_iret hX hZ dX8_lay_55 ⟨_, rfl, ⟨same.rf, fun _ => ⟨rfl, rfl⟩, fun i e gg => by obtain ⟨q1, rfl⟩ := ix_lt e (by omega); first | exact absurd ⟨by rw [nI_toInt (by omega)]; omega, by rw [nI_toInt (by omega)]; omega⟩ h45 | (rcases hg with ⟨rfl, _⟩ | ⟨_, z⟩; exact absurd h50 (by decide); exact absurd gg z)⟩⟩
  refine r_iload_n (i := 0) hX dX8_lay_0 rfl (RR.pc (b := 1) rfl ?_)
  refine r_if_eq (tgt := 34) hX dX8_lay_1 rfl (fun h1 => ?_) (fun h1 => RR.pc (b := 4) rfl ?_)
  · refine r_iconst (v := 1) hX dX8_lay_34 (by decide) (RR.pc (b := 35) rfl ?_)
    refine r_goto (tgt := 39) hX dX8_lay_35 rfl ?_
    exact RR.cut (t39 1 (Or.inl ⟨rfl, by unfold layG; first | exact Or.inl h1 | exact Or.inr (Or.inl h6) | exact Or.inr (Or.inr (Or.inl ⟨h11, h19⟩)) | exact Or.inr (Or.inr (Or.inr ⟨h24, h31⟩))⟩)) (List.forall_mem_cons.mpr ⟨rfl, List.forall_mem_cons.mpr ⟨rfl, List.forall_mem_cons.mpr ⟨rfl, List.forall_mem_cons.mpr ⟨rfl, fun _ h => absurd h List.not_mem_nil⟩⟩⟩⟩)
  · refine r_iload_n (i := 0) hX dX8_lay_4 rfl (RR.pc (b := 5) rfl ?_)
    refine r_iconst (v := 3) hX dX8_lay_5 (by decide) (RR.pc (b := 6) rfl ?_)
    refine r_icmp_eq (tgt := 34) hX dX8_lay_6 rfl (fun h6 => ?_) (fun h6 => RR.pc (b := 9) rfl ?_)
    · refine r_iconst (v := 1) hX dX8_lay_34 (by decide) (RR.pc (b := 35) rfl ?_)
      refine r_goto (tgt := 39) hX dX8_lay_35 rfl ?_
      exact RR.cut (t39 1 (Or.inl ⟨rfl, by unfold layG; first | exact Or.inl h1 | exact Or.inr (Or.inl h6) | exact Or.inr (Or.inr (Or.inl ⟨h11, h19⟩)) | exact Or.inr (Or.inr (Or.inr ⟨h24, h31⟩))⟩)) (List.forall_mem_cons.mpr ⟨rfl, List.forall_mem_cons.mpr ⟨rfl, List.forall_mem_cons.mpr ⟨rfl, List.forall_mem_cons.mpr ⟨rfl, fun _ h => absurd h List.not_mem_nil⟩⟩⟩⟩)
    · refine r_iload_n (i := 0) hX dX8_lay_9 rfl (RR.pc (b := 10) rfl ?_)
      refine r_iconst (v := 1) hX dX8_lay_10 (by decide) (RR.pc (b := 11) rfl ?_)
      refine r_icmp_ne (tgt := 22) hX dX8_lay_11 rfl (fun h11 => ?_) (fun h11 => RR.pc (b := 14) rfl ?_)
      · refine r_iload_n (i := 0) hX dX8_lay_22 rfl (RR.pc (b := 23) rfl ?_)
        refine r_iconst (v := 2) hX dX8_lay_23 (by decide) (RR.pc (b := 24) rfl ?_)
        refine r_icmp_ne (tgt := 38) hX dX8_lay_24 rfl (fun h24 => ?_) (fun h24 => RR.pc (b := 27) rfl ?_)
        · refine r_iconst (v := 0) hX dX8_lay_38 (by decide) (RR.pc (b := 39) rfl ?_)
          exact RR.cut (t39 0 (Or.inr ⟨rfl, by rintro (e | e | ⟨e, c⟩ | ⟨e, c⟩); exact h1 e; exact h6 e; (first | exact h11 e | exact h19 c); (first | exact h24 e | exact h31 c)⟩)) (List.forall_mem_cons.mpr ⟨rfl, List.forall_mem_cons.mpr ⟨rfl, List.forall_mem_cons.mpr ⟨rfl, List.forall_mem_cons.mpr ⟨rfl, fun _ h => absurd h List.not_mem_nil⟩⟩⟩⟩)
        · refine r_iload_n (i := 0) hX dX8_lay_27 rfl (RR.pc (b := 28) rfl ?_)
          refine r_callSie hX dX8_lay_28 ml_X8_285 cd_X8_isSheet st_X8_isSheet c_X8_isSheet (by decide) rfl rfl (Nat.le_of_ble_eq_true rfl) (RR.pc (b := 31) rfl ?_)
          refine r_if_eq_b (tgt := 38) hX dX8_lay_31 rfl (fun h31 => ?_) (fun h31 => RR.pc (b := 34) rfl ?_)
          · refine r_iconst (v := 0) hX dX8_lay_38 (by decide) (RR.pc (b := 39) rfl ?_)
            exact RR.cut (t39 0 (Or.inr ⟨rfl, by rintro (e | e | ⟨e, c⟩ | ⟨e, c⟩); exact h1 e; exact h6 e; (first | exact h11 e | exact h19 c); (first | exact h24 e | exact h31 c)⟩)) (List.forall_mem_cons.mpr ⟨rfl, List.forall_mem_cons.mpr ⟨rfl, List.forall_mem_cons.mpr ⟨rfl, List.forall_mem_cons.mpr ⟨rfl, fun _ h => absurd h List.not_mem_nil⟩⟩⟩⟩)
          · refine r_iconst (v := 1) hX dX8_lay_34 (by decide) (RR.pc (b := 35) rfl ?_)
            refine r_goto (tgt := 39) hX dX8_lay_35 rfl ?_
            exact RR.cut (t39 1 (Or.inl ⟨rfl, by unfold layG; first | exact Or.inl h1 | exact Or.inr (Or.inl h6) | exact Or.inr (Or.inr (Or.inl ⟨h11, h19⟩)) | exact Or.inr (Or.inr (Or.inr ⟨h24, h31⟩))⟩)) (List.forall_mem_cons.mpr ⟨rfl, List.forall_mem_cons.mpr ⟨rfl, List.forall_mem_cons.mpr ⟨rfl, List.forall_mem_cons.mpr ⟨rfl, fun _ h => absurd h List.not_mem_nil⟩⟩⟩⟩)
      · refine r_aload_n hX dX8_lay_14 rfl ⟨_, rfl⟩ (RR.pc (b := 15) rfl ?_)
        refine r_iload_n (i := 0) hX dX8_lay_15 rfl (RR.pc (b := 16) rfl ?_)
        refine r_callVie hX dX8_lay_16 ml_X8_104 cd_X8_isMule iv_X8_isMule (c_X8_isMule hN h8) (by decide) (by first | rfl | assumption) rfl rfl rfl rfl (Nat.le_of_ble_eq_true rfl) (RR.pc (b := 19) rfl ?_)
        refine r_if_ne_b (tgt := 34) hX dX8_lay_19 rfl (fun h19 => ?_) (fun h19 => RR.pc (b := 22) rfl ?_)
        · refine r_iconst (v := 1) hX dX8_lay_34 (by decide) (RR.pc (b := 35) rfl ?_)
          refine r_goto (tgt := 39) hX dX8_lay_35 rfl ?_
          exact RR.cut (t39 1 (Or.inl ⟨rfl, by unfold layG; first | exact Or.inl h1 | exact Or.inr (Or.inl h6) | exact Or.inr (Or.inr (Or.inl ⟨h11, h19⟩)) | exact Or.inr (Or.inr (Or.inr ⟨h24, h31⟩))⟩)) (List.forall_mem_cons.mpr ⟨rfl, List.forall_mem_cons.mpr ⟨rfl, List.forall_mem_cons.mpr ⟨rfl, List.forall_mem_cons.mpr ⟨rfl, fun _ h => absurd h List.not_mem_nil⟩⟩⟩⟩)
        · refine r_iload_n (i := 0) hX dX8_lay_22 rfl (RR.pc (b := 23) rfl ?_)
          refine r_iconst (v := 2) hX dX8_lay_23 (by decide) (RR.pc (b := 24) rfl ?_)
          refine r_icmp_ne (tgt := 38) hX dX8_lay_24 rfl (fun h24 => ?_) (fun h24 => RR.pc (b := 27) rfl ?_)
          · refine r_iconst (v := 0) hX dX8_lay_38 (by decide) (RR.pc (b := 39) rfl ?_)
            exact RR.cut (t39 0 (Or.inr ⟨rfl, by rintro (e | e | ⟨e, c⟩ | ⟨e, c⟩); exact h1 e; exact h6 e; (first | exact h11 e | exact h19 c); (first | exact h24 e | exact h31 c)⟩)) (List.forall_mem_cons.mpr ⟨rfl, List.forall_mem_cons.mpr ⟨rfl, List.forall_mem_cons.mpr ⟨rfl, List.forall_mem_cons.mpr ⟨rfl, fun _ h => absurd h List.not_mem_nil⟩⟩⟩⟩)
          · refine r_iload_n (i := 0) hX dX8_lay_27 rfl (RR.pc (b := 28) rfl ?_)
            refine r_callSie hX dX8_lay_28 ml_X8_285 cd_X8_isSheet st_X8_isSheet c_X8_isSheet (by decide) rfl rfl (Nat.le_of_ble_eq_true rfl) (RR.pc (b := 31) rfl ?_)
            refine r_if_eq_b (tgt := 38) hX dX8_lay_31 rfl (fun h31 => ?_) (fun h31 => RR.pc (b := 34) rfl ?_)
            · refine r_iconst (v := 0) hX dX8_lay_38 (by decide) (RR.pc (b := 39) rfl ?_)
              exact RR.cut (t39 0 (Or.inr ⟨rfl, by rintro (e | e | ⟨e, c⟩ | ⟨e, c⟩); exact h1 e; exact h6 e; (first | exact h11 e | exact h19 c); (first | exact h24 e | exact h31 c)⟩)) (List.forall_mem_cons.mpr ⟨rfl, List.forall_mem_cons.mpr ⟨rfl, List.forall_mem_cons.mpr ⟨rfl, List.forall_mem_cons.mpr ⟨rfl, fun _ h => absurd h List.not_mem_nil⟩⟩⟩⟩)
            · refine r_iconst (v := 1) hX dX8_lay_34 (by decide) (RR.pc (b := 35) rfl ?_)
              refine r_goto (tgt := 39) hX dX8_lay_35 rfl ?_
              exact RR.cut (t39 1 (Or.inl ⟨rfl, by unfold layG; first | exact Or.inl h1 | exact Or.inr (Or.inl h6) | exact Or.inr (Or.inr (Or.inl ⟨h11, h19⟩)) | exact Or.inr (Or.inr (Or.inr ⟨h24, h31⟩))⟩)) (List.forall_mem_cons.mpr ⟨rfl, List.forall_mem_cons.mpr ⟨rfl, List.forall_mem_cons.mpr ⟨rfl, List.forall_mem_cons.mpr ⟨rfl, fun _ h => absurd h List.not_mem_nil⟩⟩⟩⟩)
