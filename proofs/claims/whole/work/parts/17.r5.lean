/-! the reference: what will be -/
set_option maxHeartbeats 4000000 in
set_option maxRecDepth 100000 in
theorem c_X8_laysBy {G : GM} {σ : SG} : CU G yX8_laysBy cX8_laysBy 2 none 0 [rf G 109] σ (fun s => s = sr σ 31 (cpL (σ 31) (σ 20) 171)) := by
  refine Con.of cd_X8_laysBy (Nat.le_of_ble_eq_true rfl) ?_
  intro X hX hZ
  have hX : Fx X G RX8 cX8_laysBy 2 0 := hX
  show RR X G 2 0 (ll [(0, rf G 109)]) [] σ
  have loop := loopK 171 (fun k => RR X G 2 2 (ll [(0, rf G 109), (1, .int (nI k))]) [] (sr σ 31 (cpL (σ 31) (σ 20) k))) (by
    intro k hk ih
    refine r_iload_n (i := 0) hX dX8_laysBy_2 rfl (RR.pc (b := 3) rfl ?_)
    refine r_sipush (v := 171) hX dX8_laysBy_3 (by decide) (RR.pc (b := 6) rfl ?_)
    refine r_icmp_ge (tgt := 27) hX dX8_laysBy_6 rfl (fun h6 => ?_) (fun h6 => RR.pc (b := 9) rfl ?_)
    · have hk2 : k = 171 := by rw [show (171 : Int32) = nI 171 from rfl, nI_leI (by omega) (by omega)] at h6; omega
      subst hk2
      exact r_vret hX hZ dX8_laysBy_27 ⟨rfl, rfl⟩
    · have hk2 : k < 171 := by rw [show (171 : Int32) = nI 171 from rfl, nI_leI (by omega) (by omega)] at h6; omega
      refine r_aload_n hX dX8_laysBy_9 rfl ⟨_, rfl⟩ (RR.pc (b := 10) rfl ?_)
      refine r_getr hX dX8_laysBy_10 fl_X8_43 (by first | rfl | assumption) rfl (RR.pc (b := 13) rfl ?_)
      refine r_iload_n (i := 0) hX dX8_laysBy_13 rfl (RR.pc (b := 14) rfl ?_)
      refine r_aload_n hX dX8_laysBy_14 rfl ⟨_, rfl⟩ (RR.pc (b := 15) rfl ?_)
      refine r_getr hX dX8_laysBy_15 fl_X8_7 (by first | rfl | assumption) rfl (RR.pc (b := 18) rfl ?_)
      refine r_iload_n (i := 0) hX dX8_laysBy_18 rfl (RR.pc (b := 19) rfl ?_)
      refine r_iald hX dX8_laysBy_19 (by first | rfl | assumption) rfl (by omega) (by decide) (by first | exact Nat.zero_add _ | rfl) (RR.pc (b := 20) rfl ?_)
      rw [sr_ne (by decide)]
      refine r_iast hX dX8_laysBy_20 (by first | rfl | assumption) rfl (by omega) (by decide) (by first | exact Nat.zero_add _ | rfl) (RR.pc (b := 21) rfl ?_)
      refine r_iinc hX dX8_laysBy_21 rfl (by decide) (nI_1 k) (RR.pc (b := 24) rfl ?_)
      refine r_goto (tgt := 2) hX dX8_laysBy_24 rfl ?_
      exact RR.eqs (by rw [su_sr, cpL_succ]) (RR.cut (ih hk2) (List.forall_mem_cons.mpr ⟨rfl, List.forall_mem_cons.mpr ⟨rfl, fun _ h => absurd h List.not_mem_nil⟩⟩))
    )
  refine r_iconst (v := 0) hX dX8_laysBy_0 (by decide) (RR.pc (b := 1) rfl ?_)
  refine r_istore_n hX dX8_laysBy_1 (by decide) (RR.pc (b := 2) rfl ?_)
  exact RR.eqs (show σ = sr σ 31 (cpL (σ 31) (σ 20) 0) from sr_self.symm) (RR.cut (loop 0 (by omega)) (List.forall_mem_cons.mpr ⟨rfl, List.forall_mem_cons.mpr ⟨rfl, fun _ h => absurd h List.not_mem_nil⟩⟩))
set_option maxHeartbeats 4000000 in
set_option maxRecDepth 100000 in
theorem c_X8_laysBack {G : GM} {σ : SG} : CU G yX8_laysBack cX8_laysBack 2 none 0 [rf G 109] σ (fun s => s = sr σ 20 (cpL (σ 20) (σ 31) 171)) := by
  refine Con.of cd_X8_laysBack (Nat.le_of_ble_eq_true rfl) ?_
  intro X hX hZ
  have hX : Fx X G RX8 cX8_laysBack 2 0 := hX
  show RR X G 2 0 (ll [(0, rf G 109)]) [] σ
  have loop := loopK 171 (fun k => RR X G 2 2 (ll [(0, rf G 109), (1, .int (nI k))]) [] (sr σ 20 (cpL (σ 20) (σ 31) k))) (by
    intro k hk ih
    refine r_iload_n (i := 0) hX dX8_laysBack_2 rfl (RR.pc (b := 3) rfl ?_)
    refine r_sipush (v := 171) hX dX8_laysBack_3 (by decide) (RR.pc (b := 6) rfl ?_)
    refine r_icmp_ge (tgt := 27) hX dX8_laysBack_6 rfl (fun h6 => ?_) (fun h6 => RR.pc (b := 9) rfl ?_)
    · have hk2 : k = 171 := by rw [show (171 : Int32) = nI 171 from rfl, nI_leI (by omega) (by omega)] at h6; omega
      subst hk2
      exact r_vret hX hZ dX8_laysBack_27 ⟨rfl, rfl⟩
    · have hk2 : k < 171 := by rw [show (171 : Int32) = nI 171 from rfl, nI_leI (by omega) (by omega)] at h6; omega
      refine r_aload_n hX dX8_laysBack_9 rfl ⟨_, rfl⟩ (RR.pc (b := 10) rfl ?_)
      refine r_getr hX dX8_laysBack_10 fl_X8_7 (by first | rfl | assumption) rfl (RR.pc (b := 13) rfl ?_)
      refine r_iload_n (i := 0) hX dX8_laysBack_13 rfl (RR.pc (b := 14) rfl ?_)
      refine r_aload_n hX dX8_laysBack_14 rfl ⟨_, rfl⟩ (RR.pc (b := 15) rfl ?_)
      refine r_getr hX dX8_laysBack_15 fl_X8_43 (by first | rfl | assumption) rfl (RR.pc (b := 18) rfl ?_)
      refine r_iload_n (i := 0) hX dX8_laysBack_18 rfl (RR.pc (b := 19) rfl ?_)
      refine r_iald hX dX8_laysBack_19 (by first | rfl | assumption) rfl (by omega) (by decide) (by first | exact Nat.zero_add _ | rfl) (RR.pc (b := 20) rfl ?_)
      rw [sr_ne (by decide)]
      refine r_iast hX dX8_laysBack_20 (by first | rfl | assumption) rfl (by omega) (by decide) (by first | exact Nat.zero_add _ | rfl) (RR.pc (b := 21) rfl ?_)
      refine r_iinc hX dX8_laysBack_21 rfl (by decide) (nI_1 k) (RR.pc (b := 24) rfl ?_)
      refine r_goto (tgt := 2) hX dX8_laysBack_24 rfl ?_
      exact RR.eqs (by rw [su_sr, cpL_succ]) (RR.cut (ih hk2) (List.forall_mem_cons.mpr ⟨rfl, List.forall_mem_cons.mpr ⟨rfl, fun _ h => absurd h List.not_mem_nil⟩⟩))
    )
  refine r_iconst (v := 0) hX dX8_laysBack_0 (by decide) (RR.pc (b := 1) rfl ?_)
  refine r_istore_n hX dX8_laysBack_1 (by decide) (RR.pc (b := 2) rfl ?_)
  exact RR.eqs (show σ = sr σ 20 (cpL (σ 20) (σ 31) 0) from sr_self.symm) (RR.cut (loop 0 (by omega)) (List.forall_mem_cons.mpr ⟨rfl, List.forall_mem_cons.mpr ⟨rfl, fun _ h => absurd h List.not_mem_nil⟩⟩))
theorem laid {σ σ1 : SG} {l : List Nat} (h20 : ∀ i, 171 ≤ i → σ1 20 i = σ 20 i) (h31 : σ1 31 = cpL (σ 31) (σ 20) 171) (hs : same l σ σ1) (hl : ∀ x ∈ l, x = 20 ∨ x = 31 ∨ x = 33 ∨ x = 34) : same [31, 33, 34] σ (sr σ1 20 (cpL (σ1 20) (σ1 31) 171)) := by
  intro r hr
  by_cases e : r = 20
  · subst e
    rw [sr_eq, h31, cpL_back h20]
  · rw [sr_ne e]
    refine hs r (fun q => ?_)
    simp only [List.mem_cons, List.not_mem_nil, or_false, not_or] at hr
    rcases hl r q with z | z | z | z
    · exact e z
    · exact hr.1 z
    · exact hr.2.1 z
    · exact hr.2.2 z
theorem RT_after {w w' : Nat → Int32} {Ts : Nat → Tx} {nt : Nat} (h : RT w Ts nt) (e : ∀ i, (i = 0 ∨ i = 1 ∨ (7 ≤ i ∧ i < 11) ∨ 171 ≤ i) → w' i = w i) : RT w' Ts nt := h.congr (e 1 (by omega)) (fun i hi => e i (by omega))
set_option maxHeartbeats 4000000 in
set_option maxRecDepth 100000 in
theorem c_X8_behind {G : GM} {σ : SG} {Ts : Nat → Tx} {nt n m : Nat} {q what : Int32} (hT : RT (σ 20) Ts nt) (hW : WO (σ 20) n m) (hm : m ≤ 9999) : CI G yX8_behind cX8_behind 4 (some .int) 6 [rf G 109, .int q, .int what] σ (fun r s => r = behF (lkV Ts nt) n (σ 20) q what ∧ same [31, 33, 34] σ s) := by
  refine Con.of cd_X8_behind (Nat.le_of_ble_eq_true rfl) ?_
  intro X hX hZ
  have hX : Fx X G RX8 cX8_behind 4 6 := hX
  show RR X G 4 0 (ll [(0, rf G 109), (1, .int q), (2, .int what)]) [] σ
  have hV : VO (lkV Ts nt) := lkV_VO
  have h8 := hW.2.1
  have bad : ¬ ((0 ≤ q.toInt ∧ q.toInt ≤ 100) ∧ (0 ≤ what.toInt ∧ what.toInt ≤ 2 + n)) → RR X G 4 30 (ll [(0, rf G 109)]) [] σ := by
    intro h
    refine r_ldc hX dX8_behind_30 kc_X8_84 (RR.pc (b := 32) rfl ?_)
    exact r_iret hX hZ dX8_behind_32 ⟨_, rfl, ⟨by unfold behF; rw [if_neg h], same.rf⟩⟩
  refine r_iload_n (i := 0) hX dX8_behind_0 rfl (RR.pc (b := 1) rfl ?_)
  refine r_i2l hX dX8_behind_1 (RR.pc (b := 2) rfl ?_)
  refine r_lconst (v := 0) hX dX8_behind_2 rfl (RR.pc (b := 3) rfl ?_)
  refine r_ldc2 hX dX8_behind_3 k2_X8_132 (RR.pc (b := 6) rfl ?_)
  refine r_callSie hX dX8_behind_6 ml_X8_65 cd_X8_isIn st_X8_isIn c_X8_isIn (by decide) rfl rfl (Nat.le_of_ble_eq_true rfl) (RR.pc (b := 9) rfl ?_)
  refine r_if_eq_b (tgt := 30) hX dX8_behind_9 rfl (fun h9 => RR.cut (bad (fun z => h9 (by simp only [Int32.toInt_toInt64, Int64.reduceToInt]; exact z.1))) (List.forall_mem_cons.mpr ⟨rfl, fun _ h => absurd h List.not_mem_nil⟩)) (fun h9 => RR.pc (b := 12) rfl ?_)
  simp only [Int32.toInt_toInt64, Int64.reduceToInt] at h9
  refine r_iload_n (i := 0) hX dX8_behind_12 rfl (RR.pc (b := 13) rfl ?_)
  refine r_i2l hX dX8_behind_13 (RR.pc (b := 14) rfl ?_)
  refine r_lconst (v := 0) hX dX8_behind_14 rfl (RR.pc (b := 15) rfl ?_)
  refine r_iconst (v := 2) hX dX8_behind_15 (by decide) (RR.pc (b := 16) rfl ?_)
  refine r_aload_n hX dX8_behind_16 rfl ⟨_, rfl⟩ (RR.pc (b := 17) rfl ?_)
  refine r_getr hX dX8_behind_17 fl_X8_7 (by first | rfl | assumption) rfl (RR.pc (b := 20) rfl ?_)
  refine r_iconst (v := 0) hX dX8_behind_20 (by decide) (RR.pc (b := 21) rfl ?_)
  refine r_iald hX dX8_behind_21 (by first | rfl | assumption) (by first | rfl | assumption) (by first | decide | assumption | omega) (by decide) (by first | exact Nat.zero_add _ | rfl) (RR.pc (b := 22) rfl ?_)
  rw [hW.1, show (2 : Int32) = nI 2 from rfl]
  refine r_iadd hX dX8_behind_22 (RR.pc (b := 23) rfl ?_)
  rw [nI_add]
  refine r_i2l hX dX8_behind_23 (RR.pc (b := 24) rfl ?_)
  refine r_callSie hX dX8_behind_24 ml_X8_65 cd_X8_isIn st_X8_isIn c_X8_isIn (by decide) rfl rfl (Nat.le_of_ble_eq_true rfl) (RR.pc (b := 27) rfl ?_)
  have e27 : ((0 : Int64).toInt ≤ what.toInt64.toInt ∧ what.toInt64.toInt ≤ (nI (2 + n)).toInt64.toInt) ↔ (0 ≤ what.toInt ∧ what.toInt ≤ 2 + n) := by
    simp only [Int32.toInt_toInt64, Int64.reduceToInt]
    rw [nI_toInt (by omega)]
    omega
  refine r_if_ne_b (tgt := 33) hX dX8_behind_27 rfl (fun h27 => ?_) (fun h27 => RR.pc (b := 30) rfl (RR.cut (bad (fun z => h27 (e27.mpr z.2))) (List.forall_mem_cons.mpr ⟨rfl, fun _ h => absurd h List.not_mem_nil⟩)))
  rw [e27] at h27
  obtain ⟨c, hc, rfl⟩ := ix_of (n := 101) (k := q) ⟨by omega, by omega⟩ (by omega)
  have eF : behF (lkV Ts nt) n (σ 20) (nI c) what = (if what = 0 then sumW (minN (lkV Ts nt) n (σ 20) c) 11 60 else if what = 1 then minN (lkV Ts nt) n (σ 20) c 4 else if what = 2 then minN (lkV Ts nt) n (σ 20) c 5 else minN (lkV Ts nt) n (σ 20) c (131 + 5 * (what.toNatClampNeg - 3) + 3)) := by
    unfold behF
    rw [if_pos ⟨h9, h27⟩, nI_clamp (by omega)]
  rw [eF] at hZ
  refine r_aload_n hX dX8_behind_33 rfl ⟨_, rfl⟩ (RR.pc (b := 34) rfl ?_)
  refine r_callVve hX dX8_behind_34 ml_X8_166 cd_X8_laysBy iv_X8_laysBy c_X8_laysBy (by decide) (by first | rfl | assumption) rfl rfl rfl rfl (Nat.le_of_ble_eq_true rfl) (RR.pc (b := 37) rfl ?_)
  refine r_aload_n hX dX8_behind_37 rfl ⟨_, rfl⟩ (RR.pc (b := 38) rfl ?_)
  refine r_iload_n (i := 0) hX dX8_behind_38 rfl (RR.pc (b := 39) rfl ?_)
  refine r_callVv hX dX8_behind_39 ml_X8_169 cd_X8_goesOnMany iv_X8_goesOnMany (c_X8_goesOnMany (Ts := Ts) (nt := nt) (n := n) (m := m) (by rw [sr_ne (by decide)]; exact hT) (by rw [sr_ne (by decide)]; exact hW) (by omega)) (by decide) (by first | rfl | assumption) rfl rfl rfl rfl (Nat.le_of_ble_eq_true rfl) (fun s_39 e_39 => RR.pc (b := 42) rfl ?_)
  obtain ⟨e39, hs39⟩ := e_39
  rw [sr_ne (by decide)] at e39
  have hs : same [20, 31, 33, 34] σ s_39 := ((same.rf.sr (by simp)).tr (hs39.mono (by simp)))
  have h31 : s_39 31 = cpL (σ 31) (σ 20) 171 := (hs39 31 (by decide)).trans sr_eq
  have h20 : ∀ i, 171 ≤ i → s_39 20 i = σ 20 i := fun i hi => by rw [e39]; exact minN_out hV hW (by omega) c
  have fin : ∀ v, v = (if what = 0 then sumW (minN (lkV Ts nt) n (σ 20) c) 11 60 else if what = 1 then minN (lkV Ts nt) n (σ 20) c 4 else if what = 2 then minN (lkV Ts nt) n (σ 20) c 5 else minN (lkV Ts nt) n (σ 20) c (131 + 5 * (what.toNatClampNeg - 3) + 3)) → RR X G 4 91 (ll [(0, rf G 109)]) [.int v] s_39 := by
    intro v hv
    refine r_istore_n hX dX8_behind_91 (by decide) (RR.pc (b := 92) rfl ?_)
    refine r_aload_n hX dX8_behind_92 rfl ⟨_, rfl⟩ (RR.pc (b := 93) rfl ?_)
    refine r_callVve hX dX8_behind_93 ml_X8_172 cd_X8_laysBack iv_X8_laysBack c_X8_laysBack (by decide) (by first | rfl | assumption) rfl rfl rfl rfl (Nat.le_of_ble_eq_true rfl) (RR.pc (b := 96) rfl ?_)
    refine r_iload_n (i := 0) hX dX8_behind_96 rfl (RR.pc (b := 97) rfl ?_)
    exact r_iret hX hZ dX8_behind_97 ⟨_, rfl, ⟨hv, laid h20 h31 hs (by simp)⟩⟩
  refine r_iload_n (i := 0) hX dX8_behind_42 rfl (RR.pc (b := 43) rfl ?_)
  refine r_if_ne (tgt := 55) hX dX8_behind_43 rfl (fun h43 => ?_) (fun h43 => RR.pc (b := 46) rfl ?_)
  · refine r_iload_n (i := 0) hX dX8_behind_55 rfl (RR.pc (b := 56) rfl ?_)
    refine r_iconst (v := 1) hX dX8_behind_56 (by decide) (RR.pc (b := 57) rfl ?_)
    refine r_icmp_ne (tgt := 69) hX dX8_behind_57 rfl (fun h57 => ?_) (fun h57 => RR.pc (b := 60) rfl ?_)
    · refine r_iload_n (i := 0) hX dX8_behind_69 rfl (RR.pc (b := 70) rfl ?_)
      refine r_iconst (v := 2) hX dX8_behind_70 (by decide) (RR.pc (b := 71) rfl ?_)
      refine r_icmp_ne (tgt := 83) hX dX8_behind_71 rfl (fun h71 => ?_) (fun h71 => RR.pc (b := 74) rfl ?_)
      · obtain ⟨b, hb, rfl⟩ := ix_of (n := 3 + n) (k := what) ⟨by omega, by omega⟩ (by omega)
        have hb3 : 3 ≤ b := by
          have a0 : b ≠ 0 := fun e => h43 (by rw [e]; rfl)
          have a1 : b ≠ 1 := fun e => h57 (by rw [e]; rfl)
          have a2 : b ≠ 2 := fun e => h71 (by rw [e]; rfl)
          omega
        refine r_aload_n hX dX8_behind_83 rfl ⟨_, rfl⟩ (RR.pc (b := 84) rfl ?_)
        refine r_iload_n (i := 0) hX dX8_behind_84 rfl (RR.pc (b := 85) rfl ?_)
        refine r_iconst (v := 3) hX dX8_behind_85 (by decide) (RR.pc (b := 86) rfl ?_)
        refine r_isub hX dX8_behind_86 (RR.pc (b := 87) rfl ?_)
        refine r_iconst (v := 3) hX dX8_behind_87 (by decide) (RR.pc (b := 88) rfl ?_)
        refine r_callVie hX dX8_behind_88 ml_X8_90 cd_X8_of iv_X8_of (c_X8_of (a := (nI b).toNatClampNeg - 3) (b := 3) (by rw [nI_clamp (by omega)]; exact pk_sub hb3) rfl rfl (by rw [nI_clamp (by omega)]; omega)) (by decide) (by first | rfl | assumption) rfl rfl rfl rfl (Nat.le_of_ble_eq_true rfl) (RR.pc (b := 91) rfl ?_)
        first | exact RR.cut (fin _ (by rw [e39, if_pos h43])) (List.forall_mem_cons.mpr ⟨rfl, fun _ h => absurd h List.not_mem_nil⟩) | exact RR.cut (fin _ (by rw [e39, if_neg h43, if_pos h57])) (List.forall_mem_cons.mpr ⟨rfl, fun _ h => absurd h List.not_mem_nil⟩) | exact RR.cut (fin _ (by rw [e39, if_neg h43, if_neg h57, if_pos h71])) (List.forall_mem_cons.mpr ⟨rfl, fun _ h => absurd h List.not_mem_nil⟩) | exact RR.cut (fin _ (by rw [e39, if_neg h43, if_neg h57, if_neg h71])) (List.forall_mem_cons.mpr ⟨rfl, fun _ h => absurd h List.not_mem_nil⟩)
      · refine r_aload_n hX dX8_behind_74 rfl ⟨_, rfl⟩ (RR.pc (b := 75) rfl ?_)
        refine r_getr hX dX8_behind_75 fl_X8_7 (by first | rfl | assumption) rfl (RR.pc (b := 78) rfl ?_)
        refine r_iconst (v := 5) hX dX8_behind_78 (by decide) (RR.pc (b := 79) rfl ?_)
        refine r_iald hX dX8_behind_79 (by first | rfl | assumption) (by first | rfl | assumption) (by first | decide | assumption | omega) (by decide) (by first | exact Nat.zero_add _ | rfl) (RR.pc (b := 80) rfl ?_)
        refine r_goto (tgt := 91) hX dX8_behind_80 rfl ?_
        first | exact RR.cut (fin _ (by rw [e39, if_pos h43])) (List.forall_mem_cons.mpr ⟨rfl, fun _ h => absurd h List.not_mem_nil⟩) | exact RR.cut (fin _ (by rw [e39, if_neg h43, if_pos h57])) (List.forall_mem_cons.mpr ⟨rfl, fun _ h => absurd h List.not_mem_nil⟩) | exact RR.cut (fin _ (by rw [e39, if_neg h43, if_neg h57, if_pos h71])) (List.forall_mem_cons.mpr ⟨rfl, fun _ h => absurd h List.not_mem_nil⟩) | exact RR.cut (fin _ (by rw [e39, if_neg h43, if_neg h57, if_neg h71])) (List.forall_mem_cons.mpr ⟨rfl, fun _ h => absurd h List.not_mem_nil⟩)
    · refine r_aload_n hX dX8_behind_60 rfl ⟨_, rfl⟩ (RR.pc (b := 61) rfl ?_)
      refine r_getr hX dX8_behind_61 fl_X8_7 (by first | rfl | assumption) rfl (RR.pc (b := 64) rfl ?_)
      refine r_iconst (v := 4) hX dX8_behind_64 (by decide) (RR.pc (b := 65) rfl ?_)
      refine r_iald hX dX8_behind_65 (by first | rfl | assumption) (by first | rfl | assumption) (by first | decide | assumption | omega) (by decide) (by first | exact Nat.zero_add _ | rfl) (RR.pc (b := 66) rfl ?_)
      refine r_goto (tgt := 91) hX dX8_behind_66 rfl ?_
      first | exact RR.cut (fin _ (by rw [e39, if_pos h43])) (List.forall_mem_cons.mpr ⟨rfl, fun _ h => absurd h List.not_mem_nil⟩) | exact RR.cut (fin _ (by rw [e39, if_neg h43, if_pos h57])) (List.forall_mem_cons.mpr ⟨rfl, fun _ h => absurd h List.not_mem_nil⟩) | exact RR.cut (fin _ (by rw [e39, if_neg h43, if_neg h57, if_pos h71])) (List.forall_mem_cons.mpr ⟨rfl, fun _ h => absurd h List.not_mem_nil⟩) | exact RR.cut (fin _ (by rw [e39, if_neg h43, if_neg h57, if_neg h71])) (List.forall_mem_cons.mpr ⟨rfl, fun _ h => absurd h List.not_mem_nil⟩)
  · refine r_aload_n hX dX8_behind_46 rfl ⟨_, rfl⟩ (RR.pc (b := 47) rfl ?_)
    refine r_bipush (v := 11) hX dX8_behind_47 (by decide) (RR.pc (b := 49) rfl ?_)
    refine r_callVie hX dX8_behind_49 ml_X8_157 cd_X8_allOf iv_X8_allOf (c_X8_allOf (o := 11) (by decide)) (by decide) (by first | rfl | assumption) rfl rfl rfl rfl (Nat.le_of_ble_eq_true rfl) (RR.pc (b := 52) rfl ?_)
    refine r_goto (tgt := 91) hX dX8_behind_52 rfl ?_
    first | exact RR.cut (fin _ (by rw [e39, if_pos h43])) (List.forall_mem_cons.mpr ⟨rfl, fun _ h => absurd h List.not_mem_nil⟩) | exact RR.cut (fin _ (by rw [e39, if_neg h43, if_pos h57])) (List.forall_mem_cons.mpr ⟨rfl, fun _ h => absurd h List.not_mem_nil⟩) | exact RR.cut (fin _ (by rw [e39, if_neg h43, if_neg h57, if_pos h71])) (List.forall_mem_cons.mpr ⟨rfl, fun _ h => absurd h List.not_mem_nil⟩) | exact RR.cut (fin _ (by rw [e39, if_neg h43, if_neg h57, if_neg h71])) (List.forall_mem_cons.mpr ⟨rfl, fun _ h => absurd h List.not_mem_nil⟩)
set_option maxHeartbeats 4000000 in
set_option maxRecDepth 100000 in
theorem c_X8_isEmpty {G : GM} {σ : SG} {n : Nat} (hN : σ 20 0 = nI n) (h8 : n ≤ 8) : CI G yX8_isEmpty cX8_isEmpty 2 (some .boolean) 1 [rf G 109] σ (fun r s => r = bz (thrP (σ 20) n) ∧ s = σ) := by
  refine Con.of cd_X8_isEmpty (Nat.le_of_ble_eq_true rfl) ?_
  intro X hX hZ
  have hX : Fx X G RX8 cX8_isEmpty 2 1 := hX
  show RR X G 2 0 (ll [(0, rf G 109)]) [] σ
  have loop := loopK n (fun k => (∀ j, j < k → ¬ (0 < σ 20 (131 + 5 * j + 3) ∧ σ 20 (131 + 5 * j + 2) < 59)) → RR X G 2 2 (ll [(0, rf G 109), (1, .int (nI k))]) [] σ) (by
    intro k hk ih hj
    refine r_iload_n (i := 0) hX dX8_isEmpty_2 rfl (RR.pc (b := 3) rfl ?_)
    refine r_aload_n hX dX8_isEmpty_3 rfl ⟨_, rfl⟩ (RR.pc (b := 4) rfl ?_)
    refine r_getr hX dX8_isEmpty_4 fl_X8_7 (by first | rfl | assumption) rfl (RR.pc (b := 7) rfl ?_)
    refine r_iconst (v := 0) hX dX8_isEmpty_7 (by decide) (RR.pc (b := 8) rfl ?_)
    refine r_iald hX dX8_isEmpty_8 (by first | rfl | assumption) (by first | rfl | assumption) (by first | decide | assumption | omega) (by decide) (by first | exact Nat.zero_add _ | rfl) (RR.pc (b := 9) rfl ?_)
    rw [hN]
    refine r_icmp_ge (tgt := 40) hX dX8_isEmpty_9 rfl (fun h9 => ?_) (fun h9 => RR.pc (b := 12) rfl ?_)
    · have hk2 : k = n := by rw [nI_leI (by omega) (by omega)] at h9; omega
      subst hk2
      refine r_iconst (v := 1) hX dX8_isEmpty_40 (by decide) (RR.pc (b := 41) rfl ?_)
      exact r_zret hX hZ dX8_isEmpty_41 (by first | rfl | exact nar_bz _) ⟨_, rfl, ⟨(bz_t hj).symm, rfl⟩⟩
    · have hk2 : k < n := by rw [nI_leI (by omega) (by omega)] at h9; omega
      refine r_aload_n hX dX8_isEmpty_12 rfl ⟨_, rfl⟩ (RR.pc (b := 13) rfl ?_)
      refine r_iload_n (i := 0) hX dX8_isEmpty_13 rfl (RR.pc (b := 14) rfl ?_)
      refine r_iconst (v := 3) hX dX8_isEmpty_14 (by decide) (RR.pc (b := 15) rfl ?_)
      refine r_callVie hX dX8_isEmpty_15 ml_X8_90 cd_X8_of iv_X8_of (c_X8_of (a := k) (b := 3) (q := 131 + 5 * k + 3) rfl rfl rfl (by omega)) (by decide) (by first | rfl | assumption) rfl rfl rfl rfl (Nat.le_of_ble_eq_true rfl) (RR.pc (b := 18) rfl ?_)
      refine r_if_le (tgt := 34) hX dX8_isEmpty_18 rfl (fun h18 => ?_) (fun h18 => RR.pc (b := 21) rfl ?_)
      · refine r_iinc hX dX8_isEmpty_34 rfl (by decide) (nI_1 k) (RR.pc (b := 37) rfl ?_)
        refine r_goto (tgt := 2) hX dX8_isEmpty_37 rfl ?_
        refine RR.cut (ih hk2 (fun j hjk => ?_)) (List.forall_mem_cons.mpr ⟨rfl, List.forall_mem_cons.mpr ⟨rfl, fun _ h => absurd h List.not_mem_nil⟩⟩)
        by_cases e : j = k
        · subst e
          first | exact fun z => absurd z.1 (Int32.not_lt.mpr h18) | exact fun z => absurd z.2 (Int32.not_lt.mpr h29)
        · exact hj j (by omega)
      · refine r_aload_n hX dX8_isEmpty_21 rfl ⟨_, rfl⟩ (RR.pc (b := 22) rfl ?_)
        refine r_iload_n (i := 0) hX dX8_isEmpty_22 rfl (RR.pc (b := 23) rfl ?_)
        refine r_iconst (v := 2) hX dX8_isEmpty_23 (by decide) (RR.pc (b := 24) rfl ?_)
        refine r_callVie hX dX8_isEmpty_24 ml_X8_90 cd_X8_of iv_X8_of (c_X8_of (a := k) (b := 2) (q := 131 + 5 * k + 2) rfl rfl rfl (by omega)) (by decide) (by first | rfl | assumption) rfl rfl rfl rfl (Nat.le_of_ble_eq_true rfl) (RR.pc (b := 27) rfl ?_)
        refine r_bipush (v := 59) hX dX8_isEmpty_27 (by decide) (RR.pc (b := 29) rfl ?_)
        refine r_icmp_ge (tgt := 34) hX dX8_isEmpty_29 rfl (fun h29 => ?_) (fun h29 => RR.pc (b := 32) rfl ?_)
        · refine r_iinc hX dX8_isEmpty_34 rfl (by decide) (nI_1 k) (RR.pc (b := 37) rfl ?_)
          refine r_goto (tgt := 2) hX dX8_isEmpty_37 rfl ?_
          refine RR.cut (ih hk2 (fun j hjk => ?_)) (List.forall_mem_cons.mpr ⟨rfl, List.forall_mem_cons.mpr ⟨rfl, fun _ h => absurd h List.not_mem_nil⟩⟩)
          by_cases e : j = k
          · subst e
            first | exact fun z => absurd z.1 (Int32.not_lt.mpr h18) | exact fun z => absurd z.2 (Int32.not_lt.mpr h29)
          · exact hj j (by omega)
        · refine r_iconst (v := 0) hX dX8_isEmpty_32 (by decide) (RR.pc (b := 33) rfl ?_)
          exact r_zret hX hZ dX8_isEmpty_33 (by first | rfl | exact nar_bz _) ⟨_, rfl, ⟨(bz_f (fun z => z k hk2 ⟨Int32.not_le.mp h18, Int32.not_le.mp h29⟩)).symm, rfl⟩⟩
    )
  refine r_iconst (v := 0) hX dX8_isEmpty_0 (by decide) (RR.pc (b := 1) rfl ?_)
  refine r_istore_n hX dX8_isEmpty_1 (by decide) (RR.pc (b := 2) rfl ?_)
  exact RR.cut (loop 0 (by omega) (fun j h => absurd h (Nat.not_lt_zero j))) (List.forall_mem_cons.mpr ⟨rfl, List.forall_mem_cons.mpr ⟨rfl, fun _ h => absurd h List.not_mem_nil⟩⟩)
set_option maxHeartbeats 4000000 in
set_option maxRecDepth 100000 in
theorem c_X8_empty {G : GM} {σ : SG} {Ts : Nat → Tx} {nt n m : Nat} (hT : RT (σ 20) Ts nt) (hW : WO (σ 20) n m) (hm : m ≤ 9999) : CI G yX8_empty cX8_empty 3 (some .int) 5 [rf G 109] σ (fun r s => r = empN (lkV Ts nt) n (σ 20) 301 ∧ same [31, 33, 34] σ s) := by
  refine Con.of cd_X8_empty (Nat.le_of_ble_eq_true rfl) ?_
  intro X hX hZ
  have hX : Fx X G RX8 cX8_empty 3 5 := hX
  show RR X G 3 0 (ll [(0, rf G 109)]) [] σ
  have hV : VO (lkV Ts nt) := lkV_VO
  have h8 := hW.2.1
  have fin : ∀ (v : Int32) (σ1 : SG), (if v < 0 then -1000000005 else v) = empN (lkV Ts nt) n (σ 20) 301 → (∀ i, 171 ≤ i → σ1 20 i = σ 20 i) → σ1 31 = cpL (σ 31) (σ 20) 171 → same [20, 31, 33, 34] σ σ1 → RR X G 3 42 (ll [(0, rf G 109), (1, .int v)]) [] σ1 := by
    intro v σ1 hv h20 h31 hs
    refine r_aload_n hX dX8_empty_42 rfl ⟨_, rfl⟩ (RR.pc (b := 43) rfl ?_)
    refine r_callVve hX dX8_empty_43 ml_X8_172 cd_X8_laysBack iv_X8_laysBack c_X8_laysBack (by decide) (by first | rfl | assumption) rfl rfl rfl rfl (Nat.le_of_ble_eq_true rfl) (RR.pc (b := 46) rfl ?_)
    refine r_iload_n (i := 0) hX dX8_empty_46 rfl (RR.pc (b := 47) rfl ?_)
    refine r_callSie hX dX8_empty_47 ml_X8_179 cd_X8_orNone st_X8_orNone c_X8_orNone (by decide) rfl rfl (Nat.le_of_ble_eq_true rfl) (RR.pc (b := 50) rfl ?_)
    exact r_iret hX hZ dX8_empty_50 ⟨_, rfl, ⟨hv, laid h20 h31 hs (by simp)⟩⟩
  have loop := loopK 301 (fun k => ∀ (σ1 : SG), σ1 20 = minN (lkV Ts nt) n (σ 20) k → σ1 31 = cpL (σ 31) (σ 20) 171 → same [20, 31, 33, 34] σ σ1 → empN (lkV Ts nt) n (σ 20) 301 = empN (lkV Ts nt) n (σ 20) (301 - k) → RR X G 3 8 (ll [(0, rf G 109), (1, .int (-1)), (2, .int (nI k))]) [] σ1) (by
    intro k hk ih σ1 e1 h31 hs he
    have hW1 : WO (σ1 20) n (m + k) := by rw [e1]; exact minN_WO hV hW k
    have hT1 : RT (σ1 20) Ts nt := RT_after hT (fun i hi => by rw [e1]; exact minN_out hV hW hi k)
    have h20 : ∀ i, 171 ≤ i → σ1 20 i = σ 20 i := fun i hi => by rw [e1]; exact minN_out hV hW (by omega) k
    refine r_iload_n (i := 0) hX dX8_empty_8 rfl (RR.pc (b := 9) rfl ?_)
    refine r_sipush (v := 300) hX dX8_empty_9 (by decide) (RR.pc (b := 12) rfl ?_)
    refine r_icmp_gt (tgt := 42) hX dX8_empty_12 rfl (fun h12 => ?_) (fun h12 => RR.pc (b := 15) rfl ?_)
    · have hk2 : k = 301 := by rw [show (300 : Int32) = nI 300 from rfl, nI_ltI (by omega) (by omega)] at h12; omega
      subst hk2
      exact RR.cut (fin (-1) σ1 (by rw [he]; rfl) h20 h31 hs) (List.forall_mem_cons.mpr ⟨rfl, List.forall_mem_cons.mpr ⟨rfl, fun _ h => absurd h List.not_mem_nil⟩⟩)
    · have hk2 : k < 301 := by rw [show (300 : Int32) = nI 300 from rfl, nI_ltI (by omega) (by omega)] at h12; omega
      refine r_iload_n (i := 0) hX dX8_empty_15 rfl (RR.pc (b := 16) rfl ?_)
      refine r_if_ge (tgt := 42) hX dX8_empty_16 rfl (fun h16 => absurd h16 (by decide)) (fun h16 => RR.pc (b := 19) rfl ?_)
      refine r_aload_n hX dX8_empty_19 rfl ⟨_, rfl⟩ (RR.pc (b := 20) rfl ?_)
      refine r_callVie hX dX8_empty_20 ml_X8_175 cd_X8_isEmpty iv_X8_isEmpty (c_X8_isEmpty hW1.1 h8) (by decide) (by first | rfl | assumption) rfl rfl rfl rfl (Nat.le_of_ble_eq_true rfl) (RR.pc (b := 23) rfl ?_)
      refine r_if_eq_b (tgt := 30) hX dX8_empty_23 rfl (fun h23 => ?_) (fun h23 => RR.pc (b := 26) rfl ?_)
      · 
        refine r_iconst (v := -1) hX dX8_empty_30 (by decide) (RR.pc (b := 31) rfl ?_)
        refine r_istore_n hX dX8_empty_31 (by decide) (RR.pc (b := 32) rfl ?_)
        refine r_aload_n hX dX8_empty_32 rfl ⟨_, rfl⟩ (RR.pc (b := 33) rfl ?_)
        refine r_callVv hX dX8_empty_33 ml_X8_154 cd_X8_goesOn iv_X8_goesOn (c_X8_goesOn hT1 hW1 (by omega)) (by decide) (by first | rfl | assumption) rfl rfl rfl rfl (Nat.le_of_ble_eq_true rfl) (fun s_33 e_33 => RR.pc (b := 36) rfl ?_)
        obtain ⟨e8, hs8⟩ := e_33
        refine r_iinc hX dX8_empty_36 rfl (by decide) (nI_1 k) (RR.pc (b := 39) rfl ?_)
        refine r_goto (tgt := 8) hX dX8_empty_39 rfl ?_
        refine RR.cut (ih hk2 _ (by rw [e8, e1]; rfl) ((hs8 31 (by decide)).trans h31) (hs.tr (hs8.mono (by simp))) ?_) (List.forall_mem_cons.mpr ⟨rfl, List.forall_mem_cons.mpr ⟨rfl, List.forall_mem_cons.mpr ⟨rfl, fun _ h => absurd h List.not_mem_nil⟩⟩⟩)
        rw [he, show 301 - k = (300 - k) + 1 by omega, empN, show 300 - (300 - k) = k by omega, if_neg (by rw [← e1]; exact h23), show 301 - (k + 1) = 300 - k by omega]
      · 
        have hv : (if nI k < 0 then -1000000005 else nI k) = empN (lkV Ts nt) n (σ 20) 301 := by
          rw [if_neg (nI_pos (by omega)), he, show 301 - k = (300 - k) + 1 by omega, empN, show 300 - (300 - k) = k by omega, if_pos (by rw [← e1]; exact h23)]
        refine r_iload_n (i := 0) hX dX8_empty_26 rfl (RR.pc (b := 27) rfl ?_)
        refine r_goto (tgt := 31) hX dX8_empty_27 rfl ?_
        refine r_istore_n hX dX8_empty_31 (by decide) (RR.pc (b := 32) rfl ?_)
        refine r_aload_n hX dX8_empty_32 rfl ⟨_, rfl⟩ (RR.pc (b := 33) rfl ?_)
        refine r_callVv hX dX8_empty_33 ml_X8_154 cd_X8_goesOn iv_X8_goesOn (c_X8_goesOn hT1 hW1 (by omega)) (by decide) (by first | rfl | assumption) rfl rfl rfl rfl (Nat.le_of_ble_eq_true rfl) (fun s_33 e_33 => RR.pc (b := 36) rfl ?_)
        obtain ⟨e8, hs8⟩ := e_33
        refine r_iinc hX dX8_empty_36 rfl (by decide) (nI_1 k) (RR.pc (b := 39) rfl ?_)
        refine r_goto (tgt := 8) hX dX8_empty_39 rfl ?_
        have g20 : ∀ i, 171 ≤ i → s_33 20 i = σ 20 i := fun i hi => by rw [e8, minW_out hV hW1.2.2.1 h8 (by omega)]; exact h20 i hi
        refine r_iload_n (i := 0) hX dX8_empty_8 rfl (RR.pc (b := 9) rfl ?_)
        refine r_sipush (v := 300) hX dX8_empty_9 (by decide) (RR.pc (b := 12) rfl ?_)
        refine r_icmp_gt (tgt := 42) hX dX8_empty_12 rfl (fun h12 => ?_) (fun h12 => RR.pc (b := 15) rfl ?_)
        · exact RR.cut (fin (nI k) s_33 hv g20 ((hs8 31 (by decide)).trans h31) (hs.tr (hs8.mono (by simp)))) (List.forall_mem_cons.mpr ⟨rfl, List.forall_mem_cons.mpr ⟨rfl, fun _ h => absurd h List.not_mem_nil⟩⟩)
        · refine r_iload_n (i := 0) hX dX8_empty_15 rfl (RR.pc (b := 16) rfl ?_)
          refine r_if_ge (tgt := 42) hX dX8_empty_16 rfl (fun h16 => ?_) (fun h16 => absurd (nI_pos' (by omega)) h16)
          exact RR.cut (fin (nI k) s_33 hv g20 ((hs8 31 (by decide)).trans h31) (hs.tr (hs8.mono (by simp)))) (List.forall_mem_cons.mpr ⟨rfl, List.forall_mem_cons.mpr ⟨rfl, fun _ h => absurd h List.not_mem_nil⟩⟩)
    )
  refine r_aload_n hX dX8_empty_0 rfl ⟨_, rfl⟩ (RR.pc (b := 1) rfl ?_)
  refine r_callVve hX dX8_empty_1 ml_X8_166 cd_X8_laysBy iv_X8_laysBy c_X8_laysBy (by decide) (by first | rfl | assumption) rfl rfl rfl rfl (Nat.le_of_ble_eq_true rfl) (RR.pc (b := 4) rfl ?_)
  refine r_iconst (v := -1) hX dX8_empty_4 (by decide) (RR.pc (b := 5) rfl ?_)
  refine r_istore_n hX dX8_empty_5 (by decide) (RR.pc (b := 6) rfl ?_)
  refine r_iconst (v := 0) hX dX8_empty_6 (by decide) (RR.pc (b := 7) rfl ?_)
  refine r_istore_n hX dX8_empty_7 (by decide) (RR.pc (b := 8) rfl ?_)
  refine RR.cut (loop 0 (by omega) _ (by rw [sr_ne (by decide)]; rfl) sr_eq (same.rf.sr (by simp)) rfl) (List.forall_mem_cons.mpr ⟨rfl, List.forall_mem_cons.mpr ⟨rfl, List.forall_mem_cons.mpr ⟨rfl, fun _ h => absurd h List.not_mem_nil⟩⟩⟩)
theorem bestY_nI {w : Nat → Int32} {k : Nat} : (if w (11 + (k + 1)) ≤ w (11 + bestY w k) then nI (bestY w k) else nI (k + 1)) = nI (bestY w (k + 1)) := by
  rw [bestY]
  split <;> rfl
set_option maxHeartbeats 4000000 in
set_option maxRecDepth 100000 in
theorem c_X8_thickest {G : GM} {σ : SG} {Ts : Nat → Tx} {nt n m : Nat} {q what : Int32} (hT : RT (σ 20) Ts nt) (hW : WO (σ 20) n m) (hm : m ≤ 9999) : CI G yX8_thickest cX8_thickest 5 (some .int) 6 [rf G 109, .int q, .int what] σ (fun r s => r = thiF (lkV Ts nt) n (σ 20) q what ∧ same [31, 33, 34] σ s) := by
  refine Con.of cd_X8_thickest (Nat.le_of_ble_eq_true rfl) ?_
  intro X hX hZ
  have hX : Fx X G RX8 cX8_thickest 5 6 := hX
  show RR X G 5 0 (ll [(0, rf G 109), (1, .int q), (2, .int what)]) [] σ
  have hV : VO (lkV Ts nt) := lkV_VO
  have h8 := hW.2.1
  have bad : ¬ ((0 ≤ q.toInt ∧ q.toInt ≤ 100) ∧ (0 ≤ what.toInt ∧ what.toInt ≤ 1)) → RR X G 5 22 (ll [(0, rf G 109)]) [] σ := by
    intro h
    refine r_ldc hX dX8_thickest_22 kc_X8_84 (RR.pc (b := 24) rfl ?_)
    exact r_iret hX hZ dX8_thickest_24 ⟨_, rfl, ⟨by unfold thiF; rw [if_neg h], same.rf⟩⟩
  have go : (0 ≤ q.toInt ∧ q.toInt ≤ 100) → (0 ≤ what.toInt ∧ what.toInt ≤ 1) → RR X G 5 25 (ll [(0, rf G 109), (1, .int q), (2, .int what)]) [] σ := by
    intro h9 h19
    obtain ⟨c, hc, rfl⟩ := ix_of (n := 101) (k := q) ⟨by omega, by omega⟩ (by omega)
    have eF : thiF (lkV Ts nt) n (σ 20) (nI c) what = (if what = 0 then nI (bestY (minN (lkV Ts nt) n (σ 20) c) 59) else minN (lkV Ts nt) n (σ 20) c (11 + bestY (minN (lkV Ts nt) n (σ 20) c) 59)) := by
      unfold thiF
      rw [if_pos ⟨h9, h19⟩, nI_clamp (by omega)]
    rw [eF] at hZ
    refine r_aload_n hX dX8_thickest_25 rfl ⟨_, rfl⟩ (RR.pc (b := 26) rfl ?_)
    refine r_callVve hX dX8_thickest_26 ml_X8_166 cd_X8_laysBy iv_X8_laysBy c_X8_laysBy (by decide) (by first | rfl | assumption) rfl rfl rfl rfl (Nat.le_of_ble_eq_true rfl) (RR.pc (b := 29) rfl ?_)
    refine r_aload_n hX dX8_thickest_29 rfl ⟨_, rfl⟩ (RR.pc (b := 30) rfl ?_)
    refine r_iload_n (i := 0) hX dX8_thickest_30 rfl (RR.pc (b := 31) rfl ?_)
    refine r_callVv hX dX8_thickest_31 ml_X8_169 cd_X8_goesOnMany iv_X8_goesOnMany (c_X8_goesOnMany (Ts := Ts) (nt := nt) (n := n) (m := m) (by rw [sr_ne (by decide)]; exact hT) (by rw [sr_ne (by decide)]; exact hW) (by omega)) (by decide) (by first | rfl | assumption) rfl rfl rfl rfl (Nat.le_of_ble_eq_true rfl) (fun s_31 e_31 => RR.pc (b := 34) rfl ?_)
    obtain ⟨e39, hs39⟩ := e_31
    rw [sr_ne (by decide)] at e39
    have hs : same [20, 31, 33, 34] σ s_31 := ((same.rf.sr (by simp)).tr (hs39.mono (by simp)))
    have h31 : s_31 31 = cpL (σ 31) (σ 20) 171 := (hs39 31 (by decide)).trans sr_eq
    have h20 : ∀ i, 171 ≤ i → s_31 20 i = σ 20 i := fun i hi => by rw [e39]; exact minN_out hV hW (by omega) c
    rw [← e39] at hZ
    have loop := loopK 59 (fun k => RR X G 5 39 (ll [(0, rf G 109), (2, .int what), (3, .int (nI (bestY (s_31 20) k))), (4, .int (nI (k + 1)))]) [] s_31) (by
      intro k hk ih
      have hb := bestY_le (w := s_31 20) k
      refine r_iload hX dX8_thickest_39 rfl (RR.pc (b := 41) rfl ?_)
      refine r_bipush (v := 60) hX dX8_thickest_41 (by decide) (RR.pc (b := 43) rfl ?_)
      refine r_icmp_ge (tgt := 81) hX dX8_thickest_43 rfl (fun h43 => ?_) (fun h43 => RR.pc (b := 46) rfl ?_)
      · have hk2 : k = 59 := by rw [show (60 : Int32) = nI 60 from rfl, nI_leI (by omega) (by omega)] at h43; omega
        subst hk2
        refine r_aload_n hX dX8_thickest_81 rfl ⟨_, rfl⟩ (RR.pc (b := 82) rfl ?_)
        refine r_getr hX dX8_thickest_82 fl_X8_7 (by first | rfl | assumption) rfl (RR.pc (b := 85) rfl ?_)
        refine r_bipush (v := 11) hX dX8_thickest_85 (by decide) (RR.pc (b := 87) rfl ?_)
        refine r_iload_n (i := 0) hX dX8_thickest_87 rfl (RR.pc (b := 88) rfl ?_)
        refine r_iadd hX dX8_thickest_88 (RR.pc (b := 89) rfl ?_)
        refine r_iald hX dX8_thickest_89 (by first | rfl | assumption) (nI_add 11 _) (by omega) (by decide) (by first | exact Nat.zero_add _ | rfl) (RR.pc (b := 90) rfl ?_)
        refine r_istore hX dX8_thickest_90 (by decide) (RR.pc (b := 92) rfl ?_)
        refine r_aload_n hX dX8_thickest_92 rfl ⟨_, rfl⟩ (RR.pc (b := 93) rfl ?_)
        refine r_callVve hX dX8_thickest_93 ml_X8_172 cd_X8_laysBack iv_X8_laysBack c_X8_laysBack (by decide) (by first | rfl | assumption) rfl rfl rfl rfl (Nat.le_of_ble_eq_true rfl) (RR.pc (b := 96) rfl ?_)
        refine r_iload_n (i := 0) hX dX8_thickest_96 rfl (RR.pc (b := 97) rfl ?_)
        refine r_if_ne (tgt := 104) hX dX8_thickest_97 rfl (fun h97 => ?_) (fun h97 => RR.pc (b := 100) rfl ?_)
        · refine r_iload hX dX8_thickest_104 rfl (RR.pc (b := 106) rfl ?_)
          exact r_iret hX hZ dX8_thickest_106 ⟨_, rfl, ⟨by first | rw [if_pos h97] | rw [if_neg h97], laid h20 h31 hs (by simp)⟩⟩
        · refine r_iload_n (i := 0) hX dX8_thickest_100 rfl (RR.pc (b := 101) rfl ?_)
          refine r_goto (tgt := 106) hX dX8_thickest_101 rfl ?_
          exact r_iret hX hZ dX8_thickest_106 ⟨_, rfl, ⟨by first | rw [if_pos h97] | rw [if_neg h97], laid h20 h31 hs (by simp)⟩⟩
      · have hk2 : k < 59 := by rw [show (60 : Int32) = nI 60 from rfl, nI_leI (by omega) (by omega)] at h43; omega
        refine r_aload_n hX dX8_thickest_46 rfl ⟨_, rfl⟩ (RR.pc (b := 47) rfl ?_)
        refine r_getr hX dX8_thickest_47 fl_X8_7 (by first | rfl | assumption) rfl (RR.pc (b := 50) rfl ?_)
        refine r_bipush (v := 11) hX dX8_thickest_50 (by decide) (RR.pc (b := 52) rfl ?_)
        refine r_iload hX dX8_thickest_52 rfl (RR.pc (b := 54) rfl ?_)
        refine r_iadd hX dX8_thickest_54 (RR.pc (b := 55) rfl ?_)
        refine r_iald hX dX8_thickest_55 (by first | rfl | assumption) (nI_add 11 _) (by omega) (by decide) (by first | exact Nat.zero_add _ | rfl) (RR.pc (b := 56) rfl ?_)
        refine r_aload_n hX dX8_thickest_56 rfl ⟨_, rfl⟩ (RR.pc (b := 57) rfl ?_)
        refine r_getr hX dX8_thickest_57 fl_X8_7 (by first | rfl | assumption) rfl (RR.pc (b := 60) rfl ?_)
        refine r_bipush (v := 11) hX dX8_thickest_60 (by decide) (RR.pc (b := 62) rfl ?_)
        refine r_iload_n (i := 0) hX dX8_thickest_62 rfl (RR.pc (b := 63) rfl ?_)
        refine r_iadd hX dX8_thickest_63 (RR.pc (b := 64) rfl ?_)
        refine r_iald hX dX8_thickest_64 (by first | rfl | assumption) (nI_add 11 _) (by omega) (by decide) (by first | exact Nat.zero_add _ | rfl) (RR.pc (b := 65) rfl ?_)
        refine r_dia2 74 (if s_31 20 (11 + (k + 1)) ≤ s_31 20 (11 + bestY (s_31 20) k) then nI (bestY (s_31 20) k) else nI (k + 1)) (fun hj65 => ?_) ?_
        · refine r_icmp_le (tgt := 73) hX dX8_thickest_65 rfl (fun h65 => ?_) (fun h65 => RR.pc (b := 68) rfl ?_)
          · refine r_iload_n (i := 0) hX dX8_thickest_73 rfl (RR.pc (b := 74) rfl ?_)
            exact RR.eqt (congrArg (fun q => Value.int q :: _) (if_pos h65).symm) hj65
          · refine r_iload hX dX8_thickest_68 rfl (RR.pc (b := 70) rfl ?_)
            refine r_goto (tgt := 74) hX dX8_thickest_70 rfl ?_
            exact RR.eqt (congrArg (fun q => Value.int q :: _) (if_neg h65).symm) hj65
        rw [bestY_nI]
        refine r_istore_n hX dX8_thickest_74 (by decide) (RR.pc (b := 75) rfl ?_)
        refine r_iinc hX dX8_thickest_75 rfl (by decide) (nI_1 (k + 1)) (RR.pc (b := 78) rfl ?_)
        refine r_goto (tgt := 39) hX dX8_thickest_78 rfl ?_
        exact RR.cut (ih hk2) (List.forall_mem_cons.mpr ⟨rfl, List.forall_mem_cons.mpr ⟨rfl, List.forall_mem_cons.mpr ⟨rfl, List.forall_mem_cons.mpr ⟨rfl, fun _ h => absurd h List.not_mem_nil⟩⟩⟩⟩)
      )
    refine r_iconst (v := 0) hX dX8_thickest_34 (by decide) (RR.pc (b := 35) rfl ?_)
    refine r_istore_n hX dX8_thickest_35 (by decide) (RR.pc (b := 36) rfl ?_)
    refine r_iconst (v := 1) hX dX8_thickest_36 (by decide) (RR.pc (b := 37) rfl ?_)
    refine r_istore hX dX8_thickest_37 (by decide) (RR.pc (b := 39) rfl ?_)
    exact RR.cut (loop 0 (by omega)) (List.forall_mem_cons.mpr ⟨rfl, List.forall_mem_cons.mpr ⟨rfl, List.forall_mem_cons.mpr ⟨rfl, List.forall_mem_cons.mpr ⟨rfl, fun _ h => absurd h List.not_mem_nil⟩⟩⟩⟩)
  refine r_iload_n (i := 0) hX dX8_thickest_0 rfl (RR.pc (b := 1) rfl ?_)
  refine r_i2l hX dX8_thickest_1 (RR.pc (b := 2) rfl ?_)
  refine r_lconst (v := 0) hX dX8_thickest_2 rfl (RR.pc (b := 3) rfl ?_)
  refine r_ldc2 hX dX8_thickest_3 k2_X8_132 (RR.pc (b := 6) rfl ?_)
  refine r_callSie hX dX8_thickest_6 ml_X8_65 cd_X8_isIn st_X8_isIn c_X8_isIn (by decide) rfl rfl (Nat.le_of_ble_eq_true rfl) (RR.pc (b := 9) rfl ?_)
  refine r_if_eq_b (tgt := 22) hX dX8_thickest_9 rfl (fun h9 => ?_) (fun h9 => RR.pc (b := 12) rfl ?_)
  · simp only [Int32.toInt_toInt64, Int64.reduceToInt] at h9
    exact RR.cut (bad (fun z => by first | exact h9 z.1 | exact h19 z.2)) (List.forall_mem_cons.mpr ⟨rfl, fun _ h => absurd h List.not_mem_nil⟩)
  · simp only [Int32.toInt_toInt64, Int64.reduceToInt] at h9
    refine r_iload_n (i := 0) hX dX8_thickest_12 rfl (RR.pc (b := 13) rfl ?_)
    refine r_i2l hX dX8_thickest_13 (RR.pc (b := 14) rfl ?_)
    refine r_lconst (v := 0) hX dX8_thickest_14 rfl (RR.pc (b := 15) rfl ?_)
    refine r_lconst (v := 1) hX dX8_thickest_15 rfl (RR.pc (b := 16) rfl ?_)
    refine r_callSie hX dX8_thickest_16 ml_X8_65 cd_X8_isIn st_X8_isIn c_X8_isIn (by decide) rfl rfl (Nat.le_of_ble_eq_true rfl) (RR.pc (b := 19) rfl ?_)
    refine r_if_ne_b (tgt := 25) hX dX8_thickest_19 rfl (fun h19 => ?_) (fun h19 => RR.pc (b := 22) rfl ?_)
    · simp only [Int32.toInt_toInt64, Int64.reduceToInt] at h19
      exact RR.cut (go h9 h19) (List.forall_mem_cons.mpr ⟨rfl, List.forall_mem_cons.mpr ⟨rfl, List.forall_mem_cons.mpr ⟨rfl, fun _ h => absurd h List.not_mem_nil⟩⟩⟩)
    · simp only [Int32.toInt_toInt64, Int64.reduceToInt] at h19
      exact RR.cut (bad (fun z => by first | exact h9 z.1 | exact h19 z.2)) (List.forall_mem_cons.mpr ⟨rfl, fun _ h => absurd h List.not_mem_nil⟩)
set_option maxHeartbeats 4000000 in
set_option maxRecDepth 100000 in
theorem c_X8_patch {G : GM} {σ : SG} {Ts : Nat → Tx} {nt n m : Nat} {q what : Int32} (hT : RT (σ 20) Ts nt) (hW : WO (σ 20) n m) (hm : m ≤ 9999) : CI G yX8_patch cX8_patch 7 (some .int) 6 [rf G 109, .int q, .int what] σ (fun r s => r = patF (lkV Ts nt) n (σ 20) q what ∧ same [31, 33, 34] σ s) := by
  refine Con.of cd_X8_patch (Nat.le_of_ble_eq_true rfl) ?_
  intro X hX hZ
  have hX : Fx X G RX8 cX8_patch 7 6 := hX
  show RR X G 7 0 (ll [(0, rf G 109), (1, .int q), (2, .int what)]) [] σ
  have hV : VO (lkV Ts nt) := lkV_VO
  have h8 := hW.2.1
  have bad : ¬ ((1 ≤ q.toInt ∧ q.toInt ≤ 60) ∧ (0 ≤ what.toInt ∧ what.toInt ≤ 1)) → RR X G 7 22 (ll [(0, rf G 109)]) [] σ := by
    intro h
    refine r_ldc hX dX8_patch_22 kc_X8_84 (RR.pc (b := 24) rfl ?_)
    exact r_iret hX hZ dX8_patch_24 ⟨_, rfl, ⟨by unfold patF; rw [if_neg h], same.rf⟩⟩
  have go : (1 ≤ q.toInt ∧ q.toInt ≤ 60) → (0 ≤ what.toInt ∧ what.toInt ≤ 1) → RR X G 7 25 (ll [(0, rf G 109), (1, .int q), (2, .int what)]) [] σ := by
    intro h9 h19
    obtain ⟨c, hc, rfl⟩ := ix_of (n := 101) (k := q) ⟨by omega, by omega⟩ (by omega)
    have eF : patF (lkV Ts nt) n (σ 20) (nI c) what = (if 0 ≤ patB (patV (lkV Ts nt) n (σ 20) c) n then (if what = 0 then patB (patV (lkV Ts nt) n (σ 20) c) n else patM (patV (lkV Ts nt) n (σ 20) c) n) else vNONE) := by
      unfold patF
      rw [if_pos ⟨h9, h19⟩, nI_clamp (by omega)]
    rw [eF] at hZ
    generalize hf : patV (lkV Ts nt) n (σ 20) c = f at hZ
    have loop := loopK n (fun k => ∀ σ1 : SG, σ1 20 = σ 20 → σ1 31 = cpL (σ 31) (σ 20) 171 → same [31, 33, 34] σ σ1 → RR X G 7 37 (ll [(0, rf G 109), (1, .int (nI c)), (2, .int what), (3, .int (patB f k)), (4, .int (patM f k)), (5, .int (nI k))]) [] σ1) (by
      intro k hk ih σ1 e1 h31 hs
      refine r_iload hX dX8_patch_37 rfl (RR.pc (b := 39) rfl ?_)
      refine r_aload_n hX dX8_patch_39 rfl ⟨_, rfl⟩ (RR.pc (b := 40) rfl ?_)
      refine r_getr hX dX8_patch_40 fl_X8_7 (by first | rfl | assumption) rfl (RR.pc (b := 43) rfl ?_)
      refine r_iconst (v := 0) hX dX8_patch_43 (by decide) (RR.pc (b := 44) rfl ?_)
      refine r_iald hX dX8_patch_44 (by first | rfl | assumption) (by first | rfl | assumption) (by first | decide | assumption | omega) (by decide) (by first | exact Nat.zero_add _ | rfl) (RR.pc (b := 45) rfl ?_)
      rw [e1, hW.1]
      refine r_icmp_ge (tgt := 107) hX dX8_patch_45 rfl (fun h45 => ?_) (fun h45 => RR.pc (b := 48) rfl ?_)
      · have hk2 : k = n := by rw [nI_leI (by omega) (by omega)] at h45; omega
        subst hk2
        refine r_iload_n (i := 0) hX dX8_patch_107 rfl (RR.pc (b := 108) rfl ?_)
        refine r_if_ge (tgt := 116) hX dX8_patch_108 rfl (fun h108 => ?_) (fun h108 => RR.pc (b := 111) rfl ?_)
        · refine r_iload_n (i := 0) hX dX8_patch_116 rfl (RR.pc (b := 117) rfl ?_)
          refine r_if_ne (tgt := 124) hX dX8_patch_117 rfl (fun h117 => ?_) (fun h117 => RR.pc (b := 120) rfl ?_)
          · refine r_iload hX dX8_patch_124 rfl (RR.pc (b := 126) rfl ?_)
            exact r_iret hX hZ dX8_patch_126 ⟨_, rfl, ⟨by first | rw [if_neg h108] | rw [if_pos h108, if_pos h117] | rw [if_pos h108, if_neg h117], hs⟩⟩
          · refine r_iload_n (i := 0) hX dX8_patch_120 rfl (RR.pc (b := 121) rfl ?_)
            refine r_goto (tgt := 126) hX dX8_patch_121 rfl ?_
            exact r_iret hX hZ dX8_patch_126 ⟨_, rfl, ⟨by first | rw [if_neg h108] | rw [if_pos h108, if_pos h117] | rw [if_pos h108, if_neg h117], hs⟩⟩
        · refine r_ldc hX dX8_patch_111 kc_X8_64 (RR.pc (b := 113) rfl ?_)
          refine r_goto (tgt := 126) hX dX8_patch_113 rfl ?_
          exact r_iret hX hZ dX8_patch_126 ⟨_, rfl, ⟨by first | rw [if_neg h108] | rw [if_pos h108, if_pos h117] | rw [if_pos h108, if_neg h117], hs⟩⟩
      · have hk2 : k < n := by rw [nI_leI (by omega) (by omega)] at h45; omega
        have hW1 : WO (upd (σ 20) (131 + 5 * k) 1) n m := by
          obtain ⟨h0, _, hM, hmi, t, ht, et⟩ := hW
          refine ⟨by rw [pk_un (by omega)]; exact h0, h8, fun a ha => ?_, by rw [pk_un (by omega)]; exact hmi, t, ht, by rw [pk_un (by omega)]; exact et⟩
          by_cases e : a = k
          · subst e
            obtain ⟨q0, q1, q2, q3, q4⟩ := hM a ha
            unfold MO
            rw [pk_us, pk_un (by omega), pk_un (by omega), pk_un (by omega), pk_un (by omega)]
            exact ⟨⟨1, by omega, rfl⟩, q1, q2, q3, q4⟩
          · exact (hM a ha).congr (fun j hj => pk_un (by omega))
        have hT1 : RT (upd (σ 20) (131 + 5 * k) 1) Ts nt := hT.congr (pk_un (by omega)) (fun i hi => pk_un (by omega))
        refine r_aload_n hX dX8_patch_48 rfl ⟨_, rfl⟩ (RR.pc (b := 49) rfl ?_)
        refine r_iload hX dX8_patch_49 rfl (RR.pc (b := 51) rfl ?_)
        refine r_iconst (v := 0) hX dX8_patch_51 (by decide) (RR.pc (b := 52) rfl ?_)
        refine r_iconst (v := 1) hX dX8_patch_52 (by decide) (RR.pc (b := 53) rfl ?_)
        refine r_callVve hX dX8_patch_53 ml_X8_72 cd_X8_sets iv_X8_sets (c_X8_sets (a := k) (b := 0) (q := 131 + 5 * k) rfl rfl rfl (by omega)) (by decide) (by first | rfl | assumption) rfl rfl rfl rfl (Nat.le_of_ble_eq_true rfl) (RR.pc (b := 56) rfl ?_)
        refine r_aload_n hX dX8_patch_56 rfl ⟨_, rfl⟩ (RR.pc (b := 57) rfl ?_)
        refine r_iload_n (i := 0) hX dX8_patch_57 rfl (RR.pc (b := 58) rfl ?_)
        refine r_callVv hX dX8_patch_58 ml_X8_169 cd_X8_goesOnMany iv_X8_goesOnMany (c_X8_goesOnMany (Ts := Ts) (nt := nt) (n := n) (m := m) (q := c) (by rw [su_eq, e1]; exact hT1) (by rw [su_eq, e1]; exact hW1) (by omega)) (by decide) (by first | rfl | assumption) rfl rfl rfl rfl (Nat.le_of_ble_eq_true rfl) (fun s_58 e_58 => RR.pc (b := 61) rfl ?_)
        obtain ⟨e58, hs58⟩ := e_58
        rw [su_eq, e1] at e58
        have g31 : s_58 31 = cpL (σ 31) (σ 20) 171 := (hs58 31 (by decide)).trans ((su_ne (by decide)).trans h31)
        have g20 : ∀ i, 171 ≤ i → s_58 20 i = σ 20 i := fun i hi => by rw [e58, minN_out hV hW1 (by omega), pk_un (by omega)]
        have gs : same [20, 31, 33, 34] σ s_58 := ((hs.mono (by simp)).su (by simp)).tr (hs58.mono (by simp))
        have hfk : sackW (s_58 20) n = f k := by rw [e58, ← hf]; rfl
        refine r_aload_n hX dX8_patch_61 rfl ⟨_, rfl⟩ (RR.pc (b := 62) rfl ?_)
        refine r_callVie hX dX8_patch_62 ml_X8_160 cd_X8_inSacks iv_X8_inSacks (c_X8_inSacks (n := n) (by rw [e58]; exact (minN_WO hV hW1 c).1) h8) (by decide) (by first | rfl | assumption) rfl rfl rfl rfl (Nat.le_of_ble_eq_true rfl) (RR.pc (b := 65) rfl ?_)
        rw [hfk]
        refine r_istore hX dX8_patch_65 (by decide) (RR.pc (b := 67) rfl ?_)
        refine r_aload_n hX dX8_patch_67 rfl ⟨_, rfl⟩ (RR.pc (b := 68) rfl ?_)
        refine r_callVve hX dX8_patch_68 ml_X8_172 cd_X8_laysBack iv_X8_laysBack c_X8_laysBack (by decide) (by first | rfl | assumption) rfl rfl rfl rfl (Nat.le_of_ble_eq_true rfl) (RR.pc (b := 71) rfl ?_)
        refine r_iload hX dX8_patch_71 rfl (RR.pc (b := 73) rfl ?_)
        refine r_iload hX dX8_patch_73 rfl (RR.pc (b := 75) rfl ?_)
        refine r_dia2 84 (patB f (k + 1)) (fun hj75 => ?_) ?_
        · refine r_icmp_le (tgt := 83) hX dX8_patch_75 rfl (fun h75 => ?_) (fun h75 => RR.pc (b := 78) rfl ?_)
          · refine r_iload_n (i := 0) hX dX8_patch_83 rfl (RR.pc (b := 84) rfl ?_)
            exact RR.eqt (congrArg (fun q => Value.int q :: _) (if_pos h75).symm) hj75
          · refine r_iload hX dX8_patch_78 rfl (RR.pc (b := 80) rfl ?_)
            refine r_goto (tgt := 84) hX dX8_patch_80 rfl ?_
            exact RR.eqt (congrArg (fun q => Value.int q :: _) (if_neg h75).symm) hj75
        refine r_istore_n hX dX8_patch_84 (by decide) (RR.pc (b := 85) rfl ?_)
        refine r_iload hX dX8_patch_85 rfl (RR.pc (b := 87) rfl ?_)
        refine r_iload hX dX8_patch_87 rfl (RR.pc (b := 89) rfl ?_)
        refine r_dia2 99 (patM f (k + 1)) (fun hj89 => ?_) ?_
        · refine r_icmp_le (tgt := 97) hX dX8_patch_89 rfl (fun h89 => ?_) (fun h89 => RR.pc (b := 92) rfl ?_)
          · refine r_iload hX dX8_patch_97 rfl (RR.pc (b := 99) rfl ?_)
            exact RR.eqt (congrArg (fun q => Value.int q :: _) (if_pos h89).symm) hj89
          · refine r_iload hX dX8_patch_92 rfl (RR.pc (b := 94) rfl ?_)
            refine r_goto (tgt := 99) hX dX8_patch_94 rfl ?_
            exact RR.eqt (congrArg (fun q => Value.int q :: _) (if_neg h89).symm) hj89
        refine r_istore hX dX8_patch_99 (by decide) (RR.pc (b := 101) rfl ?_)
        refine r_iinc hX dX8_patch_101 rfl (by decide) (nI_1 k) (RR.pc (b := 104) rfl ?_)
        refine r_goto (tgt := 37) hX dX8_patch_104 rfl ?_
        have hl := laid g20 g31 gs (by simp)
        exact RR.cut (ih hk2 _ (hl 20 (by decide)) ((sr_ne (by decide)).trans g31) hl) (List.forall_mem_cons.mpr ⟨rfl, List.forall_mem_cons.mpr ⟨rfl, List.forall_mem_cons.mpr ⟨rfl, List.forall_mem_cons.mpr ⟨rfl, List.forall_mem_cons.mpr ⟨rfl, List.forall_mem_cons.mpr ⟨rfl, fun _ h => absurd h List.not_mem_nil⟩⟩⟩⟩⟩⟩)
      )
    refine r_aload_n hX dX8_patch_25 rfl ⟨_, rfl⟩ (RR.pc (b := 26) rfl ?_)
    refine r_callVve hX dX8_patch_26 ml_X8_166 cd_X8_laysBy iv_X8_laysBy c_X8_laysBy (by decide) (by first | rfl | assumption) rfl rfl rfl rfl (Nat.le_of_ble_eq_true rfl) (RR.pc (b := 29) rfl ?_)
    refine r_iconst (v := -1) hX dX8_patch_29 (by decide) (RR.pc (b := 30) rfl ?_)
    refine r_istore_n hX dX8_patch_30 (by decide) (RR.pc (b := 31) rfl ?_)
    refine r_iconst (v := -1) hX dX8_patch_31 (by decide) (RR.pc (b := 32) rfl ?_)
    refine r_istore hX dX8_patch_32 (by decide) (RR.pc (b := 34) rfl ?_)
    refine r_iconst (v := 0) hX dX8_patch_34 (by decide) (RR.pc (b := 35) rfl ?_)
    refine r_istore hX dX8_patch_35 (by decide) (RR.pc (b := 37) rfl ?_)
    exact RR.cut (loop 0 (by omega) _ (sr_ne (by decide)) sr_eq (same.rf.sr (by simp))) (List.forall_mem_cons.mpr ⟨rfl, List.forall_mem_cons.mpr ⟨rfl, List.forall_mem_cons.mpr ⟨rfl, List.forall_mem_cons.mpr ⟨rfl, List.forall_mem_cons.mpr ⟨rfl, List.forall_mem_cons.mpr ⟨rfl, fun _ h => absurd h List.not_mem_nil⟩⟩⟩⟩⟩⟩)
  refine r_iload_n (i := 0) hX dX8_patch_0 rfl (RR.pc (b := 1) rfl ?_)
  refine r_i2l hX dX8_patch_1 (RR.pc (b := 2) rfl ?_)
  refine r_lconst (v := 1) hX dX8_patch_2 rfl (RR.pc (b := 3) rfl ?_)
  refine r_ldc2 hX dX8_patch_3 k2_X8_182 (RR.pc (b := 6) rfl ?_)
  refine r_callSie hX dX8_patch_6 ml_X8_65 cd_X8_isIn st_X8_isIn c_X8_isIn (by decide) rfl rfl (Nat.le_of_ble_eq_true rfl) (RR.pc (b := 9) rfl ?_)
  refine r_if_eq_b (tgt := 22) hX dX8_patch_9 rfl (fun h9 => ?_) (fun h9 => RR.pc (b := 12) rfl ?_)
  · simp only [Int32.toInt_toInt64, Int64.reduceToInt] at h9
    exact RR.cut (bad (fun z => by first | exact h9 z.1 | exact h19 z.2)) (List.forall_mem_cons.mpr ⟨rfl, fun _ h => absurd h List.not_mem_nil⟩)
  · simp only [Int32.toInt_toInt64, Int64.reduceToInt] at h9
    refine r_iload_n (i := 0) hX dX8_patch_12 rfl (RR.pc (b := 13) rfl ?_)
    refine r_i2l hX dX8_patch_13 (RR.pc (b := 14) rfl ?_)
    refine r_lconst (v := 0) hX dX8_patch_14 rfl (RR.pc (b := 15) rfl ?_)
    refine r_lconst (v := 1) hX dX8_patch_15 rfl (RR.pc (b := 16) rfl ?_)
    refine r_callSie hX dX8_patch_16 ml_X8_65 cd_X8_isIn st_X8_isIn c_X8_isIn (by decide) rfl rfl (Nat.le_of_ble_eq_true rfl) (RR.pc (b := 19) rfl ?_)
    refine r_if_ne_b (tgt := 25) hX dX8_patch_19 rfl (fun h19 => ?_) (fun h19 => RR.pc (b := 22) rfl ?_)
    · simp only [Int32.toInt_toInt64, Int64.reduceToInt] at h19
      exact RR.cut (go h9 h19) (List.forall_mem_cons.mpr ⟨rfl, List.forall_mem_cons.mpr ⟨rfl, List.forall_mem_cons.mpr ⟨rfl, fun _ h => absurd h List.not_mem_nil⟩⟩⟩)
    · simp only [Int32.toInt_toInt64, Int64.reduceToInt] at h19
      exact RR.cut (bad (fun z => by first | exact h9 z.1 | exact h19 z.2)) (List.forall_mem_cons.mpr ⟨rfl, fun _ h => absurd h List.not_mem_nil⟩)
theorem pan_h : ∀ {v : Nat}, v ≤ 9 * 60 → (if nI v < 0 then 0 else if (59 : Int32) < nI v then 59 else nI v) = nI (min v 59) := by
  intro v hv
  rw [if_neg (nI_pos (by omega)), show (59 : Int32) = nI 59 from rfl]
  by_cases h : 59 < v
  · rw [if_pos (nI_lt h (by omega)), show min v 59 = 59 by omega]
  · rw [if_neg (nI_nlt (by omega) (by omega)), show min v 59 = v by omega]
set_option maxHeartbeats 4000000 in
set_option maxRecDepth 100000 in
theorem c_X8_pan {G : GM} {σ : SG} {Ts : Nat → Tx} {nt n m : Nat} {p q : Int32} (hT : RT (σ 20) Ts nt) (hW : WO (σ 20) n m) (hm : m ≤ 9999) : CI G yX8_pan cX8_pan 5 (some .int) 5 [rf G 109, .int p, .int q] σ (fun r s => r = panF (lkV Ts nt) n (σ 20) p q ∧ same [31, 33, 34] σ s) := by
  refine Con.of cd_X8_pan (Nat.le_of_ble_eq_true rfl) ?_
  intro X hX hZ
  have hX : Fx X G RX8 cX8_pan 5 5 := hX
  show RR X G 5 0 (ll [(0, rf G 109), (1, .int p), (2, .int q)]) [] σ
  have hV : VO (lkV Ts nt) := lkV_VO
  have h8 := hW.2.1
  have bad : ¬ ((0 ≤ p.toInt ∧ p.toInt ≤ 9) ∧ (1 ≤ q.toInt ∧ q.toInt ≤ 60)) → RR X G 5 24 (ll [(0, rf G 109)]) [] σ := by
    intro h
    refine r_ldc hX dX8_pan_24 kc_X8_84 (RR.pc (b := 26) rfl ?_)
    exact r_iret hX hZ dX8_pan_26 ⟨_, rfl, ⟨by unfold panF; rw [if_neg h], same.rf⟩⟩
  have go : (0 ≤ p.toInt ∧ p.toInt ≤ 9) → (1 ≤ q.toInt ∧ q.toInt ≤ 60) → RR X G 5 27 (ll [(0, rf G 109), (1, .int p), (2, .int q)]) [] σ := by
    intro h9 h19
    obtain ⟨c, hc, rfl⟩ := ix_of (n := 101) (k := q) ⟨by omega, by omega⟩ (by omega)
    obtain ⟨b, hb, rfl⟩ := ix_of (n := 10) (k := p) ⟨by omega, by omega⟩ (by omega)
    have eF : panF (lkV Ts nt) n (σ 20) (nI b) (nI c) = panS (lkV Ts nt) n (σ 20) b c := by
      unfold panF
      rw [if_pos ⟨h9, h19⟩, nI_clamp (by omega), nI_clamp (by omega)]
    rw [eF] at hZ
    have hc2 : c ≤ 60 := by rw [nI_toInt (by omega)] at h19; omega
    have loop := loopK c (fun k => ∀ σ1 : SG, σ1 20 = panW (lkV Ts nt) n (σ 20) b k → σ1 31 = cpL (σ 31) (σ 20) 171 → same [20, 31, 33, 34] σ σ1 → RR X G 5 36 (ll [(0, rf G 109), (1, .int (nI b)), (2, .int (nI c)), (3, .int (panS (lkV Ts nt) n (σ 20) b k)), (4, .int (nI (k + 1)))]) [] σ1) (by
      intro k hk ih σ1 e1 h31 hs
      have hW1 : WO (σ1 20) n (m + k) := by rw [e1]; exact panW_WO hV hW k
      have hT1 : RT (σ1 20) Ts nt := RT_after hT (fun i hi => by rw [e1]; exact panW_out hV hW hi k)
      refine r_iload hX dX8_pan_36 rfl (RR.pc (b := 38) rfl ?_)
      refine r_iload_n (i := 0) hX dX8_pan_38 rfl (RR.pc (b := 39) rfl ?_)
      refine r_icmp_gt (tgt := 72) hX dX8_pan_39 rfl (fun h39 => ?_) (fun h39 => RR.pc (b := 42) rfl ?_)
      · have hk2 : k = c := by rw [nI_ltI (by omega) (by omega)] at h39; omega
        subst hk2
        refine r_aload_n hX dX8_pan_72 rfl ⟨_, rfl⟩ (RR.pc (b := 73) rfl ?_)
        refine r_callVve hX dX8_pan_73 ml_X8_172 cd_X8_laysBack iv_X8_laysBack c_X8_laysBack (by decide) (by first | rfl | assumption) rfl rfl rfl rfl (Nat.le_of_ble_eq_true rfl) (RR.pc (b := 76) rfl ?_)
        refine r_iload_n (i := 0) hX dX8_pan_76 rfl (RR.pc (b := 77) rfl ?_)
        exact r_iret hX hZ dX8_pan_77 ⟨_, rfl, ⟨rfl, laid (fun i hi => by rw [e1]; exact panW_out hV hW (by omega) k) h31 hs (by simp)⟩⟩
      · have hk2 : k < c := by rw [nI_ltI (by omega) (by omega)] at h39; omega
        have hbk : b * (k + 1) ≤ 9 * 60 := Nat.mul_le_mul (by omega) (by omega)
        refine r_aload_n hX dX8_pan_42 rfl ⟨_, rfl⟩ (RR.pc (b := 43) rfl ?_)
        refine r_callVv hX dX8_pan_43 ml_X8_154 cd_X8_goesOn iv_X8_goesOn (c_X8_goesOn hT1 hW1 (by omega)) (by decide) (by first | rfl | assumption) rfl rfl rfl rfl (Nat.le_of_ble_eq_true rfl) (fun s_43 e_43 => RR.pc (b := 46) rfl ?_)
        obtain ⟨e8, hs8⟩ := e_43
        refine r_iload_n (i := 0) hX dX8_pan_46 rfl (RR.pc (b := 47) rfl ?_)
        refine r_aload_n hX dX8_pan_47 rfl ⟨_, rfl⟩ (RR.pc (b := 48) rfl ?_)
        refine r_bipush (v := 11) hX dX8_pan_48 (by decide) (RR.pc (b := 50) rfl ?_)
        refine r_iload_n (i := 0) hX dX8_pan_50 rfl (RR.pc (b := 51) rfl ?_)
        refine r_iload hX dX8_pan_51 rfl (RR.pc (b := 53) rfl ?_)
        refine r_imul hX dX8_pan_53 (RR.pc (b := 54) rfl ?_)
        rw [pk_mul]
        refine r_bipush (v := 59) hX dX8_pan_54 (by decide) (RR.pc (b := 56) rfl ?_)
        refine r_callSie hX dX8_pan_56 ml_X8_101 cd_X8_within st_X8_within c_X8_within (by decide) rfl rfl (Nat.le_of_ble_eq_true rfl) (RR.pc (b := 59) rfl ?_)
        rw [pan_h (by omega)]
        refine r_iadd hX dX8_pan_59 (RR.pc (b := 60) rfl ?_)
        refine r_iconst (v := 0) hX dX8_pan_60 (by decide) (RR.pc (b := 61) rfl ?_)
        refine r_callVie hX dX8_pan_61 ml_X8_122 cd_X8_becomes iv_X8_becomes (c_X8_becomes (n := 11 + min (b * (k + 1)) 59) (nI_add 11 _) (by omega)) (by decide) (by first | rfl | assumption) rfl rfl rfl rfl (Nat.le_of_ble_eq_true rfl) (RR.pc (b := 64) rfl ?_)
        refine r_iadd hX dX8_pan_64 (RR.pc (b := 65) rfl ?_)
        refine r_istore_n hX dX8_pan_65 (by decide) (RR.pc (b := 66) rfl ?_)
        refine r_iinc hX dX8_pan_66 rfl (by decide) (nI_1 (k + 1)) (RR.pc (b := 69) rfl ?_)
        refine r_goto (tgt := 36) hX dX8_pan_69 rfl ?_
        refine RR.cut (ih hk2 _ (by rw [su_eq, e8, e1]; rfl) ((su_ne (by decide)).trans ((hs8 31 (by decide)).trans h31)) ((hs.tr (hs8.mono (by simp))).su (by simp))) (List.forall_mem_cons.mpr ⟨rfl, List.forall_mem_cons.mpr ⟨rfl, List.forall_mem_cons.mpr ⟨rfl, List.forall_mem_cons.mpr ⟨?_, List.forall_mem_cons.mpr ⟨rfl, fun _ h => absurd h List.not_mem_nil⟩⟩⟩⟩⟩)
        show some (Value.int _) = some (Value.int _)
        rw [e8, e1]
        rfl
      )
    refine r_aload_n hX dX8_pan_27 rfl ⟨_, rfl⟩ (RR.pc (b := 28) rfl ?_)
    refine r_callVve hX dX8_pan_28 ml_X8_166 cd_X8_laysBy iv_X8_laysBy c_X8_laysBy (by decide) (by first | rfl | assumption) rfl rfl rfl rfl (Nat.le_of_ble_eq_true rfl) (RR.pc (b := 31) rfl ?_)
    refine r_iconst (v := 0) hX dX8_pan_31 (by decide) (RR.pc (b := 32) rfl ?_)
    refine r_istore_n hX dX8_pan_32 (by decide) (RR.pc (b := 33) rfl ?_)
    refine r_iconst (v := 1) hX dX8_pan_33 (by decide) (RR.pc (b := 34) rfl ?_)
    refine r_istore hX dX8_pan_34 (by decide) (RR.pc (b := 36) rfl ?_)
    exact RR.cut (loop 0 (by omega) _ (sr_ne (by decide)) sr_eq (same.rf.sr (by simp))) (List.forall_mem_cons.mpr ⟨rfl, List.forall_mem_cons.mpr ⟨rfl, List.forall_mem_cons.mpr ⟨rfl, List.forall_mem_cons.mpr ⟨rfl, List.forall_mem_cons.mpr ⟨rfl, fun _ h => absurd h List.not_mem_nil⟩⟩⟩⟩⟩)
  refine r_iload_n (i := 0) hX dX8_pan_0 rfl (RR.pc (b := 1) rfl ?_)
  refine r_i2l hX dX8_pan_1 (RR.pc (b := 2) rfl ?_)
  refine r_lconst (v := 0) hX dX8_pan_2 rfl (RR.pc (b := 3) rfl ?_)
  refine r_ldc2 hX dX8_pan_3 k2_X8_78 (RR.pc (b := 6) rfl ?_)
  refine r_callSie hX dX8_pan_6 ml_X8_65 cd_X8_isIn st_X8_isIn c_X8_isIn (by decide) rfl rfl (Nat.le_of_ble_eq_true rfl) (RR.pc (b := 9) rfl ?_)
  refine r_if_eq_b (tgt := 24) hX dX8_pan_9 rfl (fun h9 => ?_) (fun h9 => RR.pc (b := 12) rfl ?_)
  · simp only [Int32.toInt_toInt64, Int64.reduceToInt] at h9
    exact RR.cut (bad (fun z => by first | exact h9 z.1 | exact h21 z.2)) (List.forall_mem_cons.mpr ⟨rfl, fun _ h => absurd h List.not_mem_nil⟩)
  · simp only [Int32.toInt_toInt64, Int64.reduceToInt] at h9
    refine r_iload_n (i := 0) hX dX8_pan_12 rfl (RR.pc (b := 13) rfl ?_)
    refine r_i2l hX dX8_pan_13 (RR.pc (b := 14) rfl ?_)
    refine r_lconst (v := 1) hX dX8_pan_14 rfl (RR.pc (b := 15) rfl ?_)
    refine r_ldc2 hX dX8_pan_15 k2_X8_182 (RR.pc (b := 18) rfl ?_)
    refine r_callSie hX dX8_pan_18 ml_X8_65 cd_X8_isIn st_X8_isIn c_X8_isIn (by decide) rfl rfl (Nat.le_of_ble_eq_true rfl) (RR.pc (b := 21) rfl ?_)
    refine r_if_ne_b (tgt := 27) hX dX8_pan_21 rfl (fun h21 => ?_) (fun h21 => RR.pc (b := 24) rfl ?_)
    · simp only [Int32.toInt_toInt64, Int64.reduceToInt] at h21
      exact RR.cut (go h9 h21) (List.forall_mem_cons.mpr ⟨rfl, List.forall_mem_cons.mpr ⟨rfl, List.forall_mem_cons.mpr ⟨rfl, fun _ h => absurd h List.not_mem_nil⟩⟩⟩)
    · simp only [Int32.toInt_toInt64, Int64.reduceToInt] at h21
      exact RR.cut (bad (fun z => by first | exact h9 z.1 | exact h21 z.2)) (List.forall_mem_cons.mpr ⟨rfl, fun _ h => absurd h List.not_mem_nil⟩)
