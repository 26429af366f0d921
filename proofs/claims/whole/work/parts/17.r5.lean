/-! the reference: what will be -/
set_option maxHeartbeats 4000000 in
set_option maxRecDepth 100000 in
theorem c_X8_laysBy {G : GM} {σ : SG} : CU G yX8_laysBy cX8_laysBy 2 none 0 [rf G 109] σ (fun s => s = sr σ 31 (cpL (σ 31) (σ 20) 171)) := by
  refine Con.of cd_X8_laysBy (Nat.le_of_ble_eq_true rfl) ?_
  intro X hX hZ
  have hX : Fx X G RX8 cX8_laysBy 2 0 := hX
  show RR X G 2 0 (ll [(0, rf G 109)]) [] σ
  have loop := loopK 171 (fun k => RR X G 2 2 (ll [(0, rf G 109), (1, .int (nI k))]) [] (sr σ 31 (cpL (σ 31) (σ 20) k))) (by
    intro k hk ih
    refine r_iload_n (i := 0) hX dX8_laysBy_2 rfl (RR.pc (b := 3) rfl ?_)
    refine r_sipush (v := 171) hX dX8_laysBy_3 (by decide) (RR.pc (b := 6) rfl ?_)
    refine r_icmp_ge (tgt := 27) hX dX8_laysBy_6 rfl (fun h6 => ?_) (fun h6 => RR.pc (b := 9) rfl ?_)
    · have hk2 : k = 171 := by rw [show (171 : Int32) = nI 171 from rfl, nI_leI (by omega) (by omega)] at h6; omega
      subst hk2
      exact r_vret hX hZ dX8_laysBy_27 ⟨rfl, rfl⟩
    · have hk2 : k < 171 := by rw [show (171 : Int32) = nI 171 from rfl, nI_leI (by omega) (by omega)] at h6; omega
      refine r_aload_n hX dX8_laysBy_9 rfl ⟨_, rfl⟩ (RR.pc (b := 10) rfl ?_)
      refine r_getr hX dX8_laysBy_10 fl_X8_43 (by first | rfl | assumption) rfl (RR.pc (b := 13) rfl ?_)
      refine r_iload_n (i := 0) hX dX8_laysBy_13 rfl (RR.pc (b := 14) rfl ?_)
      refine r_aload_n hX dX8_laysBy_14 rfl ⟨_, rfl⟩ (RR.pc (b := 15) rfl ?_)
      refine r_getr hX dX8_laysBy_15 fl_X8_7 (by first | rfl | assumption) rfl (RR.pc (b := 18) rfl ?_)
      refine r_iload_n (i := 0) hX dX8_laysBy_18 rfl (RR.pc (b := 19) rfl ?_)
      refine r_iald hX dX8_laysBy_19 (by first | rfl | assumption) rfl (by omega) (by decide) (by first | exact Nat.zero_add _ | rfl) (RR.pc (b := 20) rfl ?_)
      rw [sr_ne (by decide)]
      refine r_iast hX dX8_laysBy_20 (by first | rfl | assumption) rfl (by omega) (by decide) (by first | exact Nat.zero_add _ | rfl) (RR.pc (b := 21) rfl ?_)
      refine r_iinc hX dX8_laysBy_21 rfl (by decide) (nI_1 k) (RR.pc (b := 24) rfl ?_)
      refine r_goto (tgt := 2) hX dX8_laysBy_24 rfl ?_
      exact RR.eqs (by rw [su_sr, cpL_succ]) (RR.cut (ih hk2) (List.forall_mem_cons.mpr ⟨rfl, List.forall_mem_cons.mpr ⟨rfl, fun _ h => absurd h List.not_mem_nil⟩⟩))
    )
  refine r_iconst (v := 0) hX dX8_laysBy_0 (by decide) (RR.pc (b := 1) rfl ?_)
  refine r_istore_n hX dX8_laysBy_1 (by decide) (RR.pc (b := 2) rfl ?_)
  exact RR.eqs (show σ = sr σ 31 (cpL (σ 31) (σ 20) 0) from sr_self.symm) (RR.cut (loop 0 (by omega)) (List.forall_mem_cons.mpr ⟨rfl, List.forall_mem_cons.mpr ⟨rfl, fun _ h => absurd h List.not_mem_nil⟩⟩))
set_option maxHeartbeats 4000000 in
set_option maxRecDepth 100000 in
theorem c_X8_laysBack {G : GM} {σ : SG} : CU G yX8_laysBack cX8_laysBack 2 none 0 [rf G 109] σ (fun s => s = sr σ 20 (cpL (σ 20) (σ 31) 171)) := by
  refine Con.of cd_X8_laysBack (Nat.le_of_ble_eq_true rfl) ?_
  intro X hX hZ
  have hX : Fx X G RX8 cX8_laysBack 2 0 := hX
  show RR X G 2 0 (ll [(0, rf G 109)]) [] σ
  have loop := loopK 171 (fun k => RR X G 2 2 (ll [(0, rf G 109), (1, .int (nI k))]) [] (sr σ 20 (cpL (σ 20) (σ 31) k))) (by
    intro k hk ih
    refine r_iload_n (i := 0) hX dX8_laysBack_2 rfl (RR.pc (b := 3) rfl ?_)
    refine r_sipush (v := 171) hX dX8_laysBack_3 (by decide) (RR.pc (b := 6) rfl ?_)
    refine r_icmp_ge (tgt := 27) hX dX8_laysBack_6 rfl (fun h6 => ?_) (fun h6 => RR.pc (b := 9) rfl ?_)
    · have hk2 : k = 171 := by rw [show (171 : Int32) = nI 171 from rfl, nI_leI (by omega) (by omega)] at h6; omega
      subst hk2
      exact r_vret hX hZ dX8_laysBack_27 ⟨rfl, rfl⟩
    · have hk2 : k < 171 := by rw [show (171 : Int32) = nI 171 from rfl, nI_leI (by omega) (by omega)] at h6; omega
      refine r_aload_n hX dX8_laysBack_9 rfl ⟨_, rfl⟩ (RR.pc (b := 10) rfl ?_)
      refine r_getr hX dX8_laysBack_10 fl_X8_7 (by first | rfl | assumption) rfl (RR.pc (b := 13) rfl ?_)
      refine r_iload_n (i := 0) hX dX8_laysBack_13 rfl (RR.pc (b := 14) rfl ?_)
      refine r_aload_n hX dX8_laysBack_14 rfl ⟨_, rfl⟩ (RR.pc (b := 15) rfl ?_)
      refine r_getr hX dX8_laysBack_15 fl_X8_43 (by first | rfl | assumption) rfl (RR.pc (b := 18) rfl ?_)
      refine r_iload_n (i := 0) hX dX8_laysBack_18 rfl (RR.pc (b := 19) rfl ?_)
      refine r_iald hX dX8_laysBack_19 (by first | rfl | assumption) rfl (by omega) (by decide) (by first | exact Nat.zero_add _ | rfl) (RR.pc (b := 20) rfl ?_)
      rw [sr_ne (by decide)]
      refine r_iast hX dX8_laysBack_20 (by first | rfl | assumption) rfl (by omega) (by decide) (by first | exact Nat.zero_add _ | rfl) (RR.pc (b := 21) rfl ?_)
      refine r_iinc hX dX8_laysBack_21 rfl (by decide) (nI_1 k) (RR.pc (b := 24) rfl ?_)
      refine r_goto (tgt := 2) hX dX8_laysBack_24 rfl ?_
      exact RR.eqs (by rw [su_sr, cpL_succ]) (RR.cut (ih hk2) (List.forall_mem_cons.mpr ⟨rfl, List.forall_mem_cons.mpr ⟨rfl, fun _ h => absurd h List.not_mem_nil⟩⟩))
    )
  refine r_iconst (v := 0) hX dX8_laysBack_0 (by decide) (RR.pc (b := 1) rfl ?_)
  refine r_istore_n hX dX8_laysBack_1 (by decide) (RR.pc (b := 2) rfl ?_)
  exact RR.eqs (show σ = sr σ 20 (cpL (σ 20) (σ 31) 0) from sr_self.symm) (RR.cut (loop 0 (by omega)) (List.forall_mem_cons.mpr ⟨rfl, List.forall_mem_cons.mpr ⟨rfl, fun _ h => absurd h List.not_mem_nil⟩⟩))
theorem laid {σ σ1 : SG} {l : List Nat} (h20 : ∀ i, 171 ≤ i → σ1 20 i = σ 20 i) (h31 : σ1 31 = cpL (σ 31) (σ 20) 171) (hs : same l σ σ1) (hl : ∀ x ∈ l, x = 20 ∨ x = 31 ∨ x = 33 ∨ x = 34) : same [31, 33, 34] σ (sr σ1 20 (cpL (σ1 20) (σ1 31) 171)) := by
  intro r hr
  by_cases e : r = 20
  · subst e
    rw [sr_eq, h31, cpL_back h20]
  · rw [sr_ne e]
    refine hs r (fun q => ?_)
    simp only [List.mem_cons, List.not_mem_nil, or_false, not_or] at hr
    rcases hl r q with z | z | z | z
    · exact e z
    · exact hr.1 z
    · exact hr.2.1 z
    · exact hr.2.2 z
theorem RT_after {w w' : Nat → Int32} {Ts : Nat → Tx} {nt : Nat} (h : RT w Ts nt) (e : ∀ i, (i = 0 ∨ i = 1 ∨ (7 ≤ i ∧ i < 11) ∨ 171 ≤ i) → w' i = w i) : RT w' Ts nt := h.congr (e 1 (by omega)) (fun i hi => e i (by omega))
set_option maxHeartbeats 4000000 in
set_option maxRecDepth 100000 in
theorem c_X8_behind {G : GM} {σ : SG} {Ts : Nat → Tx} {nt n m : Nat} {q what : Int32} (hT : RT (σ 20) Ts nt) (hW : WO (σ 20) n m) (hm : m ≤ 9999) : CI G yX8_behind cX8_behind 4 (some .int) 6 [rf G 109, .int q, .int what] σ (fun r s => r = behF (lkV Ts nt) n (σ 20) q what ∧ same [31, 33, 34] σ s) := by
  refine Con.of cd_X8_behind (Nat.le_of_ble_eq_true rfl) ?_
  intro X hX hZ
  have hX : Fx X G RX8 cX8_behind 4 6 := hX
  show RR X G 4 0 (ll [(0, rf G 109), (1, .int q), (2, .int what)]) [] σ
  have hV : VO (lkV Ts nt) := lkV_VO
  have h8 := hW.2.1
  have bad : ¬ ((0 ≤ q.toInt ∧ q.toInt ≤ 100) ∧ (0 ≤ what.toInt ∧ what.toInt ≤ 2 + n)) → RR X G 4 30 (ll [(0, rf G 109)]) [] σ := by
    intro h
    refine r_ldc hX dX8_behind_30 kc_X8_84 (RR.pc (b := 32) rfl ?_)
    exact r_iret hX hZ dX8_behind_32 ⟨_, rfl, ⟨by unfold behF; rw [if_neg h], same.rf⟩⟩
  refine r_iload_n (i := 0) hX dX8_behind_0 rfl (RR.pc (b := 1) rfl ?_)
  refine r_i2l hX dX8_behind_1 (RR.pc (b := 2) rfl ?_)
  refine r_lconst (v := 0) hX dX8_behind_2 rfl (RR.pc (b := 3) rfl ?_)
  refine r_ldc2 hX dX8_behind_3 k2_X8_132 (RR.pc (b := 6) rfl ?_)
  refine r_callSie hX dX8_behind_6 ml_X8_65 cd_X8_isIn st_X8_isIn c_X8_isIn (by decide) rfl rfl (Nat.le_of_ble_eq_true rfl) (RR.pc (b := 9) rfl ?_)
  refine r_if_eq_b (tgt := 30) hX dX8_behind_9 rfl (fun h9 => RR.cut (bad (fun z => h9 (by simp only [Int32.toInt_toInt64, Int64.reduceToInt]; exact z.1))) (List.forall_mem_cons.mpr ⟨rfl, fun _ h => absurd h List.not_mem_nil⟩)) (fun h9 => RR.pc (b := 12) rfl ?_)
  simp only [Int32.toInt_toInt64, Int64.reduceToInt] at h9
  refine r_iload_n (i := 0) hX dX8_behind_12 rfl (RR.pc (b := 13) rfl ?_)
  refine r_i2l hX dX8_behind_13 (RR.pc (b := 14) rfl ?_)
  refine r_lconst (v := 0) hX dX8_behind_14 rfl (RR.pc (b := 15) rfl ?_)
  refine r_iconst (v := 2) hX dX8_behind_15 (by decide) (RR.pc (b := 16) rfl ?_)
  refine r_aload_n hX dX8_behind_16 rfl ⟨_, rfl⟩ (RR.pc (b := 17) rfl ?_)
  refine r_getr hX dX8_behind_17 fl_X8_7 (by first | rfl | assumption) rfl (RR.pc (b := 20) rfl ?_)
  refine r_iconst (v := 0) hX dX8_behind_20 (by decide) (RR.pc (b := 21) rfl ?_)
  refine r_iald hX dX8_behind_21 (by first | rfl | assumption) (by first | rfl | assumption) (by first | decide | assumption | omega) (by decide) (by first | exact Nat.zero_add _ | rfl) (RR.pc (b := 22) rfl ?_)
  rw [hW.1, show (2 : Int32) = nI 2 from rfl]
  refine r_iadd hX dX8_behind_22 (RR.pc (b := 23) rfl ?_)
  rw [nI_add]
  refine r_i2l hX dX8_behind_23 (RR.pc (b := 24) rfl ?_)
  refine r_callSie hX dX8_behind_24 ml_X8_65 cd_X8_isIn st_X8_isIn c_X8_isIn (by decide) rfl rfl (Nat.le_of_ble_eq_true rfl) (RR.pc (b := 27) rfl ?_)
  have e27 : ((0 : Int64).toInt ≤ what.toInt64.toInt ∧ what.toInt64.toInt ≤ (nI (2 + n)).toInt64.toInt) ↔ (0 ≤ what.toInt ∧ what.toInt ≤ 2 + n) := by
    simp only [Int32.toInt_toInt64, Int64.reduceToInt]
    rw [nI_toInt (by omega)]
    omega
  refine r_if_ne_b (tgt := 33) hX dX8_behind_27 rfl (fun h27 => ?_) (fun h27 => RR.pc (b := 30) rfl (RR.cut (bad (fun z => h27 (e27.mpr z.2))) (List.forall_mem_cons.mpr ⟨rfl, fun _ h => absurd h List.not_mem_nil⟩)))
  rw [e27] at h27
  obtain ⟨c, hc, rfl⟩ := ix_of (n := 101) (k := q) ⟨by omega, by omega⟩ (by omega)
  have eF : behF (lkV Ts nt) n (σ 20) (nI c) what = (if what = 0 then sumW (minN (lkV Ts nt) n (σ 20) c) 11 60 else if what = 1 then minN (lkV Ts nt) n (σ 20) c 4 else if what = 2 then minN (lkV Ts nt) n (σ 20) c 5 else minN (lkV Ts nt) n (σ 20) c (131 + 5 * (what.toNatClampNeg - 3) + 3)) := by
    unfold behF
    rw [if_pos ⟨h9, h27⟩, nI_clamp (by omega)]
  rw [eF] at hZ
  refine r_aload_n hX dX8_behind_33 rfl ⟨_, rfl⟩ (RR.pc (b := 34) rfl ?_)
  refine r_callVve hX dX8_behind_34 ml_X8_166 cd_X8_laysBy iv_X8_laysBy c_X8_laysBy (by decide) (by first | rfl | assumption) rfl rfl rfl rfl (Nat.le_of_ble_eq_true rfl) (RR.pc (b := 37) rfl ?_)
  refine r_aload_n hX dX8_behind_37 rfl ⟨_, rfl⟩ (RR.pc (b := 38) rfl ?_)
  refine r_iload_n (i := 0) hX dX8_behind_38 rfl (RR.pc (b := 39) rfl ?_)
  refine r_callVv hX dX8_behind_39 ml_X8_169 cd_X8_goesOnMany iv_X8_goesOnMany (c_X8_goesOnMany (Ts := Ts) (nt := nt) (n := n) (m := m) (by rw [sr_ne (by decide)]; exact hT) (by rw [sr_ne (by decide)]; exact hW) (by omega)) (by decide) (by first | rfl | assumption) rfl rfl rfl rfl (Nat.le_of_ble_eq_true rfl) (fun s_39 e_39 => RR.pc (b := 42) rfl ?_)
  obtain ⟨e39, hs39⟩ := e_39
  rw [sr_ne (by decide)] at e39
  have hs : same [20, 31, 33, 34] σ s_39 := ((same.rf.sr (by simp)).tr (hs39.mono (by simp)))
  have h31 : s_39 31 = cpL (σ 31) (σ 20) 171 := (hs39 31 (by decide)).trans sr_eq
  have h20 : ∀ i, 171 ≤ i → s_39 20 i = σ 20 i := fun i hi => by rw [e39]; exact minN_out hV hW (by omega) c
  have fin : ∀ v, v = (if what = 0 then sumW (minN (lkV Ts nt) n (σ 20) c) 11 60 else if what = 1 then minN (lkV Ts nt) n (σ 20) c 4 else if what = 2 then minN (lkV Ts nt) n (σ 20) c 5 else minN (lkV Ts nt) n (σ 20) c (131 + 5 * (what.toNatClampNeg - 3) + 3)) → RR X G 4 91 (ll [(0, rf G 109)]) [.int v] s_39 := by
    intro v hv
    refine r_istore_n hX dX8_behind_91 (by decide) (RR.pc (b := 92) rfl ?_)
    refine r_aload_n hX dX8_behind_92 rfl ⟨_, rfl⟩ (RR.pc (b := 93) rfl ?_)
    refine r_callVve hX dX8_behind_93 ml_X8_172 cd_X8_laysBack iv_X8_laysBack c_X8_laysBack (by decide) (by first | rfl | assumption) rfl rfl rfl rfl (Nat.le_of_ble_eq_true rfl) (RR.pc (b := 96) rfl ?_)
    refine r_iload_n (i := 0) hX dX8_behind_96 rfl (RR.pc (b := 97) rfl ?_)
    exact r_iret hX hZ dX8_behind_97 ⟨_, rfl, ⟨hv, laid h20 h31 hs (by simp)⟩⟩
  refine r_iload_n (i := 0) hX dX8_behind_42 rfl (RR.pc (b := 43) rfl ?_)
  refine r_if_ne (tgt := 55) hX dX8_behind_43 rfl (fun h43 => ?_) (fun h43 => RR.pc (b := 46) rfl ?_)
  · refine r_iload_n (i := 0) hX dX8_behind_55 rfl (RR.pc (b := 56) rfl ?_)
    refine r_iconst (v := 1) hX dX8_behind_56 (by decide) (RR.pc (b := 57) rfl ?_)
    refine r_icmp_ne (tgt := 69) hX dX8_behind_57 rfl (fun h57 => ?_) (fun h57 => RR.pc (b := 60) rfl ?_)
    · refine r_iload_n (i := 0) hX dX8_behind_69 rfl (RR.pc (b := 70) rfl ?_)
      refine r_iconst (v := 2) hX dX8_behind_70 (by decide) (RR.pc (b := 71) rfl ?_)
      refine r_icmp_ne (tgt := 83) hX dX8_behind_71 rfl (fun h71 => ?_) (fun h71 => RR.pc (b := 74) rfl ?_)
      · obtain ⟨b, hb, rfl⟩ := ix_of (n := 3 + n) (k := what) ⟨by omega, by omega⟩ (by omega)
        have hb3 : 3 ≤ b := by
          have a0 : b ≠ 0 := fun e => h43 (by rw [e]; rfl)
          have a1 : b ≠ 1 := fun e => h57 (by rw [e]; rfl)
          have a2 : b ≠ 2 := fun e => h71 (by rw [e]; rfl)
          omega
        refine r_aload_n hX dX8_behind_83 rfl ⟨_, rfl⟩ (RR.pc (b := 84) rfl ?_)
        refine r_iload_n (i := 0) hX dX8_behind_84 rfl (RR.pc (b := 85) rfl ?_)
        refine r_iconst (v := 3) hX dX8_behind_85 (by decide) (RR.pc (b := 86) rfl ?_)
        refine r_isub hX dX8_behind_86 (RR.pc (b := 87) rfl ?_)
        refine r_iconst (v := 3) hX dX8_behind_87 (by decide) (RR.pc (b := 88) rfl ?_)
        refine r_callVie hX dX8_behind_88 ml_X8_90 cd_X8_of iv_X8_of (c_X8_of (a := (nI b).toNatClampNeg - 3) (b := 3) (by rw [nI_clamp (by omega)]; exact pk_sub hb3) rfl rfl (by rw [nI_clamp (by omega)]; omega)) (by decide) (by first | rfl | assumption) rfl rfl rfl rfl (Nat.le_of_ble_eq_true rfl) (RR.pc (b := 91) rfl ?_)
        first | exact RR.cut (fin _ (by rw [e39, if_pos h43])) (List.forall_mem_cons.mpr ⟨rfl, fun _ h => absurd h List.not_mem_nil⟩) | exact RR.cut (fin _ (by rw [e39, if_neg h43, if_pos h57])) (List.forall_mem_cons.mpr ⟨rfl, fun _ h => absurd h List.not_mem_nil⟩) | exact RR.cut (fin _ (by rw [e39, if_neg h43, if_neg h57, if_pos h71])) (List.forall_mem_cons.mpr ⟨rfl, fun _ h => absurd h List.not_mem_nil⟩) | exact RR.cut (fin _ (by rw [e39, if_neg h43, if_neg h57, if_neg h71])) (List.forall_mem_cons.mpr ⟨rfl, fun _ h => absurd h List.not_mem_nil⟩)
      · refine r_aload_n hX dX8_behind_74 rfl ⟨_, rfl⟩ (RR.pc (b := 75) rfl ?_)
        refine r_getr hX dX8_behind_75 fl_X8_7 (by first | rfl | assumption) rfl (RR.pc (b := 78) rfl ?_)
        refine r_iconst (v := 5) hX dX8_behind_78 (by decide) (RR.pc (b := 79) rfl ?_)
        refine r_iald hX dX8_behind_79 (by first | rfl | assumption) (by first | rfl | assumption) (by first | decide | assumption | omega) (by decide) (by first | exact Nat.zero_add _ | rfl) (RR.pc (b := 80) rfl ?_)
        refine r_goto (tgt := 91) hX dX8_behind_80 rfl ?_
        first | exact RR.cut (fin _ (by rw [e39, if_pos h43])) (List.forall_mem_cons.mpr ⟨rfl, fun _ h => absurd h List.not_mem_nil⟩) | exact RR.cut (fin _ (by rw [e39, if_neg h43, if_pos h57])) (List.forall_mem_cons.mpr ⟨rfl, fun _ h => absurd h List.not_mem_nil⟩) | exact RR.cut (fin _ (by rw [e39, if_neg h43, if_neg h57, if_pos h71])) (List.forall_mem_cons.mpr ⟨rfl, fun _ h => absurd h List.not_mem_nil⟩) | exact RR.cut (fin _ (by rw [e39, if_neg h43, if_neg h57, if_neg h71])) (List.forall_mem_cons.mpr ⟨rfl, fun _ h => absurd h List.not_mem_nil⟩)
    · refine r_aload_n hX dX8_behind_60 rfl ⟨_, rfl⟩ (RR.pc (b := 61) rfl ?_)
      refine r_getr hX dX8_behind_61 fl_X8_7 (by first | rfl | assumption) rfl (RR.pc (b := 64) rfl ?_)
      refine r_iconst (v := 4) hX dX8_behind_64 (by decide) (RR.pc (b := 65) rfl ?_)
      refine r_iald hX dX8_behind_65 (by first | rfl | assumption) (by first | rfl | assumption) (by first | decide | assumption | omega) (by decide) (by first | exact Nat.zero_add _ | rfl) (RR.pc (b := 66) rfl ?_)
      refine r_goto (tgt := 91) hX dX8_behind_66 rfl ?_
      first | exact RR.cut (fin _ (by rw [e39, if_pos h43])) (List.forall_mem_cons.mpr ⟨rfl, fun _ h => absurd h List.not_mem_nil⟩) | exact RR.cut (fin _ (by rw [e39, if_neg h43, if_pos h57])) (List.forall_mem_cons.mpr ⟨rfl, fun _ h => absurd h List.not_mem_nil⟩) | exact RR.cut (fin _ (by rw [e39, if_neg h43, if_neg h57, if_pos h71])) (List.forall_mem_cons.mpr ⟨rfl, fun _ h => absurd h List.not_mem_nil⟩) | exact RR.cut (fin _ (by rw [e39, if_neg h43, if_neg h57, if_neg h71])) (List.forall_mem_cons.mpr ⟨rfl, fun _ h => absurd h List.not_mem_nil⟩)
  · refine r_aload_n hX dX8_behind_46 rfl ⟨_, rfl⟩ (RR.pc (b := 47) rfl ?_)
    refine r_bipush (v := 11) hX dX8_behind_47 (by decide) (RR.pc (b := 49) rfl ?_)
    refine r_callVie hX dX8_behind_49 ml_X8_157 cd_X8_allOf iv_X8_allOf (c_X8_allOf (o := 11) (by decide)) (by decide) (by first | rfl | assumption) rfl rfl rfl rfl (Nat.le_of_ble_eq_true rfl) (RR.pc (b := 52) rfl ?_)
    refine r_goto (tgt := 91) hX dX8_behind_52 rfl ?_
    first | exact RR.cut (fin _ (by rw [e39, if_pos h43])) (List.forall_mem_cons.mpr ⟨rfl, fun _ h => absurd h List.not_mem_nil⟩) | exact RR.cut (fin _ (by rw [e39, if_neg h43, if_pos h57])) (List.forall_mem_cons.mpr ⟨rfl, fun _ h => absurd h List.not_mem_nil⟩) | exact RR.cut (fin _ (by rw [e39, if_neg h43, if_neg h57, if_pos h71])) (List.forall_mem_cons.mpr ⟨rfl, fun _ h => absurd h List.not_mem_nil⟩) | exact RR.cut (fin _ (by rw [e39, if_neg h43, if_neg h57, if_neg h71])) (List.forall_mem_cons.mpr ⟨rfl, fun _ h => absurd h List.not_mem_nil⟩)
set_option maxHeartbeats 4000000 in
set_option maxRecDepth 100000 in
theorem c_X8_isEmpty {G : GM} {σ : SG} {n : Nat} (hN : σ 20 0 = nI n) (h8 : n ≤ 8) : CI G yX8_isEmpty cX8_isEmpty 2 (some .boolean) 1 [rf G 109] σ (fun r s => r = bz (thrP (σ 20) n) ∧ s = σ) := by
  refine Con.of cd_X8_isEmpty (Nat.le_of_ble_eq_true rfl) ?_
  intro X hX hZ
  have hX : Fx X G RX8 cX8_isEmpty 2 1 := hX
  show RR X G 2 0 (ll [(0, rf G 109)]) [] σ
  have loop := loopK n (fun k => (∀ j, j < k → ¬ (0 < σ 20 (131 + 5 * j + 3) ∧ σ 20 (131 + 5 * j + 2) < 59)) → RR X G 2 2 (ll [(0, rf G 109), (1, .int (nI k))]) [] σ) (by
    intro k hk ih hj
    refine r_iload_n (i := 0) hX dX8_isEmpty_2 rfl (RR.pc (b := 3) rfl ?_)
    refine r_aload_n hX dX8_isEmpty_3 rfl ⟨_, rfl⟩ (RR.pc (b := 4) rfl ?_)
    refine r_getr hX dX8_isEmpty_4 fl_X8_7 (by first | rfl | assumption) rfl (RR.pc (b := 7) rfl ?_)
    refine r_iconst (v := 0) hX dX8_isEmpty_7 (by decide) (RR.pc (b := 8) rfl ?_)
    refine r_iald hX dX8_isEmpty_8 (by first | rfl | assumption) (by first | rfl | assumption) (by first | decide | assumption | omega) (by decide) (by first | exact Nat.zero_add _ | rfl) (RR.pc (b := 9) rfl ?_)
    rw [hN]
    refine r_icmp_ge (tgt := 40) hX dX8_isEmpty_9 rfl (fun h9 => ?_) (fun h9 => RR.pc (b := 12) rfl ?_)
    · have hk2 : k = n := by rw [nI_leI (by omega) (by omega)] at h9; omega
      subst hk2
      refine r_iconst (v := 1) hX dX8_isEmpty_40 (by decide) (RR.pc (b := 41) rfl ?_)
      exact r_zret hX hZ dX8_isEmpty_41 (by first | rfl | exact nar_bz _) ⟨_, rfl, ⟨(bz_t hj).symm, rfl⟩⟩
    · have hk2 : k < n := by rw [nI_leI (by omega) (by omega)] at h9; omega
      refine r_aload_n hX dX8_isEmpty_12 rfl ⟨_, rfl⟩ (RR.pc (b := 13) rfl ?_)
      refine r_iload_n (i := 0) hX dX8_isEmpty_13 rfl (RR.pc (b := 14) rfl ?_)
      refine r_iconst (v := 3) hX dX8_isEmpty_14 (by decide) (RR.pc (b := 15) rfl ?_)
      refine r_callVie hX dX8_isEmpty_15 ml_X8_90 cd_X8_of iv_X8_of (c_X8_of (a := k) (b := 3) (q := 131 + 5 * k + 3) rfl rfl rfl (by omega)) (by decide) (by first | rfl | assumption) rfl rfl rfl rfl (Nat.le_of_ble_eq_true rfl) (RR.pc (b := 18) rfl ?_)
      refine r_if_le (tgt := 34) hX dX8_isEmpty_18 rfl (fun h18 => ?_) (fun h18 => RR.pc (b := 21) rfl ?_)
      · refine r_iinc hX dX8_isEmpty_34 rfl (by decide) (nI_1 k) (RR.pc (b := 37) rfl ?_)
        refine r_goto (tgt := 2) hX dX8_isEmpty_37 rfl ?_
        refine RR.cut (ih hk2 (fun j hjk => ?_)) (List.forall_mem_cons.mpr ⟨rfl, List.forall_mem_cons.mpr ⟨rfl, fun _ h => absurd h List.not_mem_nil⟩⟩)
        by_cases e : j = k
        · subst e
          first | exact fun z => absurd z.1 (Int32.not_lt.mpr h18) | exact fun z => absurd z.2 (Int32.not_lt.mpr h29)
        · exact hj j (by omega)
      · refine r_aload_n hX dX8_isEmpty_21 rfl ⟨_, rfl⟩ (RR.pc (b := 22) rfl ?_)
        refine r_iload_n (i := 0) hX dX8_isEmpty_22 rfl (RR.pc (b := 23) rfl ?_)
        refine r_iconst (v := 2) hX dX8_isEmpty_23 (by decide) (RR.pc (b := 24) rfl ?_)
        refine r_callVie hX dX8_isEmpty_24 ml_X8_90 cd_X8_of iv_X8_of (c_X8_of (a := k) (b := 2) (q := 131 + 5 * k + 2) rfl rfl rfl (by omega)) (by decide) (by first | rfl | assumption) rfl rfl rfl rfl (Nat.le_of_ble_eq_true rfl) (RR.pc (b := 27) rfl ?_)
        refine r_bipush (v := 59) hX dX8_isEmpty_27 (by decide) (RR.pc (b := 29) rfl ?_)
        refine r_icmp_ge (tgt := 34) hX dX8_isEmpty_29 rfl (fun h29 => ?_) (fun h29 => RR.pc (b := 32) rfl ?_)
        · refine r_iinc hX dX8_isEmpty_34 rfl (by decide) (nI_1 k) (RR.pc (b := 37) rfl ?_)
          refine r_goto (tgt := 2) hX dX8_isEmpty_37 rfl ?_
          refine RR.cut (ih hk2 (fun j hjk => ?_)) (List.forall_mem_cons.mpr ⟨rfl, List.forall_mem_cons.mpr ⟨rfl, fun _ h => absurd h List.not_mem_nil⟩⟩)
          by_cases e : j = k
          · subst e
            first | exact fun z => absurd z.1 (Int32.not_lt.mpr h18) | exact fun z => absurd z.2 (Int32.not_lt.mpr h29)
          · exact hj j (by omega)
        · refine r_iconst (v := 0) hX dX8_isEmpty_32 (by decide) (RR.pc (b := 33) rfl ?_)
          exact r_zret hX hZ dX8_isEmpty_33 (by first | rfl | exact nar_bz _) ⟨_, rfl, ⟨(bz_f (fun z => z k hk2 ⟨Int32.not_le.mp h18, Int32.not_le.mp h29⟩)).symm, rfl⟩⟩
    )
  refine r_iconst (v := 0) hX dX8_isEmpty_0 (by decide) (RR.pc (b := 1) rfl ?_)
  refine r_istore_n hX dX8_isEmpty_1 (by decide) (RR.pc (b := 2) rfl ?_)
  exact RR.cut (loop 0 (by omega) (fun j h => absurd h (Nat.not_lt_zero j))) (List.forall_mem_cons.mpr ⟨rfl, List.forall_mem_cons.mpr ⟨rfl, fun _ h => absurd h List.not_mem_nil⟩⟩)
