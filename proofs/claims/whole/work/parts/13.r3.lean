/-! the reference: leaks, walks, a minute -/
set_option maxHeartbeats 4000000 in
set_option maxRecDepth 100000 in
theorem c_X8_leaks {G : GM} {σ : SG} {Ts : Nat → Tx} {nt a : Nat} (ha : a < 8) (hT : RT (σ 20) Ts nt) : CI G yX8_leaks cX8_leaks 4 (some .int) 2 [rf G 109, .int (nI a)] σ (fun r s => r = lkW (lkV Ts nt) (σ 20) a ∧ same [33, 34] σ s) := by
  refine Con.of cd_X8_leaks (Nat.le_of_ble_eq_true rfl) ?_
  intro X hX hZ
  have hX : Fx X G RX8 cX8_leaks 4 2 := hX
  show RR X G 4 0 (ll [(0, rf G 109), (1, .int (nI a))]) [] σ
  have tail : ∀ (v : Int32) (σ1 : SG), same [33, 34] σ σ1 → lkK (σ 20 (131 + 5 * a)) v = lkW (lkV Ts nt) (σ 20) a → RR X G 4 68 (ll [(0, rf G 109), (1, .int (nI a)), (2, .int v)]) [] σ1 := by
    intro v σ1 hs hv
    have h20 : σ1 20 = σ 20 := hs 20 (by decide)
    refine r_aload_n hX dX8_leaks_68 rfl ⟨_, rfl⟩ (RR.pc (b := 69) rfl ?_)
    refine r_iload_n (i := 0) hX dX8_leaks_69 rfl (RR.pc (b := 70) rfl ?_)
    refine r_iconst (v := 0) hX dX8_leaks_70 (by decide) (RR.pc (b := 71) rfl ?_)
    refine r_callVie hX dX8_leaks_71 ml_X8_90 cd_X8_of iv_X8_of (c_X8_of (a := a) (b := 0) (q := 131 + 5 * a) rfl rfl rfl (by omega)) (by decide) (by first | rfl | assumption) rfl rfl rfl rfl (Nat.le_of_ble_eq_true rfl) (RR.pc (b := 74) rfl ?_)
    rw [h20]
    by_cases h74_1 : σ 20 (131 + 5 * a) = 1
    · refine r_tableIn (tgt := 108) hX dX8_leaks_74 (by rw [h74_1]; decide) (by rw [h74_1]; decide) (by rw [h74_1]; rfl) rfl ?_
      refine r_iload_n (i := 0) hX dX8_leaks_108 rfl (RR.pc (b := 109) rfl ?_)
      refine r_iconst (v := 2) hX dX8_leaks_109 (by decide) (RR.pc (b := 110) rfl ?_)
      refine r_idiv hX dX8_leaks_110 (by decide) (RR.pc (b := 111) rfl ?_)
      exact r_iret hX hZ dX8_leaks_111 ⟨_, rfl, ⟨by rw [← hv]; unfold lkK; simp_all, hs⟩⟩
    by_cases h74_2 : σ 20 (131 + 5 * a) = 2
    · refine r_tableIn (tgt := 112) hX dX8_leaks_74 (by rw [h74_2]; decide) (by rw [h74_2]; decide) (by rw [h74_2]; rfl) rfl ?_
      refine r_iconst (v := 2) hX dX8_leaks_112 (by decide) (RR.pc (b := 113) rfl ?_)
      refine r_iload_n (i := 0) hX dX8_leaks_113 rfl (RR.pc (b := 114) rfl ?_)
      refine r_imul hX dX8_leaks_114 (RR.pc (b := 115) rfl ?_)
      exact r_iret hX hZ dX8_leaks_115 ⟨_, rfl, ⟨by rw [← hv]; unfold lkK; simp_all, hs⟩⟩
    by_cases h74_3 : σ 20 (131 + 5 * a) = 3
    · refine r_tableIn (tgt := 116) hX dX8_leaks_74 (by rw [h74_3]; decide) (by rw [h74_3]; decide) (by rw [h74_3]; rfl) rfl ?_
      refine r_iload_n (i := 0) hX dX8_leaks_116 rfl (RR.pc (b := 117) rfl ?_)
      refine r_iconst (v := 2) hX dX8_leaks_117 (by decide) (RR.pc (b := 118) rfl ?_)
      refine r_idiv hX dX8_leaks_118 (by decide) (RR.pc (b := 119) rfl ?_)
      refine r_iconst (v := 2) hX dX8_leaks_119 (by decide) (RR.pc (b := 120) rfl ?_)
      refine r_dia2 132 (if 2 ≤ v / 2 then v / 2 - 2 else 0) (fun hj120 => ?_) ?_
      · refine r_icmp_ge (tgt := 127) hX dX8_leaks_120 rfl (fun h120 => ?_) (fun h120 => RR.pc (b := 123) rfl ?_)
        · refine r_iload_n (i := 0) hX dX8_leaks_127 rfl (RR.pc (b := 128) rfl ?_)
          refine r_iconst (v := 2) hX dX8_leaks_128 (by decide) (RR.pc (b := 129) rfl ?_)
          refine r_idiv hX dX8_leaks_129 (by decide) (RR.pc (b := 130) rfl ?_)
          refine r_iconst (v := 2) hX dX8_leaks_130 (by decide) (RR.pc (b := 131) rfl ?_)
          refine r_isub hX dX8_leaks_131 (RR.pc (b := 132) rfl ?_)
          exact RR.eqt (congrArg (fun q => Value.int q :: _) (if_pos h120).symm) hj120
        · refine r_iconst (v := 0) hX dX8_leaks_123 (by decide) (RR.pc (b := 124) rfl ?_)
          refine r_goto (tgt := 132) hX dX8_leaks_124 rfl ?_
          exact RR.eqt (congrArg (fun q => Value.int q :: _) (if_neg h120).symm) hj120
      exact r_iret hX hZ dX8_leaks_132 ⟨_, rfl, ⟨by rw [← hv]; unfold lkK; simp_all, hs⟩⟩
    by_cases h74_4 : σ 20 (131 + 5 * a) = 4
    · refine r_tableIn (tgt := 133) hX dX8_leaks_74 (by rw [h74_4]; decide) (by rw [h74_4]; decide) (by rw [h74_4]; rfl) rfl ?_
      refine r_iconst (v := 2) hX dX8_leaks_133 (by decide) (RR.pc (b := 134) rfl ?_)
      refine r_iload_n (i := 0) hX dX8_leaks_134 rfl (RR.pc (b := 135) rfl ?_)
      refine r_imul hX dX8_leaks_135 (RR.pc (b := 136) rfl ?_)
      refine r_iconst (v := 5) hX dX8_leaks_136 (by decide) (RR.pc (b := 137) rfl ?_)
      refine r_dia2 149 (if 5 ≤ 2 * v then 2 * v - 5 else 0) (fun hj137 => ?_) ?_
      · refine r_icmp_ge (tgt := 144) hX dX8_leaks_137 rfl (fun h137 => ?_) (fun h137 => RR.pc (b := 140) rfl ?_)
        · refine r_iconst (v := 2) hX dX8_leaks_144 (by decide) (RR.pc (b := 145) rfl ?_)
          refine r_iload_n (i := 0) hX dX8_leaks_145 rfl (RR.pc (b := 146) rfl ?_)
          refine r_imul hX dX8_leaks_146 (RR.pc (b := 147) rfl ?_)
          refine r_iconst (v := 5) hX dX8_leaks_147 (by decide) (RR.pc (b := 148) rfl ?_)
          refine r_isub hX dX8_leaks_148 (RR.pc (b := 149) rfl ?_)
          exact RR.eqt (congrArg (fun q => Value.int q :: _) (if_pos h137).symm) hj137
        · refine r_iconst (v := 0) hX dX8_leaks_140 (by decide) (RR.pc (b := 141) rfl ?_)
          refine r_goto (tgt := 149) hX dX8_leaks_141 rfl ?_
          exact RR.eqt (congrArg (fun q => Value.int q :: _) (if_neg h137).symm) hj137
      exact r_iret hX hZ dX8_leaks_149 ⟨_, rfl, ⟨by rw [← hv]; unfold lkK; simp_all, hs⟩⟩
    by_cases h74_5 : σ 20 (131 + 5 * a) = 5
    · refine r_tableIn (tgt := 150) hX dX8_leaks_74 (by rw [h74_5]; decide) (by rw [h74_5]; decide) (by rw [h74_5]; rfl) rfl ?_
      refine r_iload_n (i := 0) hX dX8_leaks_150 rfl (RR.pc (b := 151) rfl ?_)
      refine r_iconst (v := 1) hX dX8_leaks_151 (by decide) (RR.pc (b := 152) rfl ?_)
      refine r_iadd hX dX8_leaks_152 (RR.pc (b := 153) rfl ?_)
      exact r_iret hX hZ dX8_leaks_153 ⟨_, rfl, ⟨by rw [← hv]; unfold lkK; simp_all, hs⟩⟩
    refine r_tableOut (tgt := 154) hX dX8_leaks_74 (by have n0 : (σ 20 (131 + 5 * a)).toInt ≠ 1 := ne_toInt h74_1; have n1 : (σ 20 (131 + 5 * a)).toInt ≠ 2 := ne_toInt h74_2; have n2 : (σ 20 (131 + 5 * a)).toInt ≠ 3 := ne_toInt h74_3; have n3 : (σ 20 (131 + 5 * a)).toInt ≠ 4 := ne_toInt h74_4; have n4 : (σ 20 (131 + 5 * a)).toInt ≠ 5 := ne_toInt h74_5; omega) rfl ?_
    refine r_iload_n (i := 0) hX dX8_leaks_154 rfl (RR.pc (b := 155) rfl ?_)
    exact r_iret hX hZ dX8_leaks_155 ⟨_, rfl, ⟨by rw [← hv]; unfold lkK; simp_all, hs⟩⟩
  refine r_aload_n hX dX8_leaks_0 rfl ⟨_, rfl⟩ (RR.pc (b := 1) rfl ?_)
  refine r_iload_n (i := 0) hX dX8_leaks_1 rfl (RR.pc (b := 2) rfl ?_)
  refine r_iconst (v := 4) hX dX8_leaks_2 (by decide) (RR.pc (b := 3) rfl ?_)
  refine r_callVie hX dX8_leaks_3 ml_X8_90 cd_X8_of iv_X8_of (c_X8_of (a := a) (b := 4) (q := 131 + 5 * a + 4) rfl rfl rfl (by omega)) (by decide) (by first | rfl | assumption) rfl rfl rfl rfl (Nat.le_of_ble_eq_true rfl) (RR.pc (b := 6) rfl ?_)
  refine r_istore_n hX dX8_leaks_6 (by decide) (RR.pc (b := 7) rfl ?_)
  refine r_aload_n hX dX8_leaks_7 rfl ⟨_, rfl⟩ (RR.pc (b := 8) rfl ?_)
  refine r_iconst (v := 0) hX dX8_leaks_8 (by decide) (RR.pc (b := 9) rfl ?_)
  refine r_callVie hX dX8_leaks_9 ml_X8_94 cd_X8_counts iv_X8_counts (c_X8_counts (Ts := Ts) (nt := nt) hT.1 hT.2.1 (fun t ht => (hT.2.2 t ht).1.1)) (by decide) (by first | rfl | assumption) rfl rfl rfl rfl (Nat.le_of_ble_eq_true rfl) (RR.pc (b := 12) rfl ?_)
  refine r_istore_n hX dX8_leaks_12 (by decide) (RR.pc (b := 13) rfl ?_)
  refine r_iload_n (i := 0) hX dX8_leaks_13 rfl (RR.pc (b := 14) rfl ?_)
  cases hc : cnt Ts 0 nt with
  | none =>
    refine r_if_lt (tgt := 68) hX dX8_leaks_14 rfl (fun _ => ?_) (fun h => absurd (show cntI none < 0 by decide) h)
    refine RR.cut (tail (σ 20 (131 + 5 * a + 4)) σ same.rf ?_) (List.forall_mem_cons.mpr ⟨rfl, List.forall_mem_cons.mpr ⟨rfl, List.forall_mem_cons.mpr ⟨rfl, fun _ h => absurd h List.not_mem_nil⟩⟩⟩)
    unfold lkW lkV
    rw [hc]
  | some t =>
    have htn := cnt_lt hc
    obtain ⟨hTR, hTo⟩ := hT.2.2 t htn
    have h14 := hT.2.1
    show RR X G 4 14 (lu (lu (ll [(0, rf G 109), (1, .int (nI a))]) 2 (.int (σ 20 (131 + 5 * a + 4)))) 3 (.int (nI t))) [.int (nI t)] σ
    refine r_if_lt (tgt := 68) hX dX8_leaks_14 rfl (fun h => absurd h (nI_pos (by omega))) (fun _ => RR.pc (b := 17) rfl ?_)
    refine r_aload_n hX dX8_leaks_17 rfl ⟨_, rfl⟩ (RR.pc (b := 18) rfl ?_)
    refine r_getr hX dX8_leaks_18 fl_X8_49 (by first | rfl | assumption) rfl (RR.pc (b := 21) rfl ?_)
    refine r_bipush (v := 104) hX dX8_leaks_21 (by decide) (RR.pc (b := 23) rfl ?_)
    refine r_aload_n hX dX8_leaks_23 rfl ⟨_, rfl⟩ (RR.pc (b := 24) rfl ?_)
    refine r_iload_n (i := 0) hX dX8_leaks_24 rfl (RR.pc (b := 25) rfl ?_)
    refine r_iconst (v := 4) hX dX8_leaks_25 (by decide) (RR.pc (b := 26) rfl ?_)
    refine r_callVie hX dX8_leaks_26 ml_X8_90 cd_X8_of iv_X8_of (c_X8_of (a := a) (b := 4) (q := 131 + 5 * a + 4) rfl rfl rfl (by omega)) (by decide) (by first | rfl | assumption) rfl rfl rfl rfl (Nat.le_of_ble_eq_true rfl) (RR.pc (b := 29) rfl ?_)
    refine r_iast hX dX8_leaks_29 (by first | rfl | assumption) (by first | rfl | assumption) (by first | decide | assumption | omega) (by decide) (by first | exact Nat.zero_add _ | rfl) (RR.pc (b := 30) rfl ?_)
    refine r_aload_n hX dX8_leaks_30 rfl ⟨_, rfl⟩ (RR.pc (b := 31) rfl ?_)
    refine r_getr hX dX8_leaks_31 fl_X8_49 (by first | rfl | assumption) rfl (RR.pc (b := 34) rfl ?_)
    refine r_bipush (v := 112) hX dX8_leaks_34 (by decide) (RR.pc (b := 36) rfl ?_)
    refine r_aload_n hX dX8_leaks_36 rfl ⟨_, rfl⟩ (RR.pc (b := 37) rfl ?_)
    refine r_iload_n (i := 0) hX dX8_leaks_37 rfl (RR.pc (b := 38) rfl ?_)
    refine r_iconst (v := 1) hX dX8_leaks_38 (by decide) (RR.pc (b := 39) rfl ?_)
    refine r_callVie hX dX8_leaks_39 ml_X8_90 cd_X8_of iv_X8_of (c_X8_of (a := a) (b := 1) (q := 131 + 5 * a + 1) rfl rfl rfl (by omega)) (by decide) (by first | rfl | assumption) rfl rfl rfl rfl (Nat.le_of_ble_eq_true rfl) (RR.pc (b := 42) rfl ?_)
    refine r_iast hX dX8_leaks_42 (by first | rfl | assumption) (by first | rfl | assumption) (by first | decide | assumption | omega) (by decide) (by first | exact Nat.zero_add _ | rfl) (RR.pc (b := 43) rfl ?_)
    refine r_aload_n hX dX8_leaks_43 rfl ⟨_, rfl⟩ (RR.pc (b := 44) rfl ?_)
    refine r_getr hX dX8_leaks_44 fl_X8_49 (by first | rfl | assumption) rfl (RR.pc (b := 47) rfl ?_)
    refine r_bipush (v := 103) hX dX8_leaks_47 (by decide) (RR.pc (b := 49) rfl ?_)
    refine r_aload_n hX dX8_leaks_49 rfl ⟨_, rfl⟩ (RR.pc (b := 50) rfl ?_)
    refine r_iload_n (i := 0) hX dX8_leaks_50 rfl (RR.pc (b := 51) rfl ?_)
    refine r_iconst (v := 3) hX dX8_leaks_51 (by decide) (RR.pc (b := 52) rfl ?_)
    refine r_callVie hX dX8_leaks_52 ml_X8_90 cd_X8_of iv_X8_of (c_X8_of (a := a) (b := 3) (q := 131 + 5 * a + 3) rfl rfl rfl (by omega)) (by decide) (by first | rfl | assumption) rfl rfl rfl rfl (Nat.le_of_ble_eq_true rfl) (RR.pc (b := 55) rfl ?_)
    refine r_iast hX dX8_leaks_55 (by first | rfl | assumption) (by first | rfl | assumption) (by first | decide | assumption | omega) (by decide) (by first | exact Nat.zero_add _ | rfl) (RR.pc (b := 56) rfl ?_)
    refine r_aload_n hX dX8_leaks_56 rfl ⟨_, rfl⟩ (RR.pc (b := 57) rfl ?_)
    refine r_iload_n (i := 0) hX dX8_leaks_57 rfl (RR.pc (b := 58) rfl ?_)
    simp only [su_ne (show (20 : Nat) ≠ 33 by decide)]
    have e20 : (su (su (su σ 33 104 (σ 20 (131 + 5 * a + 4))) 33 112 (σ 20 (131 + 5 * a + 1))) 33 103 (σ 20 (131 + 5 * a + 3))) 20 = σ 20 := by rw [su_ne (by decide), su_ne (by decide), su_ne (by decide)]
    refine r_callVi hX dX8_leaks_58 ml_X8_98 cd_X8_worked iv_X8_worked (c_X8_worked (t := t) (T := Ts t) (by omega) (by rw [e20]; exact hTR) hTo) (by decide) rfl rfl rfl rfl rfl (Nat.le_of_ble_eq_true rfl) (fun r_58 s_58 e_58 => RR.pc (b := 61) rfl ?_)
    obtain ⟨rfl, hs⟩ := e_58
    refine r_sipush (v := 999) hX dX8_leaks_61 (by decide) (RR.pc (b := 64) rfl ?_)
    refine r_callSie hX dX8_leaks_64 ml_X8_101 cd_X8_within st_X8_within c_X8_within (by decide) rfl rfl (Nat.le_of_ble_eq_true rfl) (RR.pc (b := 67) rfl ?_)
    refine r_istore_n hX dX8_leaks_67 (by decide) (RR.pc (b := 68) rfl ?_)
    refine RR.cut (tail _ _ (fun r hr => ?_) ?_) (List.forall_mem_cons.mpr ⟨rfl, List.forall_mem_cons.mpr ⟨rfl, List.forall_mem_cons.mpr ⟨rfl, fun _ h => absurd h List.not_mem_nil⟩⟩⟩)
    · simp only [List.mem_cons, List.not_mem_nil, or_false, not_or] at hr
      rw [hs r (by simp [hr.2]), su_ne hr.1, su_ne hr.1, su_ne hr.1]
    · unfold lkW lkV
      rw [hc]
      show lkK _ (hold _ 999) = lkK _ (hold _ 999)
      have hkey : (Ts t).1 = 0 := cnt_key hc
      rw [evT_congr (nm' := nm3 104 112 103 (σ 20 (131 + 5 * a + 4)) (σ 20 (131 + 5 * a + 1)) (σ 20 (131 + 5 * a + 3))) hTo ?_]
      intro v hv
      rw [hkey] at hv
      simp only [nmK, if_true, List.mem_cons, List.not_mem_nil, or_false] at hv
      simp only [su_eq, su_ne]
      rcases hv with rfl | rfl | rfl
      · rfl
      · rfl
      · rfl
set_option maxHeartbeats 4000000 in
set_option maxRecDepth 100000 in
theorem c_X8_gusts {G : GM} {σ : SG} : CU G yX8_gusts cX8_gusts 4 none 2 [rf G 109] σ (fun s => s = sr σ 20 (gustW (σ 20))) := by
  refine Con.of cd_X8_gusts (Nat.le_of_ble_eq_true rfl) ?_
  intro X hX hZ
  have hX : Fx X G RX8 cX8_gusts 4 2 := hX
  show RR X G 4 0 (ll [(0, rf G 109)]) [] σ
  have hm := Nat.mod_lt (dn (dz (σ 20 6))) (show 0 < 60 by decide)
  have hd := dn_lt (dz (σ 20 6))
  refine r_aload_n hX dX8_gusts_0 rfl ⟨_, rfl⟩ (RR.pc (b := 1) rfl ?_)
  refine r_callVie hX dX8_gusts_1 ml_X8_143 cd_X8_drawn iv_X8_drawn c_X8_drawn (by decide) (by first | rfl | assumption) rfl rfl rfl rfl (Nat.le_of_ble_eq_true rfl) (RR.pc (b := 4) rfl ?_)
  refine r_bipush (v := 60) hX dX8_gusts_4 (by decide) (RR.pc (b := 6) rfl ?_)
  refine r_irem hX dX8_gusts_6 (by decide) (RR.pc (b := 7) rfl ?_)
  rw [rem_lit (by omega) (by decide) (by decide)]
  refine r_istore_n hX dX8_gusts_7 (by decide) (RR.pc (b := 8) rfl ?_)
  refine r_aload_n hX dX8_gusts_8 rfl ⟨_, rfl⟩ (RR.pc (b := 9) rfl ?_)
  refine r_getr hX dX8_gusts_9 fl_X8_7 (by first | rfl | assumption) rfl (RR.pc (b := 12) rfl ?_)
  refine r_bipush (v := 11) hX dX8_gusts_12 (by decide) (RR.pc (b := 14) rfl ?_)
  refine r_iload_n (i := 0) hX dX8_gusts_14 rfl (RR.pc (b := 15) rfl ?_)
  refine r_iadd hX dX8_gusts_15 (RR.pc (b := 16) rfl ?_)
  refine r_iald hX dX8_gusts_16 (by first | rfl | assumption) (j := 11 + dn (dz (σ 20 6)) % 60) (by simp only [litI, pk_mul, nI_add] <;> first | rfl | (apply congrArg nI; omega)) (by omega) (by decide) (by first | exact Nat.zero_add _ | rfl) (RR.pc (b := 17) rfl ?_)
  refine r_iconst (v := 2) hX dX8_gusts_17 (by decide) (RR.pc (b := 18) rfl ?_)
  refine r_idiv hX dX8_gusts_18 (by decide) (RR.pc (b := 19) rfl ?_)
  refine r_istore_n hX dX8_gusts_19 (by decide) (RR.pc (b := 20) rfl ?_)
  refine r_iload_n (i := 0) hX dX8_gusts_20 rfl (RR.pc (b := 21) rfl ?_)
  refine r_aload_n hX dX8_gusts_21 rfl ⟨_, rfl⟩ (RR.pc (b := 22) rfl ?_)
  refine r_getr hX dX8_gusts_22 fl_X8_7 (by first | rfl | assumption) rfl (RR.pc (b := 25) rfl ?_)
  refine r_bipush (v := 9) hX dX8_gusts_25 (by decide) (RR.pc (b := 27) rfl ?_)
  refine r_iald hX dX8_gusts_27 (by first | rfl | assumption) (by first | rfl | assumption) (by first | decide | assumption | omega) (by decide) (by first | exact Nat.zero_add _ | rfl) (RR.pc (b := 28) rfl ?_)
  refine r_iadd hX dX8_gusts_28 (RR.pc (b := 29) rfl ?_)
  refine r_istore_n hX dX8_gusts_29 (by decide) (RR.pc (b := 30) rfl ?_)
  refine r_aload_n hX dX8_gusts_30 rfl ⟨_, rfl⟩ (RR.pc (b := 31) rfl ?_)
  refine r_getr hX dX8_gusts_31 fl_X8_7 (by first | rfl | assumption) rfl (RR.pc (b := 34) rfl ?_)
  refine r_bipush (v := 11) hX dX8_gusts_34 (by decide) (RR.pc (b := 36) rfl ?_)
  refine r_iload_n (i := 0) hX dX8_gusts_36 rfl (RR.pc (b := 37) rfl ?_)
  refine r_iadd hX dX8_gusts_37 (RR.pc (b := 38) rfl ?_)
  refine r_dup2_11 hX dX8_gusts_38 rfl rfl (RR.pc (b := 39) rfl ?_)
  refine r_iald hX dX8_gusts_39 (by first | rfl | assumption) (j := 11 + dn (dz (σ 20 6)) % 60) (by simp only [litI, pk_mul, nI_add] <;> first | rfl | (apply congrArg nI; omega)) (by omega) (by decide) (by first | exact Nat.zero_add _ | rfl) (RR.pc (b := 40) rfl ?_)
  refine r_iload_n (i := 0) hX dX8_gusts_40 rfl (RR.pc (b := 41) rfl ?_)
  refine r_isub hX dX8_gusts_41 (RR.pc (b := 42) rfl ?_)
  refine r_iast hX dX8_gusts_42 (by first | rfl | assumption) (j := 11 + dn (dz (σ 20 6)) % 60) (by simp only [litI, pk_mul, nI_add] <;> first | rfl | (apply congrArg nI; omega)) (by omega) (by decide) (by first | exact Nat.zero_add _ | rfl) (RR.pc (b := 43) rfl ?_)
  simp only [su_eq, pk_un (show (9 : Nat) ≠ 6 by decide), pk_un (show 11 + dn (dz (σ 20 6)) % 60 ≠ 6 by omega)]
  refine r_iload_n (i := 0) hX dX8_gusts_43 rfl (RR.pc (b := 44) rfl ?_)
  refine r_callSie hX dX8_gusts_44 ml_X8_138 cd_X8_isYard st_X8_isYard c_X8_isYard (by decide) rfl rfl (Nat.le_of_ble_eq_true rfl) (RR.pc (b := 47) rfl ?_)
  refine r_if_eq_b (tgt := 66) hX dX8_gusts_47 rfl (fun h47 => ?_) (fun h47 => RR.pc (b := 50) rfl ?_)
  ·
    refine r_aload_n hX dX8_gusts_66 rfl ⟨_, rfl⟩ (RR.pc (b := 67) rfl ?_)
    refine r_getr hX dX8_gusts_67 fl_X8_7 (by first | rfl | assumption) rfl (RR.pc (b := 70) rfl ?_)
    refine r_iconst (v := 5) hX dX8_gusts_70 (by decide) (RR.pc (b := 71) rfl ?_)
    refine r_dup2_11 hX dX8_gusts_71 rfl rfl (RR.pc (b := 72) rfl ?_)
    refine r_iald hX dX8_gusts_72 (by first | rfl | assumption) (by first | rfl | assumption) (by first | decide | assumption | omega) (by decide) (by first | exact Nat.zero_add _ | rfl) (RR.pc (b := 73) rfl ?_)
    refine r_iload_n (i := 0) hX dX8_gusts_73 rfl (RR.pc (b := 74) rfl ?_)
    refine r_iadd hX dX8_gusts_74 (RR.pc (b := 75) rfl ?_)
    refine r_iast hX dX8_gusts_75 (by first | rfl | assumption) (by first | rfl | assumption) (by first | decide | assumption | omega) (by decide) (by first | exact Nat.zero_add _ | rfl) (RR.pc (b := 76) rfl ?_)
    exact r_vret hX hZ dX8_gusts_76 ⟨rfl, by unfold gustW gustT; rw [pk_un (by omega), pk_un (show (9 : Nat) ≠ 6 by decide), if_neg h47]; simp only [su, sr_eq, sr_sr]⟩
  · obtain ⟨j, hj, ej⟩ := vp_in_of (n := 60) (vp_in_iff.mpr ⟨h47.1, by omega⟩) (by decide)
    rw [ej]
    refine r_aload_n hX dX8_gusts_50 rfl ⟨_, rfl⟩ (RR.pc (b := 51) rfl ?_)
    refine r_getr hX dX8_gusts_51 fl_X8_7 (by first | rfl | assumption) rfl (RR.pc (b := 54) rfl ?_)
    refine r_bipush (v := 11) hX dX8_gusts_54 (by decide) (RR.pc (b := 56) rfl ?_)
    refine r_iload_n (i := 0) hX dX8_gusts_56 rfl (RR.pc (b := 57) rfl ?_)
    refine r_iadd hX dX8_gusts_57 (RR.pc (b := 58) rfl ?_)
    refine r_dup2_11 hX dX8_gusts_58 rfl rfl (RR.pc (b := 59) rfl ?_)
    refine r_iald hX dX8_gusts_59 (by first | rfl | assumption) (j := 11 + j) (by simp only [litI, pk_mul, nI_add] <;> first | rfl | (apply congrArg nI; omega)) (by omega) (by decide) (by first | exact Nat.zero_add _ | rfl) (RR.pc (b := 60) rfl ?_)
    refine r_iload_n (i := 0) hX dX8_gusts_60 rfl (RR.pc (b := 61) rfl ?_)
    refine r_iadd hX dX8_gusts_61 (RR.pc (b := 62) rfl ?_)
    refine r_iast hX dX8_gusts_62 (by first | rfl | assumption) (j := 11 + j) (by simp only [litI, pk_mul, nI_add] <;> first | rfl | (apply congrArg nI; omega)) (by omega) (by decide) (by first | exact Nat.zero_add _ | rfl) (RR.pc (b := 63) rfl ?_)
    refine r_goto (tgt := 76) hX dX8_gusts_63 rfl ?_
    exact r_vret hX hZ dX8_gusts_76 ⟨rfl, by unfold gustW gustT; rw [pk_un (by omega), pk_un (show (9 : Nat) ≠ 6 by decide), if_pos h47, ej, nI_clamp (by omega)]; simp only [su, sr_eq, sr_sr]⟩
set_option maxHeartbeats 4000000 in
set_option maxRecDepth 100000 in
theorem c_X8_walks {G : GM} {σ : SG} {Ts : Nat → Tx} {nt a : Nat} (ha : a < 8) (hT : RT (σ 20) Ts nt) (hM : MO (σ 20) a) : CU G yX8_walks cX8_walks 8 none 3 [rf G 109, .int (nI a)] σ (fun s => s 20 = walkW (lkV Ts nt) (σ 20) a ∧ same [20, 33, 34] σ s) := by
  refine Con.of cd_X8_walks (Nat.le_of_ble_eq_true rfl) ?_
  intro X hX hZ
  have hX : Fx X G RX8 cX8_walks 8 3 := hX
  show RR X G 8 0 (ll [(0, rf G 109), (1, .int (nI a))]) [] σ
  obtain ⟨y, g, fl, st, hy, hg, hfl, hs, ey, eg, efl, es⟩ := walk_nums (V := lkV Ts nt) lkV_VO hM
  refine r_aload_n hX dX8_walks_0 rfl ⟨_, rfl⟩ (RR.pc (b := 1) rfl ?_)
  refine r_iload_n (i := 0) hX dX8_walks_1 rfl (RR.pc (b := 2) rfl ?_)
  refine r_callVi hX dX8_walks_2 ml_X8_108 cd_X8_leaks iv_X8_leaks (c_X8_leaks ha hT) (by decide) (by first | rfl | assumption) rfl rfl rfl rfl (Nat.le_of_ble_eq_true rfl) (fun r_2 s_2 e_2 => RR.pc (b := 5) rfl ?_)
  obtain ⟨rfl, hs0⟩ := e_2
  refine r_istore_n hX dX8_walks_5 (by decide) (RR.pc (b := 6) rfl ?_)
  have h20 : s_2 20 = σ 20 := hs0 20 (by decide)
  rw [← h20] at ey eg efl es ⊢
  refine r_iload_n (i := 0) hX dX8_walks_6 rfl (RR.pc (b := 7) rfl ?_)
  refine r_aload_n hX dX8_walks_7 rfl ⟨_, rfl⟩ (RR.pc (b := 8) rfl ?_)
  refine r_iload_n (i := 0) hX dX8_walks_8 rfl (RR.pc (b := 9) rfl ?_)
  refine r_iconst (v := 3) hX dX8_walks_9 (by decide) (RR.pc (b := 10) rfl ?_)
  refine r_callVie hX dX8_walks_10 ml_X8_90 cd_X8_of iv_X8_of (c_X8_of (a := a) (b := 3) (q := 131 + 5 * a + 3) rfl rfl rfl (by omega)) (by decide) (by first | rfl | assumption) rfl rfl rfl rfl (Nat.le_of_ble_eq_true rfl) (RR.pc (b := 13) rfl ?_)
  refine r_dia2 26 (flW (lkV Ts nt) (s_2 20) a) (fun hj13 => ?_) ?_
  · refine r_icmp_ge (tgt := 20) hX dX8_walks_13 rfl (fun h13 => ?_) (fun h13 => RR.pc (b := 16) rfl ?_)
    · refine r_aload_n hX dX8_walks_20 rfl ⟨_, rfl⟩ (RR.pc (b := 21) rfl ?_)
      refine r_iload_n (i := 0) hX dX8_walks_21 rfl (RR.pc (b := 22) rfl ?_)
      refine r_iconst (v := 3) hX dX8_walks_22 (by decide) (RR.pc (b := 23) rfl ?_)
      refine r_callVie hX dX8_walks_23 ml_X8_90 cd_X8_of iv_X8_of (c_X8_of (a := a) (b := 3) (q := 131 + 5 * a + 3) rfl rfl rfl (by omega)) (by decide) (by first | rfl | assumption) rfl rfl rfl rfl (Nat.le_of_ble_eq_true rfl) (RR.pc (b := 26) rfl ?_)
      exact RR.eqt (congrArg (fun q => Value.int q :: _) (if_pos h13).symm) hj13
    · refine r_iload_n (i := 0) hX dX8_walks_16 rfl (RR.pc (b := 17) rfl ?_)
      refine r_goto (tgt := 26) hX dX8_walks_17 rfl ?_
      exact RR.eqt (congrArg (fun q => Value.int q :: _) (if_neg h13).symm) hj13
  refine r_istore_n hX dX8_walks_26 (by decide) (RR.pc (b := 27) rfl ?_)
  refine r_bipush (v := 59) hX dX8_walks_27 (by decide) (RR.pc (b := 29) rfl ?_)
  refine r_aload_n hX dX8_walks_29 rfl ⟨_, rfl⟩ (RR.pc (b := 30) rfl ?_)
  refine r_iload_n (i := 0) hX dX8_walks_30 rfl (RR.pc (b := 31) rfl ?_)
  refine r_iconst (v := 2) hX dX8_walks_31 (by decide) (RR.pc (b := 32) rfl ?_)
  refine r_callVie hX dX8_walks_32 ml_X8_90 cd_X8_of iv_X8_of (c_X8_of (a := a) (b := 2) (q := 131 + 5 * a + 2) rfl rfl rfl (by omega)) (by decide) (by first | rfl | assumption) rfl rfl rfl rfl (Nat.le_of_ble_eq_true rfl) (RR.pc (b := 35) rfl ?_)
  refine r_isub hX dX8_walks_35 (RR.pc (b := 36) rfl ?_)
  refine r_istore hX dX8_walks_36 (by decide) (RR.pc (b := 38) rfl ?_)
  refine r_aload_n hX dX8_walks_38 rfl ⟨_, rfl⟩ (RR.pc (b := 39) rfl ?_)
  refine r_iload_n (i := 0) hX dX8_walks_39 rfl (RR.pc (b := 40) rfl ?_)
  refine r_callVie hX dX8_walks_40 ml_X8_111 cd_X8_paces iv_X8_paces (c_X8_paces ha) (by decide) (by first | rfl | assumption) rfl rfl rfl rfl (Nat.le_of_ble_eq_true rfl) (RR.pc (b := 43) rfl ?_)
  refine r_iload hX dX8_walks_43 rfl (RR.pc (b := 45) rfl ?_)
  refine r_dia2 58 (gW (s_2 20) a) (fun hj45 => ?_) ?_
  · refine r_icmp_ge (tgt := 56) hX dX8_walks_45 rfl (fun h45 => ?_) (fun h45 => RR.pc (b := 48) rfl ?_)
    · refine r_iload hX dX8_walks_56 rfl (RR.pc (b := 58) rfl ?_)
      exact RR.eqt (congrArg (fun q => Value.int q :: _) (if_pos h45).symm) hj45
    · refine r_aload_n hX dX8_walks_48 rfl ⟨_, rfl⟩ (RR.pc (b := 49) rfl ?_)
      refine r_iload_n (i := 0) hX dX8_walks_49 rfl (RR.pc (b := 50) rfl ?_)
      refine r_callVie hX dX8_walks_50 ml_X8_111 cd_X8_paces iv_X8_paces (c_X8_paces ha) (by decide) (by first | rfl | assumption) rfl rfl rfl rfl (Nat.le_of_ble_eq_true rfl) (RR.pc (b := 53) rfl ?_)
      refine r_goto (tgt := 58) hX dX8_walks_53 rfl ?_
      exact RR.eqt (congrArg (fun q => Value.int q :: _) (if_neg h45).symm) hj45
  refine r_istore hX dX8_walks_58 (by decide) (RR.pc (b := 60) rfl ?_)
  refine r_aload_n hX dX8_walks_60 rfl ⟨_, rfl⟩ (RR.pc (b := 61) rfl ?_)
  refine r_iload_n (i := 0) hX dX8_walks_61 rfl (RR.pc (b := 62) rfl ?_)
  refine r_iconst (v := 3) hX dX8_walks_62 (by decide) (RR.pc (b := 63) rfl ?_)
  refine r_aload_n hX dX8_walks_63 rfl ⟨_, rfl⟩ (RR.pc (b := 64) rfl ?_)
  refine r_iload_n (i := 0) hX dX8_walks_64 rfl (RR.pc (b := 65) rfl ?_)
  refine r_iconst (v := 3) hX dX8_walks_65 (by decide) (RR.pc (b := 66) rfl ?_)
  refine r_callVie hX dX8_walks_66 ml_X8_90 cd_X8_of iv_X8_of (c_X8_of (a := a) (b := 3) (q := 131 + 5 * a + 3) rfl rfl rfl (by omega)) (by decide) (by first | rfl | assumption) rfl rfl rfl rfl (Nat.le_of_ble_eq_true rfl) (RR.pc (b := 69) rfl ?_)
  refine r_iload_n (i := 0) hX dX8_walks_69 rfl (RR.pc (b := 70) rfl ?_)
  refine r_isub hX dX8_walks_70 (RR.pc (b := 71) rfl ?_)
  refine r_callVve hX dX8_walks_71 ml_X8_72 cd_X8_sets iv_X8_sets (c_X8_sets (a := a) (b := 3) (q := 131 + 5 * a + 3) rfl rfl rfl (by omega)) (by decide) (by first | rfl | assumption) rfl rfl rfl rfl (Nat.le_of_ble_eq_true rfl) (RR.pc (b := 74) rfl ?_)
  refine r_aload_n hX dX8_walks_74 rfl ⟨_, rfl⟩ (RR.pc (b := 75) rfl ?_)
  refine r_getr hX dX8_walks_75 fl_X8_7 (by first | rfl | assumption) rfl (RR.pc (b := 78) rfl ?_)
  refine r_iconst (v := 3) hX dX8_walks_78 (by decide) (RR.pc (b := 79) rfl ?_)
  refine r_dup2_11 hX dX8_walks_79 rfl rfl (RR.pc (b := 80) rfl ?_)
  refine r_iald hX dX8_walks_80 (by first | rfl | assumption) (by first | rfl | assumption) (by first | decide | assumption | omega) (by decide) (by first | exact Nat.zero_add _ | rfl) (RR.pc (b := 81) rfl ?_)
  refine r_iload_n (i := 0) hX dX8_walks_81 rfl (RR.pc (b := 82) rfl ?_)
  refine r_iadd hX dX8_walks_82 (RR.pc (b := 83) rfl ?_)
  refine r_iast hX dX8_walks_83 (by first | rfl | assumption) (by first | rfl | assumption) (by first | decide | assumption | omega) (by decide) (by first | exact Nat.zero_add _ | rfl) (RR.pc (b := 84) rfl ?_)
  refine r_bipush (v := 11) hX dX8_walks_84 (by decide) (RR.pc (b := 86) rfl ?_)
  refine r_aload_n hX dX8_walks_86 rfl ⟨_, rfl⟩ (RR.pc (b := 87) rfl ?_)
  refine r_iload_n (i := 0) hX dX8_walks_87 rfl (RR.pc (b := 88) rfl ?_)
  refine r_iconst (v := 2) hX dX8_walks_88 (by decide) (RR.pc (b := 89) rfl ?_)
  refine r_callVie hX dX8_walks_89 ml_X8_90 cd_X8_of iv_X8_of (c_X8_of (a := a) (b := 2) (q := 131 + 5 * a + 2) rfl rfl rfl (by omega)) (by decide) (by first | rfl | assumption) rfl rfl rfl rfl (Nat.le_of_ble_eq_true rfl) (RR.pc (b := 92) rfl ?_)
  refine r_iadd hX dX8_walks_92 (RR.pc (b := 93) rfl ?_)
  refine r_istore hX dX8_walks_93 (by decide) (RR.pc (b := 95) rfl ?_)
  simp only [su, sr_eq, sr_sr, pk_un (show (3 : Nat) ≠ 131 + 5 * a + 3 by omega), pk_un (show 131 + 5 * a + 2 ≠ 3 by omega), pk_un (show 131 + 5 * a + 2 ≠ 131 + 5 * a + 3 by omega)]
  rw [efl, es, ey, show (11 : Int32) + nI y = nI (11 + y) from nI_add 11 y]
  have loop := loopK st (fun k => RR X G 8 98 (ll [(0, rf G 109), (1, .int (nI a)), (3, .int (nI fl)), (5, .int (nI st)), (6, .int (nI (11 + y))), (7, .int (nI k))]) [] (sr s_2 20 (addL (wk1 (s_2 20) a (nI fl)) (11 + y) (nI fl / nI st) k))) (by
    intro k hk ih
    refine r_iload hX dX8_walks_98 rfl (RR.pc (b := 100) rfl ?_)
    refine r_iload hX dX8_walks_100 rfl (RR.pc (b := 102) rfl ?_)
    refine r_icmp_ge (tgt := 128) hX dX8_walks_102 rfl (fun h102 => ?_) (fun h102 => RR.pc (b := 105) rfl ?_)
    · have hk2 : k = st := by rw [nI_leI (by omega) (by omega)] at h102; omega
      subst hk2
      refine r_aload_n hX dX8_walks_128 rfl ⟨_, rfl⟩ (RR.pc (b := 129) rfl ?_)
      refine r_getr hX dX8_walks_129 fl_X8_7 (by first | rfl | assumption) rfl (RR.pc (b := 132) rfl ?_)
      refine r_iload hX dX8_walks_132 rfl (RR.pc (b := 134) rfl ?_)
      refine r_dup2_11 hX dX8_walks_134 rfl rfl (RR.pc (b := 135) rfl ?_)
      refine r_iald hX dX8_walks_135 (by first | rfl | assumption) rfl (by omega) (by decide) (by first | exact Nat.zero_add _ | rfl) (RR.pc (b := 136) rfl ?_)
      refine r_iload hX dX8_walks_136 rfl (RR.pc (b := 138) rfl ?_)
      refine r_dia1 149 (if nI k = 0 then nI fl else nI fl - nI fl / nI k * nI k) (fun hj138 => ?_) ?_
      · refine r_if_ne (tgt := 145) hX dX8_walks_138 rfl (fun h138 => ?_) (fun h138 => RR.pc (b := 141) rfl ?_)
        · refine r_iload_n (i := 0) hX dX8_walks_145 rfl (RR.pc (b := 146) rfl ?_)
          refine r_iload hX dX8_walks_146 rfl (RR.pc (b := 148) rfl ?_)
          refine r_irem hX dX8_walks_148 h138 (RR.pc (b := 149) rfl ?_)
          exact RR.eqt (congrArg (fun q => Value.int q :: _) (if_neg h138).symm) hj138
        · refine r_iload_n (i := 0) hX dX8_walks_141 rfl (RR.pc (b := 142) rfl ?_)
          refine r_goto (tgt := 149) hX dX8_walks_142 rfl ?_
          exact RR.eqt (congrArg (fun q => Value.int q :: _) (if_pos h138).symm) hj138
      refine r_iadd hX dX8_walks_149 (RR.pc (b := 150) rfl ?_)
      refine r_iast hX dX8_walks_150 (by first | rfl | assumption) rfl (by omega) (by decide) (by first | exact Nat.zero_add _ | rfl) (RR.pc (b := 151) rfl ?_)
      refine r_aload_n hX dX8_walks_151 rfl ⟨_, rfl⟩ (RR.pc (b := 152) rfl ?_)
      refine r_iload_n (i := 0) hX dX8_walks_152 rfl (RR.pc (b := 153) rfl ?_)
      refine r_iconst (v := 2) hX dX8_walks_153 (by decide) (RR.pc (b := 154) rfl ?_)
      refine r_aload_n hX dX8_walks_154 rfl ⟨_, rfl⟩ (RR.pc (b := 155) rfl ?_)
      refine r_iload_n (i := 0) hX dX8_walks_155 rfl (RR.pc (b := 156) rfl ?_)
      refine r_iconst (v := 2) hX dX8_walks_156 (by decide) (RR.pc (b := 157) rfl ?_)
      refine r_callVie hX dX8_walks_157 ml_X8_90 cd_X8_of iv_X8_of (c_X8_of (a := a) (b := 2) (q := 131 + 5 * a + 2) rfl rfl rfl (by omega)) (by decide) (by first | rfl | assumption) rfl rfl rfl rfl (Nat.le_of_ble_eq_true rfl) (RR.pc (b := 160) rfl ?_)
      refine r_iload hX dX8_walks_160 rfl (RR.pc (b := 162) rfl ?_)
      refine r_iadd hX dX8_walks_162 (RR.pc (b := 163) rfl ?_)
      refine r_callVve hX dX8_walks_163 ml_X8_72 cd_X8_sets iv_X8_sets (c_X8_sets (a := a) (b := 2) (q := 131 + 5 * a + 2) rfl rfl rfl (by omega)) (by decide) (by first | rfl | assumption) rfl rfl rfl rfl (Nat.le_of_ble_eq_true rfl) (RR.pc (b := 166) rfl ?_)
      exact r_vret hX hZ dX8_walks_166 ⟨rfl, ⟨by rw [su_sr, su_sr, sr_eq, sr_eq, sr_eq]; unfold walkW wk3; rw [← h20, ey, efl, es, nI_clamp (by omega), nI_clamp (by omega), pk_un (show 131 + 5 * a + 2 ≠ 11 + y by omega), addL_out (i := 131 + 5 * a + 2) (by omega)]; unfold wk1; rw [pk_un (show 131 + 5 * a + 2 ≠ 3 by omega), pk_un (show 131 + 5 * a + 2 ≠ 131 + 5 * a + 3 by omega), ey], ((hs0.mono (by simp)).sr (by simp)).su (by simp) |>.su (by simp)⟩⟩
    · have hk2 : k < st := by rw [nI_leI (by omega) (by omega)] at h102; omega
      refine r_aload_n hX dX8_walks_105 rfl ⟨_, rfl⟩ (RR.pc (b := 106) rfl ?_)
      refine r_getr hX dX8_walks_106 fl_X8_7 (by first | rfl | assumption) rfl (RR.pc (b := 109) rfl ?_)
      refine r_iload hX dX8_walks_109 rfl (RR.pc (b := 111) rfl ?_)
      refine r_iload hX dX8_walks_111 rfl (RR.pc (b := 113) rfl ?_)
      refine r_iadd hX dX8_walks_113 (RR.pc (b := 114) rfl ?_)
      refine r_dup2_11 hX dX8_walks_114 rfl rfl (RR.pc (b := 115) rfl ?_)
      refine r_iald hX dX8_walks_115 (by first | rfl | assumption) (nI_add _ _) (by omega) (by decide) (by first | exact Nat.zero_add _ | rfl) (RR.pc (b := 116) rfl ?_)
      refine r_iload_n (i := 0) hX dX8_walks_116 rfl (RR.pc (b := 117) rfl ?_)
      refine r_iload hX dX8_walks_117 rfl (RR.pc (b := 119) rfl ?_)
      refine r_idiv hX dX8_walks_119 (nI_ne0 (by omega) (by omega)) (RR.pc (b := 120) rfl ?_)
      refine r_iadd hX dX8_walks_120 (RR.pc (b := 121) rfl ?_)
      refine r_iast hX dX8_walks_121 (by first | rfl | assumption) (nI_add _ _) (by omega) (by decide) (by first | exact Nat.zero_add _ | rfl) (RR.pc (b := 122) rfl ?_)
      refine r_iinc hX dX8_walks_122 rfl (by decide) (nI_1 k) (RR.pc (b := 125) rfl ?_)
      refine r_goto (tgt := 98) hX dX8_walks_125 rfl ?_
      refine RR.eqs ?_ (RR.cut (ih hk2) (List.forall_mem_cons.mpr ⟨rfl, List.forall_mem_cons.mpr ⟨rfl, List.forall_mem_cons.mpr ⟨rfl, List.forall_mem_cons.mpr ⟨rfl, List.forall_mem_cons.mpr ⟨rfl, List.forall_mem_cons.mpr ⟨rfl, fun _ h => absurd h List.not_mem_nil⟩⟩⟩⟩⟩⟩))
      rw [su_sr, sr_eq]
      rfl
    )
  refine r_iconst (v := 0) hX dX8_walks_95 (by decide) (RR.pc (b := 96) rfl ?_)
  refine r_istore hX dX8_walks_96 (by decide) (RR.pc (b := 98) rfl ?_)
  exact RR.cut (loop 0 (by omega)) (List.forall_mem_cons.mpr ⟨rfl, List.forall_mem_cons.mpr ⟨rfl, List.forall_mem_cons.mpr ⟨rfl, List.forall_mem_cons.mpr ⟨rfl, List.forall_mem_cons.mpr ⟨rfl, List.forall_mem_cons.mpr ⟨rfl, fun _ h => absurd h List.not_mem_nil⟩⟩⟩⟩⟩⟩)
theorem RT_same {σ σ' : SG} {Ts : Nat → Tx} {nt : Nat} (h : RT (σ 20) Ts nt) (e1 : σ' 20 1 = σ 20 1) (e : ∀ i, 171 ≤ i → σ' 20 i = σ 20 i) : RT (σ' 20) Ts nt := h.congr e1 e
set_option maxHeartbeats 4000000 in
set_option maxRecDepth 100000 in
theorem c_X8_goesOn {G : GM} {σ : SG} {Ts : Nat → Tx} {nt n m : Nat} (hT : RT (σ 20) Ts nt) (hW : WO (σ 20) n m) (hm : m < 2 ^ 30) : CU G yX8_goesOn cX8_goesOn 3 none 4 [rf G 109] σ (fun s => s 20 = minW (lkV Ts nt) n (σ 20) ∧ same [20, 33, 34] σ s) := by
  refine Con.of cd_X8_goesOn (Nat.le_of_ble_eq_true rfl) ?_
  intro X hX hZ
  have hX : Fx X G RX8 cX8_goesOn 3 4 := hX
  show RR X G 3 0 (ll [(0, rf G 109)]) [] σ
  obtain ⟨hn, h8, hM, hmi, tt, htt, ett⟩ := hW
  have hV : VO (lkV Ts nt) := lkV_VO
  have hA := walkAll_ok hV hM
  -- from the draw on
  have tail : ∀ (σ1 : SG), σ1 20 = thrW (walkAll (lkV Ts nt) (σ 20) n) n → same [20, 33, 34] σ σ1 → RR X G 3 89 (ll [(0, rf G 109)]) [] σ1 := by
    intro σ1 e1 hs
    have hd := dn_lt (dz (σ1 20 6))
    have hmo := Nat.mod_lt (dn (dz (σ1 20 6))) (show 0 < 60 by decide)
    refine r_bipush (v := 11) hX dX8_goesOn_89 (by decide) (RR.pc (b := 91) rfl ?_)
    refine r_aload_n hX dX8_goesOn_91 rfl ⟨_, rfl⟩ (RR.pc (b := 92) rfl ?_)
    refine r_callVie hX dX8_goesOn_92 ml_X8_143 cd_X8_drawn iv_X8_drawn c_X8_drawn (by decide) (by first | rfl | assumption) rfl rfl rfl rfl (Nat.le_of_ble_eq_true rfl) (RR.pc (b := 95) rfl ?_)
    refine r_bipush (v := 60) hX dX8_goesOn_95 (by decide) (RR.pc (b := 97) rfl ?_)
    refine r_irem hX dX8_goesOn_97 (by decide) (RR.pc (b := 98) rfl ?_)
    rw [rem_lit (by omega) (by decide) (by decide)]
    refine r_iadd hX dX8_goesOn_98 (RR.pc (b := 99) rfl ?_)
    rw [show (11 : Int32) + nI (dn (dz (σ1 20 6)) % 60) = nI (11 + dn (dz (σ1 20 6)) % 60) from nI_add 11 _]
    refine r_istore_n hX dX8_goesOn_99 (by decide) (RR.pc (b := 100) rfl ?_)
    refine r_aload_n hX dX8_goesOn_100 rfl ⟨_, rfl⟩ (RR.pc (b := 101) rfl ?_)
    refine r_getr hX dX8_goesOn_101 fl_X8_7 (by first | rfl | assumption) rfl (RR.pc (b := 104) rfl ?_)
    refine r_iload_n (i := 0) hX dX8_goesOn_104 rfl (RR.pc (b := 105) rfl ?_)
    refine r_iald hX dX8_goesOn_105 (by first | rfl | assumption) rfl (by omega) (by decide) (by first | exact Nat.zero_add _ | rfl) (RR.pc (b := 106) rfl ?_)
    refine r_aload_n hX dX8_goesOn_106 rfl ⟨_, rfl⟩ (RR.pc (b := 107) rfl ?_)
    refine r_getr hX dX8_goesOn_107 fl_X8_7 (by first | rfl | assumption) rfl (RR.pc (b := 110) rfl ?_)
    refine r_bipush (v := 7) hX dX8_goesOn_110 (by decide) (RR.pc (b := 112) rfl ?_)
    refine r_iald hX dX8_goesOn_112 (by first | rfl | assumption) (by first | rfl | assumption) (by first | decide | assumption | omega) (by decide) (by first | exact Nat.zero_add _ | rfl) (RR.pc (b := 113) rfl ?_)
    simp only [su_eq, pk_un (show (7 : Nat) ≠ 6 by decide), pk_un (show 11 + dn (dz (σ1 20 6)) % 60 ≠ 6 by omega)]
    refine r_dia2 132 (eatW (σ1 20) (11 + dn (dz (σ1 20 6)) % 60)) (fun hj113 => ?_) ?_
    · refine r_icmp_ge (tgt := 125) hX dX8_goesOn_113 rfl (fun h113 => ?_) (fun h113 => RR.pc (b := 116) rfl ?_)
      · refine r_aload_n hX dX8_goesOn_125 rfl ⟨_, rfl⟩ (RR.pc (b := 126) rfl ?_)
        refine r_getr hX dX8_goesOn_126 fl_X8_7 (by first | rfl | assumption) rfl (RR.pc (b := 129) rfl ?_)
        refine r_bipush (v := 7) hX dX8_goesOn_129 (by decide) (RR.pc (b := 131) rfl ?_)
        refine r_iald hX dX8_goesOn_131 (by first | rfl | assumption) (by first | rfl | assumption) (by first | decide | assumption | omega) (by decide) (by first | exact Nat.zero_add _ | rfl) (RR.pc (b := 132) rfl ?_)
        exact RR.eqt (congrArg (fun q => Value.int q :: _) (if_pos h113).symm) hj113
      · refine r_aload_n hX dX8_goesOn_116 rfl ⟨_, rfl⟩ (RR.pc (b := 117) rfl ?_)
        refine r_getr hX dX8_goesOn_117 fl_X8_7 (by first | rfl | assumption) rfl (RR.pc (b := 120) rfl ?_)
        refine r_iload_n (i := 0) hX dX8_goesOn_120 rfl (RR.pc (b := 121) rfl ?_)
        refine r_iald hX dX8_goesOn_121 (by first | rfl | assumption) rfl (by omega) (by decide) (by first | exact Nat.zero_add _ | rfl) (RR.pc (b := 122) rfl ?_)
        simp only [su_eq, pk_un (show (7 : Nat) ≠ 6 by decide), pk_un (show 11 + dn (dz (σ1 20 6)) % 60 ≠ 6 by omega)]
        refine r_goto (tgt := 132) hX dX8_goesOn_122 rfl ?_
        exact RR.eqt (congrArg (fun q => Value.int q :: _) (if_neg h113).symm) hj113
    try simp only [su_eq, pk_un (show (7 : Nat) ≠ 6 by decide), pk_un (show 11 + dn (dz (σ1 20 6)) % 60 ≠ 6 by omega)]
    refine r_istore_n hX dX8_goesOn_132 (by decide) (RR.pc (b := 133) rfl ?_)
    refine r_aload_n hX dX8_goesOn_133 rfl ⟨_, rfl⟩ (RR.pc (b := 134) rfl ?_)
    refine r_getr hX dX8_goesOn_134 fl_X8_7 (by first | rfl | assumption) rfl (RR.pc (b := 137) rfl ?_)
    refine r_iload_n (i := 0) hX dX8_goesOn_137 rfl (RR.pc (b := 138) rfl ?_)
    refine r_dup2_11 hX dX8_goesOn_138 rfl rfl (RR.pc (b := 139) rfl ?_)
    refine r_iald hX dX8_goesOn_139 (by first | rfl | assumption) rfl (by omega) (by decide) (by first | exact Nat.zero_add _ | rfl) (RR.pc (b := 140) rfl ?_)
    refine r_iload_n (i := 0) hX dX8_goesOn_140 rfl (RR.pc (b := 141) rfl ?_)
    refine r_isub hX dX8_goesOn_141 (RR.pc (b := 142) rfl ?_)
    refine r_iast hX dX8_goesOn_142 (by first | rfl | assumption) rfl (by omega) (by decide) (by first | exact Nat.zero_add _ | rfl) (RR.pc (b := 143) rfl ?_)
    refine r_aload_n hX dX8_goesOn_143 rfl ⟨_, rfl⟩ (RR.pc (b := 144) rfl ?_)
    refine r_getr hX dX8_goesOn_144 fl_X8_7 (by first | rfl | assumption) rfl (RR.pc (b := 147) rfl ?_)
    refine r_iconst (v := 4) hX dX8_goesOn_147 (by decide) (RR.pc (b := 148) rfl ?_)
    refine r_dup2_11 hX dX8_goesOn_148 rfl rfl (RR.pc (b := 149) rfl ?_)
    refine r_iald hX dX8_goesOn_149 (by first | rfl | assumption) (by first | rfl | assumption) (by first | decide | assumption | omega) (by decide) (by first | exact Nat.zero_add _ | rfl) (RR.pc (b := 150) rfl ?_)
    refine r_iload_n (i := 0) hX dX8_goesOn_150 rfl (RR.pc (b := 151) rfl ?_)
    refine r_iadd hX dX8_goesOn_151 (RR.pc (b := 152) rfl ?_)
    refine r_iast hX dX8_goesOn_152 (by first | rfl | assumption) (by first | rfl | assumption) (by first | decide | assumption | omega) (by decide) (by first | exact Nat.zero_add _ | rfl) (RR.pc (b := 153) rfl ?_)
    refine RR.eqs (σ' := sr σ1 20 (birdW (σ1 20))) (by simp only [su, sr_eq, sr_sr, pk_un (show 11 + dn (dz (σ1 20 6)) % 60 ≠ 6 by omega), pk_un (show 4 ≠ 11 + dn (dz (σ1 20 6)) % 60 by omega), pk_un (show (4 : Nat) ≠ 6 by decide)]; rfl) ?_
    have ew : birdW (σ1 20) = birdW (thrW (walkAll (lkV Ts nt) (σ 20) n) n) := by rw [e1]
    rw [ew]
    have fin : ∀ (σ2 : SG), σ2 20 = gustsW (birdW (thrW (walkAll (lkV Ts nt) (σ 20) n) n)) → same [20, 33, 34] σ σ2 → RR X G 3 174 (ll [(0, rf G 109)]) [] σ2 := by
      intro σ2 e2 hs2
      refine r_aload_n hX dX8_goesOn_174 rfl ⟨_, rfl⟩ (RR.pc (b := 175) rfl ?_)
      refine r_getr hX dX8_goesOn_175 fl_X8_7 (by first | rfl | assumption) rfl (RR.pc (b := 178) rfl ?_)
      refine r_iconst (v := 2) hX dX8_goesOn_178 (by decide) (RR.pc (b := 179) rfl ?_)
      refine r_dup2_11 hX dX8_goesOn_179 rfl rfl (RR.pc (b := 180) rfl ?_)
      refine r_iald hX dX8_goesOn_180 (by first | rfl | assumption) (by first | rfl | assumption) (by first | decide | assumption | omega) (by decide) (by first | exact Nat.zero_add _ | rfl) (RR.pc (b := 181) rfl ?_)
      refine r_iconst (v := 1) hX dX8_goesOn_181 (by decide) (RR.pc (b := 182) rfl ?_)
      refine r_iadd hX dX8_goesOn_182 (RR.pc (b := 183) rfl ?_)
      refine r_iast hX dX8_goesOn_183 (by first | rfl | assumption) (by first | rfl | assumption) (by first | decide | assumption | omega) (by decide) (by first | exact Nat.zero_add _ | rfl) (RR.pc (b := 184) rfl ?_)
      exact r_vret hX hZ dX8_goesOn_184 ⟨rfl, ⟨by rw [su_eq, e2]; rfl, hs2.su (by simp)⟩⟩
    generalize hw : birdW (thrW (walkAll (lkV Ts nt) (σ 20) n) n) = w2 at fin
    have hd2 := dn_lt (dz (w2 6))
    have hmo2 := Nat.mod_lt (dn (dz (w2 6))) (show 0 < 100 by decide)
    refine r_aload_n hX dX8_goesOn_153 rfl ⟨_, rfl⟩ (RR.pc (b := 154) rfl ?_)
    refine r_callVie hX dX8_goesOn_154 ml_X8_143 cd_X8_drawn iv_X8_drawn c_X8_drawn (by decide) (by first | rfl | assumption) rfl rfl rfl rfl (Nat.le_of_ble_eq_true rfl) (RR.pc (b := 157) rfl ?_)
    refine r_bipush (v := 100) hX dX8_goesOn_157 (by decide) (RR.pc (b := 159) rfl ?_)
    refine r_irem hX dX8_goesOn_159 (by decide) (RR.pc (b := 160) rfl ?_)
    simp only [sr_eq, su_sr]
    rw [rem_lit (by omega) (by decide) (by decide)]
    refine r_aload_n hX dX8_goesOn_160 rfl ⟨_, rfl⟩ (RR.pc (b := 161) rfl ?_)
    refine r_getr hX dX8_goesOn_161 fl_X8_7 (by first | rfl | assumption) rfl (RR.pc (b := 164) rfl ?_)
    refine r_bipush (v := 8) hX dX8_goesOn_164 (by decide) (RR.pc (b := 166) rfl ?_)
    refine r_iald hX dX8_goesOn_166 (by first | rfl | assumption) (by first | rfl | assumption) (by first | decide | assumption | omega) (by decide) (by first | exact Nat.zero_add _ | rfl) (RR.pc (b := 167) rfl ?_)
    simp only [sr_eq, pk_un (show (8 : Nat) ≠ 6 by decide)]
    refine r_icmp_ge (tgt := 174) hX dX8_goesOn_167 rfl (fun h167 => ?_) (fun h167 => RR.pc (b := 170) rfl ?_)
    · refine RR.cut (fin _ ?_ (hs.sr (by simp))) (List.forall_mem_cons.mpr ⟨rfl, fun _ h => absurd h List.not_mem_nil⟩)
      rw [sr_eq, gustsW, if_pos h167]
    · 
      refine r_aload_n hX dX8_goesOn_170 rfl ⟨_, rfl⟩ (RR.pc (b := 171) rfl ?_)
      refine r_callVve hX dX8_goesOn_171 ml_X8_151 cd_X8_gusts iv_X8_gusts c_X8_gusts (by decide) (by first | rfl | assumption) rfl rfl rfl rfl (Nat.le_of_ble_eq_true rfl) (RR.pc (b := 174) rfl ?_)
      refine RR.cut (fin _ ?_ ((hs.sr (by simp)).sr (by simp))) (List.forall_mem_cons.mpr ⟨rfl, fun _ h => absurd h List.not_mem_nil⟩)
      rw [sr_eq, sr_eq, gustsW, if_neg h167]
  -- the loop of the threads
  have thr : ∀ (σ1 : SG), σ1 20 = walkAll (lkV Ts nt) (σ 20) n → same [20, 33, 34] σ σ1 → RR X G 3 34 (ll [(0, rf G 109)]) [] σ1 := by
    intro σ1 e1 hs
    have e0 : σ1 20 0 = nI n := by rw [e1, (hA n (Nat.le_refl n)).2 0 (by omega) (by omega) h8]; exact hn
    have em : σ1 20 2 = nI m := by rw [e1, (hA n (Nat.le_refl n)).2 2 (by omega) (by omega) h8]; exact hmi
    have loop := loopK n (fun k => (nI m - nI m / 5 * 5 = 4 ∨ k = 0) → RR X G 3 36 (ll [(0, rf G 109), (1, .int (nI k))]) [] (sr σ1 20 (thrAll (σ1 20) k))) (by
      intro k hk ih hc
      have f0 : thrAll (σ1 20) k 0 = nI n := by rw [thrAll_out (by omega) (by omega)]; exact e0
      have f2 : thrAll (σ1 20) k 2 = nI m := by rw [thrAll_out (by omega) (by omega)]; exact em
      refine r_iload_n (i := 0) hX dX8_goesOn_36 rfl (RR.pc (b := 37) rfl ?_)
      refine r_aload_n hX dX8_goesOn_37 rfl ⟨_, rfl⟩ (RR.pc (b := 38) rfl ?_)
      refine r_getr hX dX8_goesOn_38 fl_X8_7 (by first | rfl | assumption) rfl (RR.pc (b := 41) rfl ?_)
      refine r_iconst (v := 0) hX dX8_goesOn_41 (by decide) (RR.pc (b := 42) rfl ?_)
      refine r_iald hX dX8_goesOn_42 (by first | rfl | assumption) (by first | rfl | assumption) (by first | decide | assumption | omega) (by decide) (by first | exact Nat.zero_add _ | rfl) (RR.pc (b := 43) rfl ?_)
      rw [sr_eq, f0]
      refine r_icmp_ge (tgt := 89) hX dX8_goesOn_43 rfl (fun h43 => ?_) (fun h43 => RR.pc (b := 46) rfl ?_)
      · refine RR.cut (tail _ ?_ (hs.sr (by simp))) (List.forall_mem_cons.mpr ⟨rfl, fun _ h => absurd h List.not_mem_nil⟩)
        rw [sr_eq, ← e1]
        unfold thrW
        rw [em]
        first | (rcases hc with hc | hc; (rw [if_pos hc, show k = n by (rw [nI_leI (by omega) (by omega)] at h43; omega)]); (subst hc; have h0 : n = 0 := (by rw [nI_leI (by omega) (by omega)] at h43; omega); subst h0; split <;> rfl)) | (rcases hc with hc | hc; exact absurd hc h55; (subst hc; rw [if_neg h55]; rfl))
      · have hk2 : k < n := by rw [nI_leI (by omega) (by omega)] at h43; omega
        refine r_aload_n hX dX8_goesOn_46 rfl ⟨_, rfl⟩ (RR.pc (b := 47) rfl ?_)
        refine r_getr hX dX8_goesOn_47 fl_X8_7 (by first | rfl | assumption) rfl (RR.pc (b := 50) rfl ?_)
        refine r_iconst (v := 2) hX dX8_goesOn_50 (by decide) (RR.pc (b := 51) rfl ?_)
        refine r_iald hX dX8_goesOn_51 (by first | rfl | assumption) (by first | rfl | assumption) (by first | decide | assumption | omega) (by decide) (by first | exact Nat.zero_add _ | rfl) (RR.pc (b := 52) rfl ?_)
        rw [sr_eq, f2]
        refine r_iconst (v := 5) hX dX8_goesOn_52 (by decide) (RR.pc (b := 53) rfl ?_)
        refine r_irem hX dX8_goesOn_53 (by decide) (RR.pc (b := 54) rfl ?_)
        refine r_iconst (v := 4) hX dX8_goesOn_54 (by decide) (RR.pc (b := 55) rfl ?_)
        refine r_icmp_ne (tgt := 89) hX dX8_goesOn_55 rfl (fun h55 => ?_) (fun h55 => RR.pc (b := 58) rfl ?_)
        · refine RR.cut (tail _ ?_ (hs.sr (by simp))) (List.forall_mem_cons.mpr ⟨rfl, fun _ h => absurd h List.not_mem_nil⟩)
          rw [sr_eq, ← e1]
          unfold thrW
          rw [em]
          first | (rcases hc with hc | hc; (rw [if_pos hc, show k = n by (rw [nI_leI (by omega) (by omega)] at h43; omega)]); (subst hc; have h0 : n = 0 := (by rw [nI_leI (by omega) (by omega)] at h43; omega); subst h0; split <;> rfl)) | (rcases hc with hc | hc; exact absurd hc h55; (subst hc; rw [if_neg h55]; rfl))
        · refine r_aload_n hX dX8_goesOn_58 rfl ⟨_, rfl⟩ (RR.pc (b := 59) rfl ?_)
          refine r_iload_n (i := 0) hX dX8_goesOn_59 rfl (RR.pc (b := 60) rfl ?_)
          refine r_iconst (v := 4) hX dX8_goesOn_60 (by decide) (RR.pc (b := 61) rfl ?_)
          refine r_aload_n hX dX8_goesOn_61 rfl ⟨_, rfl⟩ (RR.pc (b := 62) rfl ?_)
          refine r_iload_n (i := 0) hX dX8_goesOn_62 rfl (RR.pc (b := 63) rfl ?_)
          refine r_iconst (v := 4) hX dX8_goesOn_63 (by decide) (RR.pc (b := 64) rfl ?_)
          refine r_callVie hX dX8_goesOn_64 ml_X8_90 cd_X8_of iv_X8_of (c_X8_of (a := k) (b := 4) (q := 131 + 5 * k + 4) rfl rfl rfl (by omega)) (by decide) (by first | rfl | assumption) rfl rfl rfl rfl (Nat.le_of_ble_eq_true rfl) (RR.pc (b := 67) rfl ?_)
          refine r_aload_n hX dX8_goesOn_67 rfl ⟨_, rfl⟩ (RR.pc (b := 68) rfl ?_)
          refine r_getr hX dX8_goesOn_68 fl_X8_7 (by first | rfl | assumption) rfl (RR.pc (b := 71) rfl ?_)
          refine r_bipush (v := 10) hX dX8_goesOn_71 (by decide) (RR.pc (b := 73) rfl ?_)
          refine r_iald hX dX8_goesOn_73 (by first | rfl | assumption) (by first | rfl | assumption) (by first | decide | assumption | omega) (by decide) (by first | exact Nat.zero_add _ | rfl) (RR.pc (b := 74) rfl ?_)
          refine r_iadd hX dX8_goesOn_74 (RR.pc (b := 75) rfl ?_)
          refine r_bipush (v := 50) hX dX8_goesOn_75 (by decide) (RR.pc (b := 77) rfl ?_)
          refine r_callSie hX dX8_goesOn_77 ml_X8_101 cd_X8_within st_X8_within c_X8_within (by decide) rfl rfl (Nat.le_of_ble_eq_true rfl) (RR.pc (b := 80) rfl ?_)
          refine r_callVve hX dX8_goesOn_80 ml_X8_72 cd_X8_sets iv_X8_sets (c_X8_sets (a := k) (b := 4) (q := 131 + 5 * k + 4) rfl rfl rfl (by omega)) (by decide) (by first | rfl | assumption) rfl rfl rfl rfl (Nat.le_of_ble_eq_true rfl) (RR.pc (b := 83) rfl ?_)
          refine r_iinc hX dX8_goesOn_83 rfl (by decide) (nI_1 k) (RR.pc (b := 86) rfl ?_)
          refine r_goto (tgt := 36) hX dX8_goesOn_86 rfl ?_
          refine RR.eqs ?_ (RR.cut (ih hk2 (Or.inl h55)) (List.forall_mem_cons.mpr ⟨rfl, List.forall_mem_cons.mpr ⟨rfl, fun _ h => absurd h List.not_mem_nil⟩⟩))
          rw [su_sr, sr_eq]
          rfl
      )
    refine r_iconst (v := 0) hX dX8_goesOn_34 (by decide) (RR.pc (b := 35) rfl ?_)
    refine r_istore_n hX dX8_goesOn_35 (by decide) (RR.pc (b := 36) rfl ?_)
    exact RR.eqs (sr_self (r := 20)).symm (RR.cut (loop 0 (by omega) (Or.inr rfl)) (List.forall_mem_cons.mpr ⟨rfl, List.forall_mem_cons.mpr ⟨rfl, fun _ h => absurd h List.not_mem_nil⟩⟩))
  -- the loop of the walks
  have loop := loopK n (fun k => ∀ (σ1 : SG), σ1 20 = walkAll (lkV Ts nt) (σ 20) k → same [20, 33, 34] σ σ1 → RR X G 3 2 (ll [(0, rf G 109), (1, .int (nI k))]) [] σ1) (by
    intro k hk ih σ1 e1 hs
    have e0 : σ1 20 0 = nI n := by rw [e1, (hA k hk).2 0 (by omega) (by omega) h8]; exact hn
    refine r_iload_n (i := 0) hX dX8_goesOn_2 rfl (RR.pc (b := 3) rfl ?_)
    refine r_aload_n hX dX8_goesOn_3 rfl ⟨_, rfl⟩ (RR.pc (b := 4) rfl ?_)
    refine r_getr hX dX8_goesOn_4 fl_X8_7 (by first | rfl | assumption) rfl (RR.pc (b := 7) rfl ?_)
    refine r_iconst (v := 0) hX dX8_goesOn_7 (by decide) (RR.pc (b := 8) rfl ?_)
    refine r_iald hX dX8_goesOn_8 (by first | rfl | assumption) (by first | rfl | assumption) (by first | decide | assumption | omega) (by decide) (by first | exact Nat.zero_add _ | rfl) (RR.pc (b := 9) rfl ?_)
    rw [e0]
    refine r_icmp_ge (tgt := 34) hX dX8_goesOn_9 rfl (fun h9 => ?_) (fun h9 => RR.pc (b := 12) rfl ?_)
    · have hk2 : k = n := by rw [nI_leI (by omega) (by omega)] at h9; omega
      subst hk2
      exact RR.cut (thr σ1 e1 hs) (List.forall_mem_cons.mpr ⟨rfl, fun _ h => absurd h List.not_mem_nil⟩)
    · have hk2 : k < n := by rw [nI_leI (by omega) (by omega)] at h9; omega
      refine r_aload_n hX dX8_goesOn_12 rfl ⟨_, rfl⟩ (RR.pc (b := 13) rfl ?_)
      refine r_iload_n (i := 0) hX dX8_goesOn_13 rfl (RR.pc (b := 14) rfl ?_)
      refine r_iconst (v := 2) hX dX8_goesOn_14 (by decide) (RR.pc (b := 15) rfl ?_)
      refine r_callVie hX dX8_goesOn_15 ml_X8_90 cd_X8_of iv_X8_of (c_X8_of (a := k) (b := 2) (q := 131 + 5 * k + 2) rfl rfl rfl (by omega)) (by decide) (by first | rfl | assumption) rfl rfl rfl rfl (Nat.le_of_ble_eq_true rfl) (RR.pc (b := 18) rfl ?_)
      refine r_bipush (v := 59) hX dX8_goesOn_18 (by decide) (RR.pc (b := 20) rfl ?_)
      refine r_icmp_ge (tgt := 28) hX dX8_goesOn_20 rfl (fun h20 => ?_) (fun h20 => RR.pc (b := 23) rfl ?_)
      · 
        refine r_iinc hX dX8_goesOn_28 rfl (by decide) (nI_1 k) (RR.pc (b := 31) rfl ?_)
        refine r_goto (tgt := 2) hX dX8_goesOn_31 rfl ?_
        refine RR.cut (ih hk2 σ1 ?_ hs) (List.forall_mem_cons.mpr ⟨rfl, List.forall_mem_cons.mpr ⟨rfl, fun _ h => absurd h List.not_mem_nil⟩⟩)
        rw [e1] at h20 ⊢
        show _ = walkAll _ _ (k + 1)
        rw [walkAll, if_neg (Int32.not_lt.mpr h20)]
      · 
        have hM1 : MO (σ1 20) k := by rw [e1]; exact (hA k hk).1 k hk2
        have hT1 : RT (σ1 20) Ts nt := hT.congr (by rw [e1]; exact (hA k hk).2 1 (by omega) (by omega) h8) (fun i hi => by rw [e1]; exact (hA k hk).2 i (by omega) (by omega) h8)
        refine r_aload_n hX dX8_goesOn_23 rfl ⟨_, rfl⟩ (RR.pc (b := 24) rfl ?_)
        refine r_iload_n (i := 0) hX dX8_goesOn_24 rfl (RR.pc (b := 25) rfl ?_)
        refine r_callVv hX dX8_goesOn_25 ml_X8_147 cd_X8_walks iv_X8_walks (c_X8_walks (by omega) hT1 hM1) (by decide) (by first | rfl | assumption) rfl rfl rfl rfl (Nat.le_of_ble_eq_true rfl) (fun s_25 e_25 => RR.pc (b := 28) rfl ?_)
        obtain ⟨e25, hs25⟩ := e_25
        refine r_iinc hX dX8_goesOn_28 rfl (by decide) (nI_1 k) (RR.pc (b := 31) rfl ?_)
        refine r_goto (tgt := 2) hX dX8_goesOn_31 rfl ?_
        refine RR.cut (ih hk2 _ ?_ (hs.tr hs25)) (List.forall_mem_cons.mpr ⟨rfl, List.forall_mem_cons.mpr ⟨rfl, fun _ h => absurd h List.not_mem_nil⟩⟩)
        rw [e25, e1]
        rw [e1] at h20
        show _ = walkAll _ _ (k + 1)
        rw [walkAll, if_pos (Int32.not_le.mp h20)]
    )
  refine r_iconst (v := 0) hX dX8_goesOn_0 (by decide) (RR.pc (b := 1) rfl ?_)
  refine r_istore_n hX dX8_goesOn_1 (by decide) (RR.pc (b := 2) rfl ?_)
  exact RR.cut (loop 0 (by omega) σ rfl same.rf) (List.forall_mem_cons.mpr ⟨rfl, List.forall_mem_cons.mpr ⟨rfl, fun _ h => absurd h List.not_mem_nil⟩⟩)
set_option maxHeartbeats 4000000 in
set_option maxRecDepth 100000 in
theorem c_X8_goesOnMany {G : GM} {σ : SG} {Ts : Nat → Tx} {nt n m q : Nat} (hT : RT (σ 20) Ts nt) (hW : WO (σ 20) n m) (hm : m + q < 2 ^ 30) : CU G yX8_goesOnMany cX8_goesOnMany 3 none 5 [rf G 109, .int (nI q)] σ (fun s => s 20 = minN (lkV Ts nt) n (σ 20) q ∧ same [20, 33, 34] σ s) := by
  refine Con.of cd_X8_goesOnMany (Nat.le_of_ble_eq_true rfl) ?_
  intro X hX hZ
  have hX : Fx X G RX8 cX8_goesOnMany 3 5 := hX
  show RR X G 3 0 (ll [(0, rf G 109), (1, .int (nI q))]) [] σ
  have hV : VO (lkV Ts nt) := lkV_VO
  have loop := loopK q (fun k => ∀ (σ1 : SG), σ1 20 = minN (lkV Ts nt) n (σ 20) k → same [20, 33, 34] σ σ1 → RR X G 3 2 (ll [(0, rf G 109), (1, .int (nI q)), (2, .int (nI k))]) [] σ1) (by
    intro k hk ih σ1 e1 hs
    have hW1 : WO (σ1 20) n (m + k) := by rw [e1]; exact minN_WO hV hW k
    have hT1 : RT (σ1 20) Ts nt := hT.congr (by rw [e1]; exact minN_out hV hW (by omega) k) (fun i hi => by rw [e1]; exact minN_out hV hW (by omega) k)
    refine r_iload_n (i := 0) hX dX8_goesOnMany_2 rfl (RR.pc (b := 3) rfl ?_)
    refine r_iload_n (i := 0) hX dX8_goesOnMany_3 rfl (RR.pc (b := 4) rfl ?_)
    refine r_icmp_ge (tgt := 17) hX dX8_goesOnMany_4 rfl (fun h4 => ?_) (fun h4 => RR.pc (b := 7) rfl ?_)
    · have hk2 : k = q := by rw [nI_leI (by omega) (by omega)] at h4; omega
      subst hk2
      exact r_vret hX hZ dX8_goesOnMany_17 ⟨rfl, ⟨e1, hs⟩⟩
    · have hk2 : k < q := by rw [nI_leI (by omega) (by omega)] at h4; omega
      refine r_aload_n hX dX8_goesOnMany_7 rfl ⟨_, rfl⟩ (RR.pc (b := 8) rfl ?_)
      refine r_callVv hX dX8_goesOnMany_8 ml_X8_154 cd_X8_goesOn iv_X8_goesOn (c_X8_goesOn hT1 hW1 (by omega)) (by decide) (by first | rfl | assumption) rfl rfl rfl rfl (Nat.le_of_ble_eq_true rfl) (fun s_8 e_8 => RR.pc (b := 11) rfl ?_)
      obtain ⟨e8, hs8⟩ := e_8
      refine r_iinc hX dX8_goesOnMany_11 rfl (by decide) (nI_1 k) (RR.pc (b := 14) rfl ?_)
      refine r_goto (tgt := 2) hX dX8_goesOnMany_14 rfl ?_
      exact RR.cut (ih hk2 _ (by rw [e8, e1]; rfl) (hs.tr hs8)) (List.forall_mem_cons.mpr ⟨rfl, List.forall_mem_cons.mpr ⟨rfl, List.forall_mem_cons.mpr ⟨rfl, fun _ h => absurd h List.not_mem_nil⟩⟩⟩)
    )
  refine r_iconst (v := 0) hX dX8_goesOnMany_0 (by decide) (RR.pc (b := 1) rfl ?_)
  refine r_istore_n hX dX8_goesOnMany_1 (by decide) (RR.pc (b := 2) rfl ?_)
  exact RR.cut (loop 0 (by omega) σ rfl same.rf) (List.forall_mem_cons.mpr ⟨rfl, List.forall_mem_cons.mpr ⟨rfl, List.forall_mem_cons.mpr ⟨rfl, fun _ h => absurd h List.not_mem_nil⟩⟩⟩)
