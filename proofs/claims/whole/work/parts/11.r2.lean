/-! the reference: kinds and texts -/
set_option maxHeartbeats 4000000 in
set_option maxRecDepth 100000 in
theorem c_X8_isMule {G : GM} {σ : SG} {k : Int32} {n : Nat} (hN : σ 20 0 = nI n) (h8 : n ≤ 8) : CI G yX8_isMule cX8_isMule 2 (some .boolean) 1 [rf G 109, .int k] σ (fun r s => r = bz (0 ≤ k.toInt ∧ k.toInt < n) ∧ s = σ) := by
  refine Con.of cd_X8_isMule (Nat.le_of_ble_eq_true rfl) ?_
  intro X hX hZ
  have hX : Fx X G RX8 cX8_isMule 2 1 := hX
  show RR X G 2 0 (ll [(0, rf G 109), (1, .int k)]) [] σ
  refine r_iload_n (i := 0) hX dX8_isMule_0 rfl (RR.pc (b := 1) rfl ?_)
  refine r_i2l hX dX8_isMule_1 (RR.pc (b := 2) rfl ?_)
  refine r_lconst (v := 0) hX dX8_isMule_2 rfl (RR.pc (b := 3) rfl ?_)
  refine r_aload_n hX dX8_isMule_3 rfl ⟨_, rfl⟩ (RR.pc (b := 4) rfl ?_)
  refine r_getr hX dX8_isMule_4 fl_X8_7 (by first | rfl | assumption) rfl (RR.pc (b := 7) rfl ?_)
  refine r_iconst (v := 0) hX dX8_isMule_7 (by decide) (RR.pc (b := 8) rfl ?_)
  refine r_iald hX dX8_isMule_8 (by first | rfl | assumption) (by first | rfl | assumption) (by first | decide | assumption | omega) (by decide) (by first | exact Nat.zero_add _ | rfl) (RR.pc (b := 9) rfl ?_)
  refine r_iconst (v := 1) hX dX8_isMule_9 (by decide) (RR.pc (b := 10) rfl ?_)
  refine r_isub hX dX8_isMule_10 (RR.pc (b := 11) rfl ?_)
  refine r_i2l hX dX8_isMule_11 (RR.pc (b := 12) rfl ?_)
  refine r_callSie hX dX8_isMule_12 ml_X8_65 cd_X8_isIn st_X8_isIn c_X8_isIn (by decide) rfl rfl (Nat.le_of_ble_eq_true rfl) (RR.pc (b := 15) rfl ?_)
  exact r_zret hX hZ dX8_isMule_15 (by first | rfl | exact nar_bz _) ⟨_, rfl, ⟨bz_congr (by rw [hN]; simp only [Int32.toInt_toInt64, Int64.reduceToInt]; have := pk_sub_toInt (a := n) (b := 1) (by omega) (by omega); rw [show (nI 1) = 1 from rfl] at this; rw [this]; omega), rfl⟩⟩
set_option maxHeartbeats 4000000 in
set_option maxRecDepth 100000 in
theorem c_X8_isYard {G : GM} {σ : SG} {k : Int32} : CI G yX8_isYard cX8_isYard 1 (some .boolean) 1 [.int k] σ (fun r s => r = bz (0 ≤ k.toInt ∧ k.toInt ≤ 59) ∧ s = σ) := by
  refine Con.of cd_X8_isYard (Nat.le_of_ble_eq_true rfl) ?_
  intro X hX hZ
  have hX : Fx X G RX8 cX8_isYard 1 1 := hX
  show RR X G 1 0 (ll [(0, .int k)]) [] σ
  refine r_iload_n (i := 0) hX dX8_isYard_0 rfl (RR.pc (b := 1) rfl ?_)
  refine r_i2l hX dX8_isYard_1 (RR.pc (b := 2) rfl ?_)
  refine r_lconst (v := 0) hX dX8_isYard_2 rfl (RR.pc (b := 3) rfl ?_)
  refine r_ldc2 hX dX8_isYard_3 k2_X8_69 (RR.pc (b := 6) rfl ?_)
  refine r_callSie hX dX8_isYard_6 ml_X8_65 cd_X8_isIn st_X8_isIn c_X8_isIn (by decide) rfl rfl (Nat.le_of_ble_eq_true rfl) (RR.pc (b := 9) rfl ?_)
  exact r_zret hX hZ dX8_isYard_9 (by first | rfl | exact nar_bz _) ⟨_, rfl, ⟨bz_congr (by simp only [Int32.toInt_toInt64, Int64.reduceToInt]), rfl⟩⟩
set_option maxHeartbeats 4000000 in
set_option maxRecDepth 100000 in
theorem c_X8_isSheet {G : GM} {σ : SG} {k : Int32} : CI G yX8_isSheet cX8_isSheet 1 (some .boolean) 1 [.int k] σ (fun r s => r = bz (0 ≤ k.toInt ∧ k.toInt ≤ 3) ∧ s = σ) := by
  refine Con.of cd_X8_isSheet (Nat.le_of_ble_eq_true rfl) ?_
  intro X hX hZ
  have hX : Fx X G RX8 cX8_isSheet 1 1 := hX
  show RR X G 1 0 (ll [(0, .int k)]) [] σ
  refine r_iload_n (i := 0) hX dX8_isSheet_0 rfl (RR.pc (b := 1) rfl ?_)
  refine r_i2l hX dX8_isSheet_1 (RR.pc (b := 2) rfl ?_)
  refine r_lconst (v := 0) hX dX8_isSheet_2 rfl (RR.pc (b := 3) rfl ?_)
  refine r_ldc2 hX dX8_isSheet_3 k2_X8_136 (RR.pc (b := 6) rfl ?_)
  refine r_callSie hX dX8_isSheet_6 ml_X8_65 cd_X8_isIn st_X8_isIn c_X8_isIn (by decide) rfl rfl (Nat.le_of_ble_eq_true rfl) (RR.pc (b := 9) rfl ?_)
  exact r_zret hX hZ dX8_isSheet_9 (by first | rfl | exact nar_bz _) ⟨_, rfl, ⟨bz_congr (by simp only [Int32.toInt_toInt64, Int64.reduceToInt]), rfl⟩⟩
set_option maxHeartbeats 4000000 in
set_option maxRecDepth 100000 in
theorem c_X8_isSlot {G : GM} {σ : SG} {k : Int32} : CI G yX8_isSlot cX8_isSlot 1 (some .boolean) 1 [.int k] σ (fun r s => r = bz (0 ≤ k.toInt ∧ k.toInt ≤ 4) ∧ s = σ) := by
  refine Con.of cd_X8_isSlot (Nat.le_of_ble_eq_true rfl) ?_
  intro X hX hZ
  have hX : Fx X G RX8 cX8_isSlot 1 1 := hX
  show RR X G 1 0 (ll [(0, .int k)]) [] σ
  refine r_iload_n (i := 0) hX dX8_isSlot_0 rfl (RR.pc (b := 1) rfl ?_)
  refine r_i2l hX dX8_isSlot_1 (RR.pc (b := 2) rfl ?_)
  refine r_lconst (v := 0) hX dX8_isSlot_2 rfl (RR.pc (b := 3) rfl ?_)
  refine r_ldc2 hX dX8_isSlot_3 k2_X8_125 (RR.pc (b := 6) rfl ?_)
  refine r_callSie hX dX8_isSlot_6 ml_X8_65 cd_X8_isIn st_X8_isIn c_X8_isIn (by decide) rfl rfl (Nat.le_of_ble_eq_true rfl) (RR.pc (b := 9) rfl ?_)
  exact r_zret hX hZ dX8_isSlot_9 (by first | rfl | exact nar_bz _) ⟨_, rfl, ⟨bz_congr (by simp only [Int32.toInt_toInt64, Int64.reduceToInt]), rfl⟩⟩
set_option maxHeartbeats 4000000 in
set_option maxRecDepth 100000 in
theorem c_X8_isText {G : GM} {σ : SG} {k : Int32} {n : Nat} (hN : σ 20 1 = nI n) (h8 : n ≤ 14) : CI G yX8_isText cX8_isText 2 (some .boolean) 1 [rf G 109, .int k] σ (fun r s => r = bz (0 ≤ k.toInt ∧ k.toInt < n) ∧ s = σ) := by
  refine Con.of cd_X8_isText (Nat.le_of_ble_eq_true rfl) ?_
  intro X hX hZ
  have hX : Fx X G RX8 cX8_isText 2 1 := hX
  show RR X G 2 0 (ll [(0, rf G 109), (1, .int k)]) [] σ
  refine r_iload_n (i := 0) hX dX8_isText_0 rfl (RR.pc (b := 1) rfl ?_)
  refine r_i2l hX dX8_isText_1 (RR.pc (b := 2) rfl ?_)
  refine r_lconst (v := 0) hX dX8_isText_2 rfl (RR.pc (b := 3) rfl ?_)
  refine r_aload_n hX dX8_isText_3 rfl ⟨_, rfl⟩ (RR.pc (b := 4) rfl ?_)
  refine r_getr hX dX8_isText_4 fl_X8_7 (by first | rfl | assumption) rfl (RR.pc (b := 7) rfl ?_)
  refine r_iconst (v := 1) hX dX8_isText_7 (by decide) (RR.pc (b := 8) rfl ?_)
  refine r_iald hX dX8_isText_8 (by first | rfl | assumption) (by first | rfl | assumption) (by first | decide | assumption | omega) (by decide) (by first | exact Nat.zero_add _ | rfl) (RR.pc (b := 9) rfl ?_)
  refine r_iconst (v := 1) hX dX8_isText_9 (by decide) (RR.pc (b := 10) rfl ?_)
  refine r_isub hX dX8_isText_10 (RR.pc (b := 11) rfl ?_)
  refine r_i2l hX dX8_isText_11 (RR.pc (b := 12) rfl ?_)
  refine r_callSie hX dX8_isText_12 ml_X8_65 cd_X8_isIn st_X8_isIn c_X8_isIn (by decide) rfl rfl (Nat.le_of_ble_eq_true rfl) (RR.pc (b := 15) rfl ?_)
  exact r_zret hX hZ dX8_isText_15 (by first | rfl | exact nar_bz _) ⟨_, rfl, ⟨bz_congr (by rw [hN]; simp only [Int32.toInt_toInt64, Int64.reduceToInt]; have := pk_sub_toInt (a := n) (b := 1) (by omega) (by omega); rw [show (nI 1) = 1 from rfl] at this; rw [this]; omega), rfl⟩⟩
set_option maxHeartbeats 4000000 in
set_option maxRecDepth 100000 in
theorem c_X8_drawn {G : GM} {σ : SG} : CI G yX8_drawn cX8_drawn 1 (some .int) 0 [rf G 109] σ (fun r s => r = nI (dn (dz (σ 20 6))) ∧ s = su σ 20 6 (dz (σ 20 6))) := by
  refine Con.of cd_X8_drawn (Nat.le_of_ble_eq_true rfl) ?_
  intro X hX hZ
  have hX : Fx X G RX8 cX8_drawn 1 0 := hX
  show RR X G 1 0 (ll [(0, rf G 109)]) [] σ
  refine r_aload_n hX dX8_drawn_0 rfl ⟨_, rfl⟩ (RR.pc (b := 1) rfl ?_)
  refine r_getr hX dX8_drawn_1 fl_X8_7 (by first | rfl | assumption) rfl (RR.pc (b := 4) rfl ?_)
  refine r_bipush (v := 6) hX dX8_drawn_4 (by decide) (RR.pc (b := 6) rfl ?_)
  refine r_aload_n hX dX8_drawn_6 rfl ⟨_, rfl⟩ (RR.pc (b := 7) rfl ?_)
  refine r_getr hX dX8_drawn_7 fl_X8_7 (by first | rfl | assumption) rfl (RR.pc (b := 10) rfl ?_)
  refine r_bipush (v := 6) hX dX8_drawn_10 (by decide) (RR.pc (b := 12) rfl ?_)
  refine r_iald hX dX8_drawn_12 (by first | rfl | assumption) (by first | rfl | assumption) (by first | decide | assumption | omega) (by decide) (by first | exact Nat.zero_add _ | rfl) (RR.pc (b := 13) rfl ?_)
  refine r_ldc hX dX8_drawn_13 kc_X8_71 (RR.pc (b := 15) rfl ?_)
  refine r_imul hX dX8_drawn_15 (RR.pc (b := 16) rfl ?_)
  refine r_sipush (v := 12345) hX dX8_drawn_16 (by decide) (RR.pc (b := 19) rfl ?_)
  refine r_iadd hX dX8_drawn_19 (RR.pc (b := 20) rfl ?_)
  refine r_iast hX dX8_drawn_20 (by first | rfl | assumption) (by first | rfl | assumption) (by first | decide | assumption | omega) (by decide) (by first | exact Nat.zero_add _ | rfl) (RR.pc (b := 21) rfl ?_)
  refine r_aload_n hX dX8_drawn_21 rfl ⟨_, rfl⟩ (RR.pc (b := 22) rfl ?_)
  refine r_getr hX dX8_drawn_22 fl_X8_7 (by first | rfl | assumption) rfl (RR.pc (b := 25) rfl ?_)
  refine r_bipush (v := 6) hX dX8_drawn_25 (by decide) (RR.pc (b := 27) rfl ?_)
  refine r_iald hX dX8_drawn_27 (by first | rfl | assumption) (by first | rfl | assumption) (by first | decide | assumption | omega) (by decide) (by first | exact Nat.zero_add _ | rfl) (RR.pc (b := 28) rfl ?_)
  refine r_bipush (v := 8) hX dX8_drawn_28 (by decide) (RR.pc (b := 30) rfl ?_)
  refine r_iushr hX dX8_drawn_30 rfl (RR.pc (b := 31) rfl ?_)
  exact r_iret hX hZ dX8_drawn_31 ⟨_, rfl, ⟨by rw [su_eq, pk_us, ush_eq]; rfl, rfl⟩⟩
set_option maxHeartbeats 4000000 in
set_option maxRecDepth 100000 in
theorem c_X8_paces {G : GM} {σ : SG} {a : Nat} (ha : a < 8) : CI G yX8_paces cX8_paces 4 (some .int) 1 [rf G 109, .int (nI a)] σ (fun r s => r = goK (σ 20 (131 + 5 * a)) (σ 20 (131 + 5 * a + 1)) ∧ s = σ) := by
  refine Con.of cd_X8_paces (Nat.le_of_ble_eq_true rfl) ?_
  intro X hX hZ
  have hX : Fx X G RX8 cX8_paces 4 1 := hX
  show RR X G 4 0 (ll [(0, rf G 109), (1, .int (nI a))]) [] σ
  refine r_aload_n hX dX8_paces_0 rfl ⟨_, rfl⟩ (RR.pc (b := 1) rfl ?_)
  refine r_iload_n (i := 0) hX dX8_paces_1 rfl (RR.pc (b := 2) rfl ?_)
  refine r_iconst (v := 1) hX dX8_paces_2 (by decide) (RR.pc (b := 3) rfl ?_)
  refine r_callVie hX dX8_paces_3 ml_X8_90 cd_X8_of iv_X8_of (c_X8_of (a := a) (b := 1) (q := 131 + 5 * a + 1) rfl rfl rfl (by omega)) (by decide) (by first | rfl | assumption) rfl rfl rfl rfl (Nat.le_of_ble_eq_true rfl) (RR.pc (b := 6) rfl ?_)
  refine r_istore_n hX dX8_paces_6 (by decide) (RR.pc (b := 7) rfl ?_)
  refine r_iload_n (i := 0) hX dX8_paces_7 rfl (RR.pc (b := 8) rfl ?_)
  refine r_dia1 18 (if σ 20 (131 + 5 * a + 1) ≤ 0 then 0 else σ 20 (131 + 5 * a + 1) - 1) (fun hj8 => ?_) ?_
  · refine r_if_le (tgt := 17) hX dX8_paces_8 rfl (fun h8 => ?_) (fun h8 => RR.pc (b := 11) rfl ?_)
    · refine r_iconst (v := 0) hX dX8_paces_17 (by decide) (RR.pc (b := 18) rfl ?_)
      exact RR.eqt (congrArg (fun q => Value.int q :: _) (if_pos h8).symm) hj8
    · refine r_iload_n (i := 0) hX dX8_paces_11 rfl (RR.pc (b := 12) rfl ?_)
      refine r_iconst (v := 1) hX dX8_paces_12 (by decide) (RR.pc (b := 13) rfl ?_)
      refine r_isub hX dX8_paces_13 (RR.pc (b := 14) rfl ?_)
      refine r_goto (tgt := 18) hX dX8_paces_14 rfl ?_
      exact RR.eqt (congrArg (fun q => Value.int q :: _) (if_neg h8).symm) hj8
  refine r_istore_n hX dX8_paces_18 (by decide) (RR.pc (b := 19) rfl ?_)
  refine r_aload_n hX dX8_paces_19 rfl ⟨_, rfl⟩ (RR.pc (b := 20) rfl ?_)
  refine r_iload_n (i := 0) hX dX8_paces_20 rfl (RR.pc (b := 21) rfl ?_)
  refine r_iconst (v := 0) hX dX8_paces_21 (by decide) (RR.pc (b := 22) rfl ?_)
  refine r_callVie hX dX8_paces_22 ml_X8_90 cd_X8_of iv_X8_of (c_X8_of (a := a) (b := 0) (q := 131 + 5 * a) rfl rfl rfl (by omega)) (by decide) (by first | rfl | assumption) rfl rfl rfl rfl (Nat.le_of_ble_eq_true rfl) (RR.pc (b := 25) rfl ?_)
  by_cases h25_2 : σ 20 (131 + 5 * a) = 2
  · refine r_tableIn (tgt := 56) hX dX8_paces_25 (by rw [h25_2]; decide) (by rw [h25_2]; decide) (by rw [h25_2]; rfl) rfl ?_
    refine r_iload_n (i := 0) hX dX8_paces_56 rfl (RR.pc (b := 57) rfl ?_)
    exact r_iret hX hZ dX8_paces_57 ⟨_, rfl, ⟨by unfold goK; simp_all, rfl⟩⟩
  by_cases h25_3 : σ 20 (131 + 5 * a) = 3
  · refine r_tableIn (tgt := 52) hX dX8_paces_25 (by rw [h25_3]; decide) (by rw [h25_3]; decide) (by rw [h25_3]; rfl) rfl ?_
    refine r_iload_n (i := 0) hX dX8_paces_52 rfl (RR.pc (b := 53) rfl ?_)
    refine r_iconst (v := 1) hX dX8_paces_53 (by decide) (RR.pc (b := 54) rfl ?_)
    refine r_iadd hX dX8_paces_54 (RR.pc (b := 55) rfl ?_)
    exact r_iret hX hZ dX8_paces_55 ⟨_, rfl, ⟨by unfold goK; simp_all, rfl⟩⟩
  by_cases h25_4 : σ 20 (131 + 5 * a) = 4
  · refine r_tableIn (tgt := 58) hX dX8_paces_25 (by rw [h25_4]; decide) (by rw [h25_4]; decide) (by rw [h25_4]; rfl) rfl ?_
    refine r_iload_n (i := 0) hX dX8_paces_58 rfl (RR.pc (b := 59) rfl ?_)
    refine r_iconst (v := 2) hX dX8_paces_59 (by decide) (RR.pc (b := 60) rfl ?_)
    refine r_idiv hX dX8_paces_60 (by decide) (RR.pc (b := 61) rfl ?_)
    exact r_iret hX hZ dX8_paces_61 ⟨_, rfl, ⟨by unfold goK; simp_all, rfl⟩⟩
  refine r_tableOut (tgt := 62) hX dX8_paces_25 (by have n0 : (σ 20 (131 + 5 * a)).toInt ≠ 2 := ne_toInt h25_2; have n1 : (σ 20 (131 + 5 * a)).toInt ≠ 3 := ne_toInt h25_3; have n2 : (σ 20 (131 + 5 * a)).toInt ≠ 4 := ne_toInt h25_4; omega) rfl ?_
  refine r_iload_n (i := 0) hX dX8_paces_62 rfl (RR.pc (b := 63) rfl ?_)
  exact r_iret hX hZ dX8_paces_63 ⟨_, rfl, ⟨by unfold goK; simp_all, rfl⟩⟩
set_option maxHeartbeats 4000000 in
set_option maxRecDepth 100000 in
theorem c_X8_worth {G : GM} {σ : SG} {a : Nat} (ha : a < 8) : CI G yX8_worth cX8_worth 3 (some .int) 1 [rf G 109, .int (nI a)] σ (fun r s => r = woK (σ 20 (131 + 5 * a)) (σ 20 (131 + 5 * a + 1)) ∧ s = σ) := by
  refine Con.of cd_X8_worth (Nat.le_of_ble_eq_true rfl) ?_
  intro X hX hZ
  have hX : Fx X G RX8 cX8_worth 3 1 := hX
  show RR X G 3 0 (ll [(0, rf G 109), (1, .int (nI a))]) [] σ
  refine r_bipush (v := 9) hX dX8_worth_0 (by decide) (RR.pc (b := 2) rfl ?_)
  refine r_aload_n hX dX8_worth_2 rfl ⟨_, rfl⟩ (RR.pc (b := 3) rfl ?_)
  refine r_iload_n (i := 0) hX dX8_worth_3 rfl (RR.pc (b := 4) rfl ?_)
  refine r_iconst (v := 1) hX dX8_worth_4 (by decide) (RR.pc (b := 5) rfl ?_)
  refine r_callVie hX dX8_worth_5 ml_X8_90 cd_X8_of iv_X8_of (c_X8_of (a := a) (b := 1) (q := 131 + 5 * a + 1) rfl rfl rfl (by omega)) (by decide) (by first | rfl | assumption) rfl rfl rfl rfl (Nat.le_of_ble_eq_true rfl) (RR.pc (b := 8) rfl ?_)
  refine r_imul hX dX8_worth_8 (RR.pc (b := 9) rfl ?_)
  refine r_istore_n hX dX8_worth_9 (by decide) (RR.pc (b := 10) rfl ?_)
  refine r_aload_n hX dX8_worth_10 rfl ⟨_, rfl⟩ (RR.pc (b := 11) rfl ?_)
  refine r_iload_n (i := 0) hX dX8_worth_11 rfl (RR.pc (b := 12) rfl ?_)
  refine r_iconst (v := 0) hX dX8_worth_12 (by decide) (RR.pc (b := 13) rfl ?_)
  refine r_callVie hX dX8_worth_13 ml_X8_90 cd_X8_of iv_X8_of (c_X8_of (a := a) (b := 0) (q := 131 + 5 * a) rfl rfl rfl (by omega)) (by decide) (by first | rfl | assumption) rfl rfl rfl rfl (Nat.le_of_ble_eq_true rfl) (RR.pc (b := 16) rfl ?_)
  by_cases h16_1 : σ 20 (131 + 5 * a) = 1
  · refine r_tableIn (tgt := 52) hX dX8_worth_16 (by rw [h16_1]; decide) (by rw [h16_1]; decide) (by rw [h16_1]; rfl) rfl ?_
    refine r_iload_n (i := 0) hX dX8_worth_52 rfl (RR.pc (b := 53) rfl ?_)
    refine r_bipush (v := 6) hX dX8_worth_53 (by decide) (RR.pc (b := 55) rfl ?_)
    refine r_iadd hX dX8_worth_55 (RR.pc (b := 56) rfl ?_)
    exact r_iret hX hZ dX8_worth_56 ⟨_, rfl, ⟨by unfold woK; simp_all, rfl⟩⟩
  by_cases h16_2 : σ 20 (131 + 5 * a) = 2
  · refine r_tableIn (tgt := 57) hX dX8_worth_16 (by rw [h16_2]; decide) (by rw [h16_2]; decide) (by rw [h16_2]; rfl) rfl ?_
    refine r_bipush (v := 99) hX dX8_worth_57 (by decide) (RR.pc (b := 59) rfl ?_)
    refine r_iload_n (i := 0) hX dX8_worth_59 rfl (RR.pc (b := 60) rfl ?_)
    refine r_isub hX dX8_worth_60 (RR.pc (b := 61) rfl ?_)
    exact r_iret hX hZ dX8_worth_61 ⟨_, rfl, ⟨by unfold woK; simp_all, rfl⟩⟩
  by_cases h16_3 : σ 20 (131 + 5 * a) = 3
  · refine r_tableIn (tgt := 62) hX dX8_worth_16 (by rw [h16_3]; decide) (by rw [h16_3]; decide) (by rw [h16_3]; rfl) rfl ?_
    refine r_iconst (v := 2) hX dX8_worth_62 (by decide) (RR.pc (b := 63) rfl ?_)
    refine r_iload_n (i := 0) hX dX8_worth_63 rfl (RR.pc (b := 64) rfl ?_)
    refine r_bipush (v := 6) hX dX8_worth_64 (by decide) (RR.pc (b := 66) rfl ?_)
    refine r_iadd hX dX8_worth_66 (RR.pc (b := 67) rfl ?_)
    refine r_imul hX dX8_worth_67 (RR.pc (b := 68) rfl ?_)
    exact r_iret hX hZ dX8_worth_68 ⟨_, rfl, ⟨by unfold woK; simp_all, rfl⟩⟩
  by_cases h16_4 : σ 20 (131 + 5 * a) = 4
  · refine r_tableIn (tgt := 69) hX dX8_worth_16 (by rw [h16_4]; decide) (by rw [h16_4]; decide) (by rw [h16_4]; rfl) rfl ?_
    refine r_bipush (v := 91) hX dX8_worth_69 (by decide) (RR.pc (b := 71) rfl ?_)
    refine r_iload_n (i := 0) hX dX8_worth_71 rfl (RR.pc (b := 72) rfl ?_)
    refine r_isub hX dX8_worth_72 (RR.pc (b := 73) rfl ?_)
    exact r_iret hX hZ dX8_worth_73 ⟨_, rfl, ⟨by unfold woK; simp_all, rfl⟩⟩
  by_cases h16_5 : σ 20 (131 + 5 * a) = 5
  · refine r_tableIn (tgt := 74) hX dX8_worth_16 (by rw [h16_5]; decide) (by rw [h16_5]; decide) (by rw [h16_5]; rfl) rfl ?_
    refine r_iconst (v := 4) hX dX8_worth_74 (by decide) (RR.pc (b := 75) rfl ?_)
    exact r_iret hX hZ dX8_worth_75 ⟨_, rfl, ⟨by unfold woK; simp_all, rfl⟩⟩
  refine r_tableOut (tgt := 76) hX dX8_worth_16 (by have n0 : (σ 20 (131 + 5 * a)).toInt ≠ 1 := ne_toInt h16_1; have n1 : (σ 20 (131 + 5 * a)).toInt ≠ 2 := ne_toInt h16_2; have n2 : (σ 20 (131 + 5 * a)).toInt ≠ 3 := ne_toInt h16_3; have n3 : (σ 20 (131 + 5 * a)).toInt ≠ 4 := ne_toInt h16_4; have n4 : (σ 20 (131 + 5 * a)).toInt ≠ 5 := ne_toInt h16_5; omega) rfl ?_
  refine r_iload_n (i := 0) hX dX8_worth_76 rfl (RR.pc (b := 77) rfl ?_)
  exact r_iret hX hZ dX8_worth_77 ⟨_, rfl, ⟨by unfold woK; simp_all, rfl⟩⟩
set_option maxHeartbeats 4000000 in
set_option maxRecDepth 100000 in
theorem c_X8_joined {G : GM} {σ : SG} {c x y : Int32} : CI G yX8_joined cX8_joined 3 (some .int) 0 [.int c, .int x, .int y] σ (fun r s => r = jn c x y ∧ s = σ) := by
  refine Con.of cd_X8_joined (Nat.le_of_ble_eq_true rfl) ?_
  intro X hX hZ
  have hX : Fx X G RX8 cX8_joined 3 0 := hX
  show RR X G 3 0 (ll [(0, .int c), (1, .int x), (2, .int y)]) [] σ
  refine r_iload_n (i := 0) hX dX8_joined_0 rfl (RR.pc (b := 1) rfl ?_)
  by_cases h1_38 : c = 38
  · refine r_tableIn (tgt := 183) hX dX8_joined_1 (by rw [h1_38]; decide) (by rw [h1_38]; decide) (by rw [h1_38]; rfl) rfl ?_
    refine r_iload_n (i := 0) hX dX8_joined_183 rfl (RR.pc (b := 184) rfl ?_)
    refine r_if_eq (tgt := 195) hX dX8_joined_184 rfl (fun h184 => ?_) (fun h184 => RR.pc (b := 187) rfl ?_)
    · refine r_iconst (v := 0) hX dX8_joined_195 (by decide) (RR.pc (b := 196) rfl ?_)
      exact r_iret hX hZ dX8_joined_196 ⟨_, rfl, ⟨by unfold jn bz; simp_all, rfl⟩⟩
    · refine r_iload_n (i := 0) hX dX8_joined_187 rfl (RR.pc (b := 188) rfl ?_)
      refine r_if_eq (tgt := 195) hX dX8_joined_188 rfl (fun h188 => ?_) (fun h188 => RR.pc (b := 191) rfl ?_)
      · refine r_iconst (v := 0) hX dX8_joined_195 (by decide) (RR.pc (b := 196) rfl ?_)
        exact r_iret hX hZ dX8_joined_196 ⟨_, rfl, ⟨by unfold jn bz; simp_all, rfl⟩⟩
      · refine r_iconst (v := 1) hX dX8_joined_191 (by decide) (RR.pc (b := 192) rfl ?_)
        refine r_goto (tgt := 196) hX dX8_joined_192 rfl ?_
        exact r_iret hX hZ dX8_joined_196 ⟨_, rfl, ⟨by unfold jn bz; simp_all, rfl⟩⟩
  by_cases h1_39 : c = 39
  · refine r_tableIn (tgt := 197) hX dX8_joined_1 (by rw [h1_39]; decide) (by rw [h1_39]; decide) (by rw [h1_39]; rfl) rfl ?_
    refine r_iload_n (i := 0) hX dX8_joined_197 rfl (RR.pc (b := 198) rfl ?_)
    refine r_if_ne (tgt := 205) hX dX8_joined_198 rfl (fun h198 => ?_) (fun h198 => RR.pc (b := 201) rfl ?_)
    · refine r_iconst (v := 1) hX dX8_joined_205 (by decide) (RR.pc (b := 206) rfl ?_)
      refine r_goto (tgt := 210) hX dX8_joined_206 rfl ?_
      exact r_iret hX hZ dX8_joined_210 ⟨_, rfl, ⟨by unfold jn bz; simp_all, rfl⟩⟩
    · refine r_iload_n (i := 0) hX dX8_joined_201 rfl (RR.pc (b := 202) rfl ?_)
      refine r_if_eq (tgt := 209) hX dX8_joined_202 rfl (fun h202 => ?_) (fun h202 => RR.pc (b := 205) rfl ?_)
      · refine r_iconst (v := 0) hX dX8_joined_209 (by decide) (RR.pc (b := 210) rfl ?_)
        exact r_iret hX hZ dX8_joined_210 ⟨_, rfl, ⟨by unfold jn bz; simp_all, rfl⟩⟩
      · refine r_iconst (v := 1) hX dX8_joined_205 (by decide) (RR.pc (b := 206) rfl ?_)
        refine r_goto (tgt := 210) hX dX8_joined_206 rfl ?_
        exact r_iret hX hZ dX8_joined_210 ⟨_, rfl, ⟨by unfold jn bz; simp_all, rfl⟩⟩
  by_cases h1_40 : c = 40
  · refine r_tableIn (tgt := 197) hX dX8_joined_1 (by rw [h1_40]; decide) (by rw [h1_40]; decide) (by rw [h1_40]; rfl) rfl ?_
    refine r_iload_n (i := 0) hX dX8_joined_197 rfl (RR.pc (b := 198) rfl ?_)
    refine r_if_ne (tgt := 205) hX dX8_joined_198 rfl (fun h198 => ?_) (fun h198 => RR.pc (b := 201) rfl ?_)
    · refine r_iconst (v := 1) hX dX8_joined_205 (by decide) (RR.pc (b := 206) rfl ?_)
      refine r_goto (tgt := 210) hX dX8_joined_206 rfl ?_
      exact r_iret hX hZ dX8_joined_210 ⟨_, rfl, ⟨by unfold jn bz; simp_all, rfl⟩⟩
    · refine r_iload_n (i := 0) hX dX8_joined_201 rfl (RR.pc (b := 202) rfl ?_)
      refine r_if_eq (tgt := 209) hX dX8_joined_202 rfl (fun h202 => ?_) (fun h202 => RR.pc (b := 205) rfl ?_)
      · refine r_iconst (v := 0) hX dX8_joined_209 (by decide) (RR.pc (b := 210) rfl ?_)
        exact r_iret hX hZ dX8_joined_210 ⟨_, rfl, ⟨by unfold jn bz; simp_all, rfl⟩⟩
      · refine r_iconst (v := 1) hX dX8_joined_205 (by decide) (RR.pc (b := 206) rfl ?_)
        refine r_goto (tgt := 210) hX dX8_joined_206 rfl ?_
        exact r_iret hX hZ dX8_joined_210 ⟨_, rfl, ⟨by unfold jn bz; simp_all, rfl⟩⟩
  by_cases h1_41 : c = 41
  · refine r_tableIn (tgt := 197) hX dX8_joined_1 (by rw [h1_41]; decide) (by rw [h1_41]; decide) (by rw [h1_41]; rfl) rfl ?_
    refine r_iload_n (i := 0) hX dX8_joined_197 rfl (RR.pc (b := 198) rfl ?_)
    refine r_if_ne (tgt := 205) hX dX8_joined_198 rfl (fun h198 => ?_) (fun h198 => RR.pc (b := 201) rfl ?_)
    · refine r_iconst (v := 1) hX dX8_joined_205 (by decide) (RR.pc (b := 206) rfl ?_)
      refine r_goto (tgt := 210) hX dX8_joined_206 rfl ?_
      exact r_iret hX hZ dX8_joined_210 ⟨_, rfl, ⟨by unfold jn bz; simp_all, rfl⟩⟩
    · refine r_iload_n (i := 0) hX dX8_joined_201 rfl (RR.pc (b := 202) rfl ?_)
      refine r_if_eq (tgt := 209) hX dX8_joined_202 rfl (fun h202 => ?_) (fun h202 => RR.pc (b := 205) rfl ?_)
      · refine r_iconst (v := 0) hX dX8_joined_209 (by decide) (RR.pc (b := 210) rfl ?_)
        exact r_iret hX hZ dX8_joined_210 ⟨_, rfl, ⟨by unfold jn bz; simp_all, rfl⟩⟩
      · refine r_iconst (v := 1) hX dX8_joined_205 (by decide) (RR.pc (b := 206) rfl ?_)
        refine r_goto (tgt := 210) hX dX8_joined_206 rfl ?_
        exact r_iret hX hZ dX8_joined_210 ⟨_, rfl, ⟨by unfold jn bz; simp_all, rfl⟩⟩
  by_cases h1_42 : c = 42
  · refine r_tableIn (tgt := 124) hX dX8_joined_1 (by rw [h1_42]; decide) (by rw [h1_42]; decide) (by rw [h1_42]; rfl) rfl ?_
    refine r_iload_n (i := 0) hX dX8_joined_124 rfl (RR.pc (b := 125) rfl ?_)
    refine r_iload_n (i := 0) hX dX8_joined_125 rfl (RR.pc (b := 126) rfl ?_)
    refine r_imul hX dX8_joined_126 (RR.pc (b := 127) rfl ?_)
    exact r_iret hX hZ dX8_joined_127 ⟨_, rfl, ⟨by unfold jn bz; simp_all, rfl⟩⟩
  by_cases h1_43 : c = 43
  · refine r_tableIn (tgt := 116) hX dX8_joined_1 (by rw [h1_43]; decide) (by rw [h1_43]; decide) (by rw [h1_43]; rfl) rfl ?_
    refine r_iload_n (i := 0) hX dX8_joined_116 rfl (RR.pc (b := 117) rfl ?_)
    refine r_iload_n (i := 0) hX dX8_joined_117 rfl (RR.pc (b := 118) rfl ?_)
    refine r_iadd hX dX8_joined_118 (RR.pc (b := 119) rfl ?_)
    exact r_iret hX hZ dX8_joined_119 ⟨_, rfl, ⟨by unfold jn bz; simp_all, rfl⟩⟩
  by_cases h1_44 : c = 44
  · refine r_tableIn (tgt := 197) hX dX8_joined_1 (by rw [h1_44]; decide) (by rw [h1_44]; decide) (by rw [h1_44]; rfl) rfl ?_
    refine r_iload_n (i := 0) hX dX8_joined_197 rfl (RR.pc (b := 198) rfl ?_)
    refine r_if_ne (tgt := 205) hX dX8_joined_198 rfl (fun h198 => ?_) (fun h198 => RR.pc (b := 201) rfl ?_)
    · refine r_iconst (v := 1) hX dX8_joined_205 (by decide) (RR.pc (b := 206) rfl ?_)
      refine r_goto (tgt := 210) hX dX8_joined_206 rfl ?_
      exact r_iret hX hZ dX8_joined_210 ⟨_, rfl, ⟨by unfold jn bz; simp_all, rfl⟩⟩
    · refine r_iload_n (i := 0) hX dX8_joined_201 rfl (RR.pc (b := 202) rfl ?_)
      refine r_if_eq (tgt := 209) hX dX8_joined_202 rfl (fun h202 => ?_) (fun h202 => RR.pc (b := 205) rfl ?_)
      · refine r_iconst (v := 0) hX dX8_joined_209 (by decide) (RR.pc (b := 210) rfl ?_)
        exact r_iret hX hZ dX8_joined_210 ⟨_, rfl, ⟨by unfold jn bz; simp_all, rfl⟩⟩
      · refine r_iconst (v := 1) hX dX8_joined_205 (by decide) (RR.pc (b := 206) rfl ?_)
        refine r_goto (tgt := 210) hX dX8_joined_206 rfl ?_
        exact r_iret hX hZ dX8_joined_210 ⟨_, rfl, ⟨by unfold jn bz; simp_all, rfl⟩⟩
  by_cases h1_45 : c = 45
  · refine r_tableIn (tgt := 120) hX dX8_joined_1 (by rw [h1_45]; decide) (by rw [h1_45]; decide) (by rw [h1_45]; rfl) rfl ?_
    refine r_iload_n (i := 0) hX dX8_joined_120 rfl (RR.pc (b := 121) rfl ?_)
    refine r_iload_n (i := 0) hX dX8_joined_121 rfl (RR.pc (b := 122) rfl ?_)
    refine r_isub hX dX8_joined_122 (RR.pc (b := 123) rfl ?_)
    exact r_iret hX hZ dX8_joined_123 ⟨_, rfl, ⟨by unfold jn bz; simp_all, rfl⟩⟩
  by_cases h1_46 : c = 46
  · refine r_tableIn (tgt := 197) hX dX8_joined_1 (by rw [h1_46]; decide) (by rw [h1_46]; decide) (by rw [h1_46]; rfl) rfl ?_
    refine r_iload_n (i := 0) hX dX8_joined_197 rfl (RR.pc (b := 198) rfl ?_)
    refine r_if_ne (tgt := 205) hX dX8_joined_198 rfl (fun h198 => ?_) (fun h198 => RR.pc (b := 201) rfl ?_)
    · refine r_iconst (v := 1) hX dX8_joined_205 (by decide) (RR.pc (b := 206) rfl ?_)
      refine r_goto (tgt := 210) hX dX8_joined_206 rfl ?_
      exact r_iret hX hZ dX8_joined_210 ⟨_, rfl, ⟨by unfold jn bz; simp_all, rfl⟩⟩
    · refine r_iload_n (i := 0) hX dX8_joined_201 rfl (RR.pc (b := 202) rfl ?_)
      refine r_if_eq (tgt := 209) hX dX8_joined_202 rfl (fun h202 => ?_) (fun h202 => RR.pc (b := 205) rfl ?_)
      · refine r_iconst (v := 0) hX dX8_joined_209 (by decide) (RR.pc (b := 210) rfl ?_)
        exact r_iret hX hZ dX8_joined_210 ⟨_, rfl, ⟨by unfold jn bz; simp_all, rfl⟩⟩
      · refine r_iconst (v := 1) hX dX8_joined_205 (by decide) (RR.pc (b := 206) rfl ?_)
        refine r_goto (tgt := 210) hX dX8_joined_206 rfl ?_
        exact r_iret hX hZ dX8_joined_210 ⟨_, rfl, ⟨by unfold jn bz; simp_all, rfl⟩⟩
  by_cases h1_47 : c = 47
  · refine r_tableIn (tgt := 128) hX dX8_joined_1 (by rw [h1_47]; decide) (by rw [h1_47]; decide) (by rw [h1_47]; rfl) rfl ?_
    refine r_iload_n (i := 0) hX dX8_joined_128 rfl (RR.pc (b := 129) rfl ?_)
    refine r_if_ne (tgt := 136) hX dX8_joined_129 rfl (fun h129 => ?_) (fun h129 => RR.pc (b := 132) rfl ?_)
    · refine r_iload_n (i := 0) hX dX8_joined_136 rfl (RR.pc (b := 137) rfl ?_)
      refine r_iconst (v := -1) hX dX8_joined_137 (by decide) (RR.pc (b := 138) rfl ?_)
      refine r_icmp_ne (tgt := 146) hX dX8_joined_138 rfl (fun h138 => ?_) (fun h138 => RR.pc (b := 141) rfl ?_)
      · refine r_iload_n (i := 0) hX dX8_joined_146 rfl (RR.pc (b := 147) rfl ?_)
        refine r_iload_n (i := 0) hX dX8_joined_147 rfl (RR.pc (b := 148) rfl ?_)
        refine r_idiv hX dX8_joined_148 (by assumption) (RR.pc (b := 149) rfl ?_)
        exact r_iret hX hZ dX8_joined_149 ⟨_, rfl, ⟨by unfold jn bz; simp_all, rfl⟩⟩
      · refine r_iload_n (i := 0) hX dX8_joined_141 rfl (RR.pc (b := 142) rfl ?_)
        refine r_ineg hX dX8_joined_142 (RR.pc (b := 143) rfl ?_)
        refine r_goto (tgt := 149) hX dX8_joined_143 rfl ?_
        exact r_iret hX hZ dX8_joined_149 ⟨_, rfl, ⟨by unfold jn bz; simp_all, rfl⟩⟩
    · refine r_iconst (v := 0) hX dX8_joined_132 (by decide) (RR.pc (b := 133) rfl ?_)
      refine r_goto (tgt := 149) hX dX8_joined_133 rfl ?_
      exact r_iret hX hZ dX8_joined_149 ⟨_, rfl, ⟨by unfold jn bz; simp_all, rfl⟩⟩
  by_cases h1_48 : c = 48
  · refine r_tableIn (tgt := 197) hX dX8_joined_1 (by rw [h1_48]; decide) (by rw [h1_48]; decide) (by rw [h1_48]; rfl) rfl ?_
    refine r_iload_n (i := 0) hX dX8_joined_197 rfl (RR.pc (b := 198) rfl ?_)
    refine r_if_ne (tgt := 205) hX dX8_joined_198 rfl (fun h198 => ?_) (fun h198 => RR.pc (b := 201) rfl ?_)
    · refine r_iconst (v := 1) hX dX8_joined_205 (by decide) (RR.pc (b := 206) rfl ?_)
      refine r_goto (tgt := 210) hX dX8_joined_206 rfl ?_
      exact r_iret hX hZ dX8_joined_210 ⟨_, rfl, ⟨by unfold jn bz; simp_all, rfl⟩⟩
    · refine r_iload_n (i := 0) hX dX8_joined_201 rfl (RR.pc (b := 202) rfl ?_)
      refine r_if_eq (tgt := 209) hX dX8_joined_202 rfl (fun h202 => ?_) (fun h202 => RR.pc (b := 205) rfl ?_)
      · refine r_iconst (v := 0) hX dX8_joined_209 (by decide) (RR.pc (b := 210) rfl ?_)
        exact r_iret hX hZ dX8_joined_210 ⟨_, rfl, ⟨by unfold jn bz; simp_all, rfl⟩⟩
      · refine r_iconst (v := 1) hX dX8_joined_205 (by decide) (RR.pc (b := 206) rfl ?_)
        refine r_goto (tgt := 210) hX dX8_joined_206 rfl ?_
        exact r_iret hX hZ dX8_joined_210 ⟨_, rfl, ⟨by unfold jn bz; simp_all, rfl⟩⟩
  by_cases h1_49 : c = 49
  · refine r_tableIn (tgt := 197) hX dX8_joined_1 (by rw [h1_49]; decide) (by rw [h1_49]; decide) (by rw [h1_49]; rfl) rfl ?_
    refine r_iload_n (i := 0) hX dX8_joined_197 rfl (RR.pc (b := 198) rfl ?_)
    refine r_if_ne (tgt := 205) hX dX8_joined_198 rfl (fun h198 => ?_) (fun h198 => RR.pc (b := 201) rfl ?_)
    · refine r_iconst (v := 1) hX dX8_joined_205 (by decide) (RR.pc (b := 206) rfl ?_)
      refine r_goto (tgt := 210) hX dX8_joined_206 rfl ?_
      exact r_iret hX hZ dX8_joined_210 ⟨_, rfl, ⟨by unfold jn bz; simp_all, rfl⟩⟩
    · refine r_iload_n (i := 0) hX dX8_joined_201 rfl (RR.pc (b := 202) rfl ?_)
      refine r_if_eq (tgt := 209) hX dX8_joined_202 rfl (fun h202 => ?_) (fun h202 => RR.pc (b := 205) rfl ?_)
      · refine r_iconst (v := 0) hX dX8_joined_209 (by decide) (RR.pc (b := 210) rfl ?_)
        exact r_iret hX hZ dX8_joined_210 ⟨_, rfl, ⟨by unfold jn bz; simp_all, rfl⟩⟩
      · refine r_iconst (v := 1) hX dX8_joined_205 (by decide) (RR.pc (b := 206) rfl ?_)
        refine r_goto (tgt := 210) hX dX8_joined_206 rfl ?_
        exact r_iret hX hZ dX8_joined_210 ⟨_, rfl, ⟨by unfold jn bz; simp_all, rfl⟩⟩
  by_cases h1_50 : c = 50
  · refine r_tableIn (tgt := 197) hX dX8_joined_1 (by rw [h1_50]; decide) (by rw [h1_50]; decide) (by rw [h1_50]; rfl) rfl ?_
    refine r_iload_n (i := 0) hX dX8_joined_197 rfl (RR.pc (b := 198) rfl ?_)
    refine r_if_ne (tgt := 205) hX dX8_joined_198 rfl (fun h198 => ?_) (fun h198 => RR.pc (b := 201) rfl ?_)
    · refine r_iconst (v := 1) hX dX8_joined_205 (by decide) (RR.pc (b := 206) rfl ?_)
      refine r_goto (tgt := 210) hX dX8_joined_206 rfl ?_
      exact r_iret hX hZ dX8_joined_210 ⟨_, rfl, ⟨by unfold jn bz; simp_all, rfl⟩⟩
    · refine r_iload_n (i := 0) hX dX8_joined_201 rfl (RR.pc (b := 202) rfl ?_)
      refine r_if_eq (tgt := 209) hX dX8_joined_202 rfl (fun h202 => ?_) (fun h202 => RR.pc (b := 205) rfl ?_)
      · refine r_iconst (v := 0) hX dX8_joined_209 (by decide) (RR.pc (b := 210) rfl ?_)
        exact r_iret hX hZ dX8_joined_210 ⟨_, rfl, ⟨by unfold jn bz; simp_all, rfl⟩⟩
      · refine r_iconst (v := 1) hX dX8_joined_205 (by decide) (RR.pc (b := 206) rfl ?_)
        refine r_goto (tgt := 210) hX dX8_joined_206 rfl ?_
        exact r_iret hX hZ dX8_joined_210 ⟨_, rfl, ⟨by unfold jn bz; simp_all, rfl⟩⟩
  by_cases h1_51 : c = 51
  · refine r_tableIn (tgt := 197) hX dX8_joined_1 (by rw [h1_51]; decide) (by rw [h1_51]; decide) (by rw [h1_51]; rfl) rfl ?_
    refine r_iload_n (i := 0) hX dX8_joined_197 rfl (RR.pc (b := 198) rfl ?_)
    refine r_if_ne (tgt := 205) hX dX8_joined_198 rfl (fun h198 => ?_) (fun h198 => RR.pc (b := 201) rfl ?_)
    · refine r_iconst (v := 1) hX dX8_joined_205 (by decide) (RR.pc (b := 206) rfl ?_)
      refine r_goto (tgt := 210) hX dX8_joined_206 rfl ?_
      exact r_iret hX hZ dX8_joined_210 ⟨_, rfl, ⟨by unfold jn bz; simp_all, rfl⟩⟩
    · refine r_iload_n (i := 0) hX dX8_joined_201 rfl (RR.pc (b := 202) rfl ?_)
      refine r_if_eq (tgt := 209) hX dX8_joined_202 rfl (fun h202 => ?_) (fun h202 => RR.pc (b := 205) rfl ?_)
      · refine r_iconst (v := 0) hX dX8_joined_209 (by decide) (RR.pc (b := 210) rfl ?_)
        exact r_iret hX hZ dX8_joined_210 ⟨_, rfl, ⟨by unfold jn bz; simp_all, rfl⟩⟩
      · refine r_iconst (v := 1) hX dX8_joined_205 (by decide) (RR.pc (b := 206) rfl ?_)
        refine r_goto (tgt := 210) hX dX8_joined_206 rfl ?_
        exact r_iret hX hZ dX8_joined_210 ⟨_, rfl, ⟨by unfold jn bz; simp_all, rfl⟩⟩
  by_cases h1_52 : c = 52
  · refine r_tableIn (tgt := 197) hX dX8_joined_1 (by rw [h1_52]; decide) (by rw [h1_52]; decide) (by rw [h1_52]; rfl) rfl ?_
    refine r_iload_n (i := 0) hX dX8_joined_197 rfl (RR.pc (b := 198) rfl ?_)
    refine r_if_ne (tgt := 205) hX dX8_joined_198 rfl (fun h198 => ?_) (fun h198 => RR.pc (b := 201) rfl ?_)
    · refine r_iconst (v := 1) hX dX8_joined_205 (by decide) (RR.pc (b := 206) rfl ?_)
      refine r_goto (tgt := 210) hX dX8_joined_206 rfl ?_
      exact r_iret hX hZ dX8_joined_210 ⟨_, rfl, ⟨by unfold jn bz; simp_all, rfl⟩⟩
    · refine r_iload_n (i := 0) hX dX8_joined_201 rfl (RR.pc (b := 202) rfl ?_)
      refine r_if_eq (tgt := 209) hX dX8_joined_202 rfl (fun h202 => ?_) (fun h202 => RR.pc (b := 205) rfl ?_)
      · refine r_iconst (v := 0) hX dX8_joined_209 (by decide) (RR.pc (b := 210) rfl ?_)
        exact r_iret hX hZ dX8_joined_210 ⟨_, rfl, ⟨by unfold jn bz; simp_all, rfl⟩⟩
      · refine r_iconst (v := 1) hX dX8_joined_205 (by decide) (RR.pc (b := 206) rfl ?_)
        refine r_goto (tgt := 210) hX dX8_joined_206 rfl ?_
        exact r_iret hX hZ dX8_joined_210 ⟨_, rfl, ⟨by unfold jn bz; simp_all, rfl⟩⟩
  by_cases h1_53 : c = 53
  · refine r_tableIn (tgt := 197) hX dX8_joined_1 (by rw [h1_53]; decide) (by rw [h1_53]; decide) (by rw [h1_53]; rfl) rfl ?_
    refine r_iload_n (i := 0) hX dX8_joined_197 rfl (RR.pc (b := 198) rfl ?_)
    refine r_if_ne (tgt := 205) hX dX8_joined_198 rfl (fun h198 => ?_) (fun h198 => RR.pc (b := 201) rfl ?_)
    · refine r_iconst (v := 1) hX dX8_joined_205 (by decide) (RR.pc (b := 206) rfl ?_)
      refine r_goto (tgt := 210) hX dX8_joined_206 rfl ?_
      exact r_iret hX hZ dX8_joined_210 ⟨_, rfl, ⟨by unfold jn bz; simp_all, rfl⟩⟩
    · refine r_iload_n (i := 0) hX dX8_joined_201 rfl (RR.pc (b := 202) rfl ?_)
      refine r_if_eq (tgt := 209) hX dX8_joined_202 rfl (fun h202 => ?_) (fun h202 => RR.pc (b := 205) rfl ?_)
      · refine r_iconst (v := 0) hX dX8_joined_209 (by decide) (RR.pc (b := 210) rfl ?_)
        exact r_iret hX hZ dX8_joined_210 ⟨_, rfl, ⟨by unfold jn bz; simp_all, rfl⟩⟩
      · refine r_iconst (v := 1) hX dX8_joined_205 (by decide) (RR.pc (b := 206) rfl ?_)
        refine r_goto (tgt := 210) hX dX8_joined_206 rfl ?_
        exact r_iret hX hZ dX8_joined_210 ⟨_, rfl, ⟨by unfold jn bz; simp_all, rfl⟩⟩
  by_cases h1_54 : c = 54
  · refine r_tableIn (tgt := 197) hX dX8_joined_1 (by rw [h1_54]; decide) (by rw [h1_54]; decide) (by rw [h1_54]; rfl) rfl ?_
    refine r_iload_n (i := 0) hX dX8_joined_197 rfl (RR.pc (b := 198) rfl ?_)
    refine r_if_ne (tgt := 205) hX dX8_joined_198 rfl (fun h198 => ?_) (fun h198 => RR.pc (b := 201) rfl ?_)
    · refine r_iconst (v := 1) hX dX8_joined_205 (by decide) (RR.pc (b := 206) rfl ?_)
      refine r_goto (tgt := 210) hX dX8_joined_206 rfl ?_
      exact r_iret hX hZ dX8_joined_210 ⟨_, rfl, ⟨by unfold jn bz; simp_all, rfl⟩⟩
    · refine r_iload_n (i := 0) hX dX8_joined_201 rfl (RR.pc (b := 202) rfl ?_)
      refine r_if_eq (tgt := 209) hX dX8_joined_202 rfl (fun h202 => ?_) (fun h202 => RR.pc (b := 205) rfl ?_)
      · refine r_iconst (v := 0) hX dX8_joined_209 (by decide) (RR.pc (b := 210) rfl ?_)
        exact r_iret hX hZ dX8_joined_210 ⟨_, rfl, ⟨by unfold jn bz; simp_all, rfl⟩⟩
      · refine r_iconst (v := 1) hX dX8_joined_205 (by decide) (RR.pc (b := 206) rfl ?_)
        refine r_goto (tgt := 210) hX dX8_joined_206 rfl ?_
        exact r_iret hX hZ dX8_joined_210 ⟨_, rfl, ⟨by unfold jn bz; simp_all, rfl⟩⟩
  by_cases h1_55 : c = 55
  · refine r_tableIn (tgt := 197) hX dX8_joined_1 (by rw [h1_55]; decide) (by rw [h1_55]; decide) (by rw [h1_55]; rfl) rfl ?_
    refine r_iload_n (i := 0) hX dX8_joined_197 rfl (RR.pc (b := 198) rfl ?_)
    refine r_if_ne (tgt := 205) hX dX8_joined_198 rfl (fun h198 => ?_) (fun h198 => RR.pc (b := 201) rfl ?_)
    · refine r_iconst (v := 1) hX dX8_joined_205 (by decide) (RR.pc (b := 206) rfl ?_)
      refine r_goto (tgt := 210) hX dX8_joined_206 rfl ?_
      exact r_iret hX hZ dX8_joined_210 ⟨_, rfl, ⟨by unfold jn bz; simp_all, rfl⟩⟩
    · refine r_iload_n (i := 0) hX dX8_joined_201 rfl (RR.pc (b := 202) rfl ?_)
      refine r_if_eq (tgt := 209) hX dX8_joined_202 rfl (fun h202 => ?_) (fun h202 => RR.pc (b := 205) rfl ?_)
      · refine r_iconst (v := 0) hX dX8_joined_209 (by decide) (RR.pc (b := 210) rfl ?_)
        exact r_iret hX hZ dX8_joined_210 ⟨_, rfl, ⟨by unfold jn bz; simp_all, rfl⟩⟩
      · refine r_iconst (v := 1) hX dX8_joined_205 (by decide) (RR.pc (b := 206) rfl ?_)
        refine r_goto (tgt := 210) hX dX8_joined_206 rfl ?_
        exact r_iret hX hZ dX8_joined_210 ⟨_, rfl, ⟨by unfold jn bz; simp_all, rfl⟩⟩
  by_cases h1_56 : c = 56
  · refine r_tableIn (tgt := 197) hX dX8_joined_1 (by rw [h1_56]; decide) (by rw [h1_56]; decide) (by rw [h1_56]; rfl) rfl ?_
    refine r_iload_n (i := 0) hX dX8_joined_197 rfl (RR.pc (b := 198) rfl ?_)
    refine r_if_ne (tgt := 205) hX dX8_joined_198 rfl (fun h198 => ?_) (fun h198 => RR.pc (b := 201) rfl ?_)
    · refine r_iconst (v := 1) hX dX8_joined_205 (by decide) (RR.pc (b := 206) rfl ?_)
      refine r_goto (tgt := 210) hX dX8_joined_206 rfl ?_
      exact r_iret hX hZ dX8_joined_210 ⟨_, rfl, ⟨by unfold jn bz; simp_all, rfl⟩⟩
    · refine r_iload_n (i := 0) hX dX8_joined_201 rfl (RR.pc (b := 202) rfl ?_)
      refine r_if_eq (tgt := 209) hX dX8_joined_202 rfl (fun h202 => ?_) (fun h202 => RR.pc (b := 205) rfl ?_)
      · refine r_iconst (v := 0) hX dX8_joined_209 (by decide) (RR.pc (b := 210) rfl ?_)
        exact r_iret hX hZ dX8_joined_210 ⟨_, rfl, ⟨by unfold jn bz; simp_all, rfl⟩⟩
      · refine r_iconst (v := 1) hX dX8_joined_205 (by decide) (RR.pc (b := 206) rfl ?_)
        refine r_goto (tgt := 210) hX dX8_joined_206 rfl ?_
        exact r_iret hX hZ dX8_joined_210 ⟨_, rfl, ⟨by unfold jn bz; simp_all, rfl⟩⟩
  by_cases h1_57 : c = 57
  · refine r_tableIn (tgt := 197) hX dX8_joined_1 (by rw [h1_57]; decide) (by rw [h1_57]; decide) (by rw [h1_57]; rfl) rfl ?_
    refine r_iload_n (i := 0) hX dX8_joined_197 rfl (RR.pc (b := 198) rfl ?_)
    refine r_if_ne (tgt := 205) hX dX8_joined_198 rfl (fun h198 => ?_) (fun h198 => RR.pc (b := 201) rfl ?_)
    · refine r_iconst (v := 1) hX dX8_joined_205 (by decide) (RR.pc (b := 206) rfl ?_)
      refine r_goto (tgt := 210) hX dX8_joined_206 rfl ?_
      exact r_iret hX hZ dX8_joined_210 ⟨_, rfl, ⟨by unfold jn bz; simp_all, rfl⟩⟩
    · refine r_iload_n (i := 0) hX dX8_joined_201 rfl (RR.pc (b := 202) rfl ?_)
      refine r_if_eq (tgt := 209) hX dX8_joined_202 rfl (fun h202 => ?_) (fun h202 => RR.pc (b := 205) rfl ?_)
      · refine r_iconst (v := 0) hX dX8_joined_209 (by decide) (RR.pc (b := 210) rfl ?_)
        exact r_iret hX hZ dX8_joined_210 ⟨_, rfl, ⟨by unfold jn bz; simp_all, rfl⟩⟩
      · refine r_iconst (v := 1) hX dX8_joined_205 (by decide) (RR.pc (b := 206) rfl ?_)
        refine r_goto (tgt := 210) hX dX8_joined_206 rfl ?_
        exact r_iret hX hZ dX8_joined_210 ⟨_, rfl, ⟨by unfold jn bz; simp_all, rfl⟩⟩
  by_cases h1_58 : c = 58
  · refine r_tableIn (tgt := 197) hX dX8_joined_1 (by rw [h1_58]; decide) (by rw [h1_58]; decide) (by rw [h1_58]; rfl) rfl ?_
    refine r_iload_n (i := 0) hX dX8_joined_197 rfl (RR.pc (b := 198) rfl ?_)
    refine r_if_ne (tgt := 205) hX dX8_joined_198 rfl (fun h198 => ?_) (fun h198 => RR.pc (b := 201) rfl ?_)
    · refine r_iconst (v := 1) hX dX8_joined_205 (by decide) (RR.pc (b := 206) rfl ?_)
      refine r_goto (tgt := 210) hX dX8_joined_206 rfl ?_
      exact r_iret hX hZ dX8_joined_210 ⟨_, rfl, ⟨by unfold jn bz; simp_all, rfl⟩⟩
    · refine r_iload_n (i := 0) hX dX8_joined_201 rfl (RR.pc (b := 202) rfl ?_)
      refine r_if_eq (tgt := 209) hX dX8_joined_202 rfl (fun h202 => ?_) (fun h202 => RR.pc (b := 205) rfl ?_)
      · refine r_iconst (v := 0) hX dX8_joined_209 (by decide) (RR.pc (b := 210) rfl ?_)
        exact r_iret hX hZ dX8_joined_210 ⟨_, rfl, ⟨by unfold jn bz; simp_all, rfl⟩⟩
      · refine r_iconst (v := 1) hX dX8_joined_205 (by decide) (RR.pc (b := 206) rfl ?_)
        refine r_goto (tgt := 210) hX dX8_joined_206 rfl ?_
        exact r_iret hX hZ dX8_joined_210 ⟨_, rfl, ⟨by unfold jn bz; simp_all, rfl⟩⟩
  by_cases h1_59 : c = 59
  · refine r_tableIn (tgt := 197) hX dX8_joined_1 (by rw [h1_59]; decide) (by rw [h1_59]; decide) (by rw [h1_59]; rfl) rfl ?_
    refine r_iload_n (i := 0) hX dX8_joined_197 rfl (RR.pc (b := 198) rfl ?_)
    refine r_if_ne (tgt := 205) hX dX8_joined_198 rfl (fun h198 => ?_) (fun h198 => RR.pc (b := 201) rfl ?_)
    · refine r_iconst (v := 1) hX dX8_joined_205 (by decide) (RR.pc (b := 206) rfl ?_)
      refine r_goto (tgt := 210) hX dX8_joined_206 rfl ?_
      exact r_iret hX hZ dX8_joined_210 ⟨_, rfl, ⟨by unfold jn bz; simp_all, rfl⟩⟩
    · refine r_iload_n (i := 0) hX dX8_joined_201 rfl (RR.pc (b := 202) rfl ?_)
      refine r_if_eq (tgt := 209) hX dX8_joined_202 rfl (fun h202 => ?_) (fun h202 => RR.pc (b := 205) rfl ?_)
      · refine r_iconst (v := 0) hX dX8_joined_209 (by decide) (RR.pc (b := 210) rfl ?_)
        exact r_iret hX hZ dX8_joined_210 ⟨_, rfl, ⟨by unfold jn bz; simp_all, rfl⟩⟩
      · refine r_iconst (v := 1) hX dX8_joined_205 (by decide) (RR.pc (b := 206) rfl ?_)
        refine r_goto (tgt := 210) hX dX8_joined_206 rfl ?_
        exact r_iret hX hZ dX8_joined_210 ⟨_, rfl, ⟨by unfold jn bz; simp_all, rfl⟩⟩
  by_cases h1_60 : c = 60
  · refine r_tableIn (tgt := 150) hX dX8_joined_1 (by rw [h1_60]; decide) (by rw [h1_60]; decide) (by rw [h1_60]; rfl) rfl ?_
    refine r_iload_n (i := 0) hX dX8_joined_150 rfl (RR.pc (b := 151) rfl ?_)
    refine r_iload_n (i := 0) hX dX8_joined_151 rfl (RR.pc (b := 152) rfl ?_)
    refine r_icmp_ge (tgt := 159) hX dX8_joined_152 rfl (fun h152 => ?_) (fun h152 => RR.pc (b := 155) rfl ?_)
    · refine r_iconst (v := 0) hX dX8_joined_159 (by decide) (RR.pc (b := 160) rfl ?_)
      exact r_iret hX hZ dX8_joined_160 ⟨_, rfl, ⟨by unfold jn bz; simp_all, rfl⟩⟩
    · refine r_iconst (v := 1) hX dX8_joined_155 (by decide) (RR.pc (b := 156) rfl ?_)
      refine r_goto (tgt := 160) hX dX8_joined_156 rfl ?_
      exact r_iret hX hZ dX8_joined_160 ⟨_, rfl, ⟨by unfold jn bz; simp_all, rfl⟩⟩
  by_cases h1_61 : c = 61
  · refine r_tableIn (tgt := 172) hX dX8_joined_1 (by rw [h1_61]; decide) (by rw [h1_61]; decide) (by rw [h1_61]; rfl) rfl ?_
    refine r_iload_n (i := 0) hX dX8_joined_172 rfl (RR.pc (b := 173) rfl ?_)
    refine r_iload_n (i := 0) hX dX8_joined_173 rfl (RR.pc (b := 174) rfl ?_)
    refine r_icmp_ne (tgt := 181) hX dX8_joined_174 rfl (fun h174 => ?_) (fun h174 => RR.pc (b := 177) rfl ?_)
    · refine r_iconst (v := 0) hX dX8_joined_181 (by decide) (RR.pc (b := 182) rfl ?_)
      exact r_iret hX hZ dX8_joined_182 ⟨_, rfl, ⟨by unfold jn bz; simp_all, rfl⟩⟩
    · refine r_iconst (v := 1) hX dX8_joined_177 (by decide) (RR.pc (b := 178) rfl ?_)
      refine r_goto (tgt := 182) hX dX8_joined_178 rfl ?_
      exact r_iret hX hZ dX8_joined_182 ⟨_, rfl, ⟨by unfold jn bz; simp_all, rfl⟩⟩
  by_cases h1_62 : c = 62
  · refine r_tableIn (tgt := 161) hX dX8_joined_1 (by rw [h1_62]; decide) (by rw [h1_62]; decide) (by rw [h1_62]; rfl) rfl ?_
    refine r_iload_n (i := 0) hX dX8_joined_161 rfl (RR.pc (b := 162) rfl ?_)
    refine r_iload_n (i := 0) hX dX8_joined_162 rfl (RR.pc (b := 163) rfl ?_)
    refine r_icmp_le (tgt := 170) hX dX8_joined_163 rfl (fun h163 => ?_) (fun h163 => RR.pc (b := 166) rfl ?_)
    · refine r_iconst (v := 0) hX dX8_joined_170 (by decide) (RR.pc (b := 171) rfl ?_)
      exact r_iret hX hZ dX8_joined_171 ⟨_, rfl, ⟨by unfold jn bz; simp_all, rfl⟩⟩
    · refine r_iconst (v := 1) hX dX8_joined_166 (by decide) (RR.pc (b := 167) rfl ?_)
      refine r_goto (tgt := 171) hX dX8_joined_167 rfl ?_
      exact r_iret hX hZ dX8_joined_171 ⟨_, rfl, ⟨by unfold jn bz; simp_all, rfl⟩⟩
  refine r_tableOut (tgt := 197) hX dX8_joined_1 (by have n0 : (c).toInt ≠ 38 := ne_toInt h1_38; have n1 : (c).toInt ≠ 39 := ne_toInt h1_39; have n2 : (c).toInt ≠ 40 := ne_toInt h1_40; have n3 : (c).toInt ≠ 41 := ne_toInt h1_41; have n4 : (c).toInt ≠ 42 := ne_toInt h1_42; have n5 : (c).toInt ≠ 43 := ne_toInt h1_43; have n6 : (c).toInt ≠ 44 := ne_toInt h1_44; have n7 : (c).toInt ≠ 45 := ne_toInt h1_45; have n8 : (c).toInt ≠ 46 := ne_toInt h1_46; have n9 : (c).toInt ≠ 47 := ne_toInt h1_47; have n10 : (c).toInt ≠ 48 := ne_toInt h1_48; have n11 : (c).toInt ≠ 49 := ne_toInt h1_49; have n12 : (c).toInt ≠ 50 := ne_toInt h1_50; have n13 : (c).toInt ≠ 51 := ne_toInt h1_51; have n14 : (c).toInt ≠ 52 := ne_toInt h1_52; have n15 : (c).toInt ≠ 53 := ne_toInt h1_53; have n16 : (c).toInt ≠ 54 := ne_toInt h1_54; have n17 : (c).toInt ≠ 55 := ne_toInt h1_55; have n18 : (c).toInt ≠ 56 := ne_toInt h1_56; have n19 : (c).toInt ≠ 57 := ne_toInt h1_57; have n20 : (c).toInt ≠ 58 := ne_toInt h1_58; have n21 : (c).toInt ≠ 59 := ne_toInt h1_59; have n22 : (c).toInt ≠ 60 := ne_toInt h1_60; have n23 : (c).toInt ≠ 61 := ne_toInt h1_61; have n24 : (c).toInt ≠ 62 := ne_toInt h1_62; omega) rfl ?_
  refine r_iload_n (i := 0) hX dX8_joined_197 rfl (RR.pc (b := 198) rfl ?_)
  refine r_if_ne (tgt := 205) hX dX8_joined_198 rfl (fun h198 => ?_) (fun h198 => RR.pc (b := 201) rfl ?_)
  · refine r_iconst (v := 1) hX dX8_joined_205 (by decide) (RR.pc (b := 206) rfl ?_)
    refine r_goto (tgt := 210) hX dX8_joined_206 rfl ?_
    exact r_iret hX hZ dX8_joined_210 ⟨_, rfl, ⟨by unfold jn bz; simp_all, rfl⟩⟩
  · refine r_iload_n (i := 0) hX dX8_joined_201 rfl (RR.pc (b := 202) rfl ?_)
    refine r_if_eq (tgt := 209) hX dX8_joined_202 rfl (fun h202 => ?_) (fun h202 => RR.pc (b := 205) rfl ?_)
    · refine r_iconst (v := 0) hX dX8_joined_209 (by decide) (RR.pc (b := 210) rfl ?_)
      exact r_iret hX hZ dX8_joined_210 ⟨_, rfl, ⟨by unfold jn bz; simp_all, rfl⟩⟩
    · refine r_iconst (v := 1) hX dX8_joined_205 (by decide) (RR.pc (b := 206) rfl ?_)
      refine r_goto (tgt := 210) hX dX8_joined_206 rfl ?_
      exact r_iret hX hZ dX8_joined_210 ⟨_, rfl, ⟨by unfold jn bz; simp_all, rfl⟩⟩
set_option maxHeartbeats 4000000 in
set_option maxRecDepth 100000 in
theorem c_X8_counts {G : GM} {σ : SG} {Ts : Nat → Tx} {nt : Nat} {key : Int32} (hN : σ 20 1 = nI nt) (h14 : nt ≤ 14) (ht : ∀ t, t < nt → σ 20 (171 + 200 * t) = (Ts t).1) : CI G yX8_counts cX8_counts 4 (some .int) 1 [rf G 109, .int key] σ (fun r s => r = cntI (cnt Ts key nt) ∧ s = σ) := by
  refine Con.of cd_X8_counts (Nat.le_of_ble_eq_true rfl) ?_
  intro X hX hZ
  have hX : Fx X G RX8 cX8_counts 4 1 := hX
  show RR X G 4 0 (ll [(0, rf G 109), (1, .int key)]) [] σ
  have loop := loopK nt (fun k => RR X G 4 4 (ll [(0, rf G 109), (1, .int key), (2, .int (cntI (cnt Ts key k))), (3, .int (nI k))]) [] σ) (by
    intro k hk ih
    refine r_iload_n (i := 0) hX dX8_counts_4 rfl (RR.pc (b := 5) rfl ?_)
    refine r_aload_n hX dX8_counts_5 rfl ⟨_, rfl⟩ (RR.pc (b := 6) rfl ?_)
    refine r_getr hX dX8_counts_6 fl_X8_7 (by first | rfl | assumption) rfl (RR.pc (b := 9) rfl ?_)
    refine r_iconst (v := 1) hX dX8_counts_9 (by decide) (RR.pc (b := 10) rfl ?_)
    refine r_iald hX dX8_counts_10 (by first | rfl | assumption) (by first | rfl | assumption) (by first | decide | assumption | omega) (by decide) (by first | exact Nat.zero_add _ | rfl) (RR.pc (b := 11) rfl ?_)
    rw [hN]
    refine r_icmp_ge (tgt := 40) hX dX8_counts_11 rfl (fun h11 => ?_) (fun h11 => RR.pc (b := 14) rfl ?_)
    · have hk2 : k = nt := by rw [nI_leI (by omega) (by omega)] at h11; omega
      subst hk2
      refine r_iload_n (i := 0) hX dX8_counts_40 rfl (RR.pc (b := 41) rfl ?_)
      exact r_iret hX hZ dX8_counts_41 ⟨_, rfl, ⟨rfl, rfl⟩⟩
    · have hk2 : k < nt := by rw [nI_leI (by omega) (by omega)] at h11; omega
      refine r_aload_n hX dX8_counts_14 rfl ⟨_, rfl⟩ (RR.pc (b := 15) rfl ?_)
      refine r_getr hX dX8_counts_15 fl_X8_7 (by first | rfl | assumption) rfl (RR.pc (b := 18) rfl ?_)
      refine r_aload_n hX dX8_counts_18 rfl ⟨_, rfl⟩ (RR.pc (b := 19) rfl ?_)
      refine r_iload_n (i := 0) hX dX8_counts_19 rfl (RR.pc (b := 20) rfl ?_)
      refine r_callVie hX dX8_counts_20 ml_X8_267 cd_X8_textAt iv_X8_textAt (c_X8_textAt (t := k)) (by decide) (by first | rfl | assumption) rfl rfl rfl rfl (Nat.le_of_ble_eq_true rfl) (RR.pc (b := 23) rfl ?_)
      refine r_iald hX dX8_counts_23 (by first | rfl | assumption) rfl (by omega) (by decide) (by first | exact Nat.zero_add _ | rfl) (RR.pc (b := 24) rfl ?_)
      refine r_iload_n (i := 0) hX dX8_counts_24 rfl (RR.pc (b := 25) rfl ?_)
      rw [ht k hk2]
      refine r_dia2 33 (if (Ts k).1 = key then nI k else cntI (cnt Ts key k)) (fun hj25 => ?_) ?_
      · refine r_icmp_ne (tgt := 32) hX dX8_counts_25 rfl (fun h25 => ?_) (fun h25 => RR.pc (b := 28) rfl ?_)
        · refine r_iload_n (i := 0) hX dX8_counts_32 rfl (RR.pc (b := 33) rfl ?_)
          exact RR.eqt (congrArg (fun q => Value.int q :: _) (if_neg h25).symm) hj25
        · refine r_iload_n (i := 0) hX dX8_counts_28 rfl (RR.pc (b := 29) rfl ?_)
          refine r_goto (tgt := 33) hX dX8_counts_29 rfl ?_
          exact RR.eqt (congrArg (fun q => Value.int q :: _) (if_pos h25).symm) hj25
      refine r_istore_n hX dX8_counts_33 (by decide) (RR.pc (b := 34) rfl ?_)
      refine r_iinc hX dX8_counts_34 rfl (by decide) (nI_1 k) (RR.pc (b := 37) rfl ?_)
      refine r_goto (tgt := 4) hX dX8_counts_37 rfl ?_
      refine RR.cut (ih hk2) (List.forall_mem_cons.mpr ⟨rfl, List.forall_mem_cons.mpr ⟨rfl, List.forall_mem_cons.mpr ⟨?_, List.forall_mem_cons.mpr ⟨rfl, fun _ h => absurd h List.not_mem_nil⟩⟩⟩⟩)
      show some (Value.int _) = some (Value.int _)
      rw [cnt]
      by_cases hq : (Ts k).1 = key <;> simp [hq, cntI]
    )
  refine r_iconst (v := -1) hX dX8_counts_0 (by decide) (RR.pc (b := 1) rfl ?_)
  refine r_istore_n hX dX8_counts_1 (by decide) (RR.pc (b := 2) rfl ?_)
  refine r_iconst (v := 0) hX dX8_counts_2 (by decide) (RR.pc (b := 3) rfl ?_)
  refine r_istore_n hX dX8_counts_3 (by decide) (RR.pc (b := 4) rfl ?_)
  exact RR.cut (loop 0 (by omega)) (List.forall_mem_cons.mpr ⟨rfl, List.forall_mem_cons.mpr ⟨rfl, List.forall_mem_cons.mpr ⟨rfl, List.forall_mem_cons.mpr ⟨rfl, fun _ h => absurd h List.not_mem_nil⟩⟩⟩⟩)
/-- worked: the loop over the steps; the stack is S -/
theorem ixT (t k c : Nat) : nI (171 + 200 * t) + nI c + 2 * nI k = nI (171 + 200 * t + c + 2 * k) := by show nI _ + nI c + nI 2 * nI k = _; rw [pk_mul, nI_add, nI_add]
theorem inc_m1 (n : Nat) : nI (n + 1) + Int32.ofInt (-1) = nI n := by
  rw [show Int32.ofInt (-1) = (-1 : Int32) by decide]
  exact pk_m1 n
theorem ev_end {nm : Int32 → Int32} {T : Tx} {f : Nat → Int32} {S : List Int32} {k : Nat} (hk : T.2.2.length ≤ k) (hP : Pl f S) (hh : hgt (T.2.2.drop k) S.length = some 1) (he : evL nm (T.2.2.drop k) S = evL nm T.2.2 []) : f 0 = evT T nm := by
  unfold evT
  rw [List.drop_eq_nil_of_le hk] at hh he
  rw [← he]
  unfold evL
  unfold hgt at hh
  match S, hh with
  | [x], _ => exact hP 0 (by simp)
theorem drop_at {T : Tx} {k : Nat} (hk : k < T.2.2.length) : T.2.2.drop k = T.2.2.getD k (0, 0) :: T.2.2.drop (k + 1) := by
  rw [List.drop_eq_getElem_cons hk]
  simp [hk]
theorem at_mem {T : Tx} {k : Nat} (hk : k < T.2.2.length) : T.2.2.getD k (0, 0) ∈ T.2.2 := by simp [hk]
theorem nmK_clamp {key v : Int32} (h : v ∈ nmK key) : v = nI v.toNatClampNeg ∧ v.toNatClampNeg < 128 := by
  obtain ⟨j, hj, rfl⟩ := nmK_lt key v h
  rw [nI_clamp (by omega)]
  exact ⟨rfl, hj⟩
set_option maxHeartbeats 4000000 in
theorem wk_step {X : CX} {G : GM} {σ : SG} {T : Tx} {t : Nat} (hX : Fx X G RX8 cX8_worked 6 1) (h14 : t < 14) (hT : TR (σ 20) t T) (ho : okT T) (k : Nat) (f : Nat → Int32) (S : List Int32) (hk : k < T.2.2.length) (hP : Pl f S) (hS : S.length ≤ k) (hh : hgt (T.2.2.drop k) S.length = some 1) (he : evL (fun v => σ 33 v.toNatClampNeg) (T.2.2.drop k) S = evL (fun v => σ 33 v.toNatClampNeg) T.2.2 [])
    (ih : ∀ (f : Nat → Int32) (S : List Int32), Pl f S → S.length ≤ k + 1 → hgt (T.2.2.drop (k + 1)) S.length = some 1 → evL (fun v => σ 33 v.toNatClampNeg) (T.2.2.drop (k + 1)) S = evL (fun v => σ 33 v.toNatClampNeg) T.2.2 [] → RR X G 6 4 (ll [(0, rf G 109), (1, .int (nI t)), (2, .int (nI S.length)), (3, .int (nI (k + 1)))]) [] (sr σ 34 f)) :
    RR X G 6 4 (ll [(0, rf G 109), (1, .int (nI t)), (2, .int (nI S.length)), (3, .int (nI k))]) [] (sr σ 34 f) := by
  have hlen := ho.2.2.1
  obtain ⟨hq1, hq2⟩ := hT.2.2.2 k hk
  have hok := ho.2.2.2 _ (at_mem hk)
  rw [drop_at hk] at hh he
  generalize T.2.2.getD k (0, 0) = q at hq1 hq2 hok hh he
  generalize evL (fun v => σ 33 v.toNatClampNeg) T.2.2 [] = R0 at he ih
  unfold hgt at hh
  unfold evL ev1 at he
  refine r_iload_n (i := 0) hX dX8_worked_4 rfl (RR.pc (b := 5) rfl ?_)
  refine r_aload_n hX dX8_worked_5 rfl ⟨_, rfl⟩ (RR.pc (b := 6) rfl ?_)
  refine r_getr hX dX8_worked_6 fl_X8_7 (by first | rfl | assumption) rfl (RR.pc (b := 9) rfl ?_)
  refine r_aload_n hX dX8_worked_9 rfl ⟨_, rfl⟩ (RR.pc (b := 10) rfl ?_)
  refine r_iload_n (i := 0) hX dX8_worked_10 rfl (RR.pc (b := 11) rfl ?_)
  refine r_callVie hX dX8_worked_11 ml_X8_267 cd_X8_textAt iv_X8_textAt (c_X8_textAt (t := t)) (by decide) (by first | rfl | assumption) rfl rfl rfl rfl (Nat.le_of_ble_eq_true rfl) (RR.pc (b := 14) rfl ?_)
  refine r_iconst (v := 2) hX dX8_worked_14 (by decide) (RR.pc (b := 15) rfl ?_)
  refine r_iadd hX dX8_worked_15 (RR.pc (b := 16) rfl ?_)
  refine r_iald hX dX8_worked_16 (by first | rfl | assumption) (j := 171 + 200 * t + 2) (by show nI _ + nI 2 = _; rw [nI_add]) (by omega) (by decide) (by first | exact Nat.zero_add _ | rfl) (RR.pc (b := 17) rfl ?_)
  rw [sr_ne (by decide), hT.2.2.1]
  refine r_icmp_ge (tgt := 163) hX dX8_worked_17 rfl (fun h17 => absurd h17 (by rw [nI_leI (by omega) (by omega)]; omega)) (fun h17 => RR.pc (b := 20) rfl ?_)
  refine r_aload_n hX dX8_worked_20 rfl ⟨_, rfl⟩ (RR.pc (b := 21) rfl ?_)
  refine r_getr hX dX8_worked_21 fl_X8_7 (by first | rfl | assumption) rfl (RR.pc (b := 24) rfl ?_)
  refine r_aload_n hX dX8_worked_24 rfl ⟨_, rfl⟩ (RR.pc (b := 25) rfl ?_)
  refine r_iload_n (i := 0) hX dX8_worked_25 rfl (RR.pc (b := 26) rfl ?_)
  refine r_callVie hX dX8_worked_26 ml_X8_267 cd_X8_textAt iv_X8_textAt (c_X8_textAt (t := t)) (by decide) (by first | rfl | assumption) rfl rfl rfl rfl (Nat.le_of_ble_eq_true rfl) (RR.pc (b := 29) rfl ?_)
  refine r_iconst (v := 4) hX dX8_worked_29 (by decide) (RR.pc (b := 30) rfl ?_)
  refine r_iadd hX dX8_worked_30 (RR.pc (b := 31) rfl ?_)
  refine r_iconst (v := 2) hX dX8_worked_31 (by decide) (RR.pc (b := 32) rfl ?_)
  refine r_iload_n (i := 0) hX dX8_worked_32 rfl (RR.pc (b := 33) rfl ?_)
  refine r_imul hX dX8_worked_33 (RR.pc (b := 34) rfl ?_)
  refine r_iadd hX dX8_worked_34 (RR.pc (b := 35) rfl ?_)
  refine r_iald hX dX8_worked_35 (by first | rfl | assumption) (ixT t k 4) (by omega) (by decide) (by first | exact Nat.zero_add _ | rfl) (RR.pc (b := 36) rfl ?_)
  rw [sr_ne (by decide), hq1]
  refine r_istore hX dX8_worked_36 (by decide) (RR.pc (b := 38) rfl ?_)
  refine r_aload_n hX dX8_worked_38 rfl ⟨_, rfl⟩ (RR.pc (b := 39) rfl ?_)
  refine r_getr hX dX8_worked_39 fl_X8_7 (by first | rfl | assumption) rfl (RR.pc (b := 42) rfl ?_)
  refine r_aload_n hX dX8_worked_42 rfl ⟨_, rfl⟩ (RR.pc (b := 43) rfl ?_)
  refine r_iload_n (i := 0) hX dX8_worked_43 rfl (RR.pc (b := 44) rfl ?_)
  refine r_callVie hX dX8_worked_44 ml_X8_267 cd_X8_textAt iv_X8_textAt (c_X8_textAt (t := t)) (by decide) (by first | rfl | assumption) rfl rfl rfl rfl (Nat.le_of_ble_eq_true rfl) (RR.pc (b := 47) rfl ?_)
  refine r_iconst (v := 4) hX dX8_worked_47 (by decide) (RR.pc (b := 48) rfl ?_)
  refine r_iadd hX dX8_worked_48 (RR.pc (b := 49) rfl ?_)
  refine r_iconst (v := 2) hX dX8_worked_49 (by decide) (RR.pc (b := 50) rfl ?_)
  refine r_iload_n (i := 0) hX dX8_worked_50 rfl (RR.pc (b := 51) rfl ?_)
  refine r_imul hX dX8_worked_51 (RR.pc (b := 52) rfl ?_)
  refine r_iadd hX dX8_worked_52 (RR.pc (b := 53) rfl ?_)
  refine r_iconst (v := 1) hX dX8_worked_53 (by decide) (RR.pc (b := 54) rfl ?_)
  refine r_iadd hX dX8_worked_54 (RR.pc (b := 55) rfl ?_)
  refine r_iald hX dX8_worked_55 (by first | rfl | assumption) (j := 171 + 200 * t + 4 + 2 * k + 1) (by show nI _ + nI 4 + nI 2 * nI k + nI 1 = _; rw [pk_mul, nI_add, nI_add, nI_add]) (by omega) (by decide) (by first | exact Nat.zero_add _ | rfl) (RR.pc (b := 56) rfl ?_)
  rw [sr_ne (by decide), hq2]
  refine r_istore hX dX8_worked_56 (by decide) (RR.pc (b := 58) rfl ?_)
  refine r_iload hX dX8_worked_58 rfl (RR.pc (b := 60) rfl ?_)
  refine r_iconst (v := 2) hX dX8_worked_60 (by decide) (RR.pc (b := 61) rfl ?_)
  refine r_icmp_eq (tgt := 93) hX dX8_worked_61 rfl (fun h61 => ?_) (fun h61 => RR.pc (b := 64) rfl ?_)
  · rw [if_pos h61] at hh he
    refine r_iload hX dX8_worked_93 rfl (RR.pc (b := 95) rfl ?_)
    refine r_bipush (v := 33) hX dX8_worked_95 (by decide) (RR.pc (b := 97) rfl ?_)
    refine r_icmp_ne (tgt := 127) hX dX8_worked_97 rfl (fun h97 => ?_) (fun h97 => RR.pc (b := 100) rfl ?_)
    · rw [if_neg h97] at hh he
      match S, hP, hS, hh, he with
      | [], _, _, hh, _ => exact absurd hh (by simp)
      | [x], _, _, hh, _ => exact absurd hh (by simp)
      | y :: x :: S, hP, hS, hh, he =>
        simp only [List.length_cons] at hS hh ⊢
        have hh2 : hgt (List.drop (k + 1) T.2.2) (S.length + 1) = some 1 := by simpa using hh
        have ht1 := hP.top
        have ht2 := hP.tail.top
        simp only [List.length_cons] at ht1
        refine r_iinc hX dX8_worked_127 rfl (by decide) (inc_m1 _) (RR.pc (b := 130) rfl ?_)
        refine r_aload_n hX dX8_worked_130 rfl ⟨_, rfl⟩ (RR.pc (b := 131) rfl ?_)
        refine r_getr hX dX8_worked_131 fl_X8_52 (by first | rfl | assumption) rfl (RR.pc (b := 134) rfl ?_)
        refine r_iload_n (i := 0) hX dX8_worked_134 rfl (RR.pc (b := 135) rfl ?_)
        refine r_iconst (v := 1) hX dX8_worked_135 (by decide) (RR.pc (b := 136) rfl ?_)
        refine r_isub hX dX8_worked_136 (RR.pc (b := 137) rfl ?_)
        refine r_iload hX dX8_worked_137 rfl (RR.pc (b := 139) rfl ?_)
        refine r_aload_n hX dX8_worked_139 rfl ⟨_, rfl⟩ (RR.pc (b := 140) rfl ?_)
        refine r_getr hX dX8_worked_140 fl_X8_52 (by first | rfl | assumption) rfl (RR.pc (b := 143) rfl ?_)
        refine r_iload_n (i := 0) hX dX8_worked_143 rfl (RR.pc (b := 144) rfl ?_)
        refine r_iconst (v := 1) hX dX8_worked_144 (by decide) (RR.pc (b := 145) rfl ?_)
        refine r_isub hX dX8_worked_145 (RR.pc (b := 146) rfl ?_)
        refine r_iald (j := S.length) hX dX8_worked_146 rfl (nI_pred _) (by omega) (by decide) (Nat.zero_add _) (RR.pc (b := 147) rfl ?_)
        refine r_aload_n hX dX8_worked_147 rfl ⟨_, rfl⟩ (RR.pc (b := 148) rfl ?_)
        refine r_getr hX dX8_worked_148 fl_X8_52 (by first | rfl | assumption) rfl (RR.pc (b := 151) rfl ?_)
        refine r_iload_n (i := 0) hX dX8_worked_151 rfl (RR.pc (b := 152) rfl ?_)
        refine r_iald hX dX8_worked_152 (by first | rfl | assumption) (j := S.length + 1) rfl (by omega) (by decide) (by first | exact Nat.zero_add _ | rfl) (RR.pc (b := 153) rfl ?_)
        refine r_callSie hX dX8_worked_153 ml_X8_281 cd_X8_joined st_X8_joined c_X8_joined (by decide) rfl rfl (Nat.le_of_ble_eq_true rfl) (RR.pc (b := 156) rfl ?_)
        refine r_iast (j := S.length) hX dX8_worked_156 rfl (nI_pred _) (by omega) (by decide) (Nat.zero_add _) (RR.pc (b := 157) rfl ?_)
        rw [sr_eq, ht1, ht2]
        refine r_iinc hX dX8_worked_157 rfl (by decide) (nI_1 k) (RR.pc (b := 160) rfl ?_)
        refine r_goto (tgt := 4) hX dX8_worked_160 rfl ?_
        refine RR.eqs su_sr (RR.cut (ih _ (jn q.2 x y :: S) hP.tail.tail.push (by simp; omega) hh2 he) (List.forall_mem_cons.mpr ⟨rfl, List.forall_mem_cons.mpr ⟨rfl, List.forall_mem_cons.mpr ⟨rfl, List.forall_mem_cons.mpr ⟨rfl, fun _ h => absurd h List.not_mem_nil⟩⟩⟩⟩))
    · rw [if_pos h97] at hh he
      match S, hP, hS, hh, he with
      | [], _, _, hh, _ => exact absurd hh (by simp)
      | x :: S, hP, hS, hh, he =>
        simp only [List.length_cons] at hS hh ⊢
        have hh2 : hgt (List.drop (k + 1) T.2.2) (S.length + 1) = some 1 := by simpa using hh
        have ht1 := hP.top
        refine r_aload_n hX dX8_worked_100 rfl ⟨_, rfl⟩ (RR.pc (b := 101) rfl ?_)
        refine r_getr hX dX8_worked_101 fl_X8_52 (by first | rfl | assumption) rfl (RR.pc (b := 104) rfl ?_)
        refine r_iload_n (i := 0) hX dX8_worked_104 rfl (RR.pc (b := 105) rfl ?_)
        refine r_iconst (v := 1) hX dX8_worked_105 (by decide) (RR.pc (b := 106) rfl ?_)
        refine r_isub hX dX8_worked_106 (RR.pc (b := 107) rfl ?_)
        refine r_aload_n hX dX8_worked_107 rfl ⟨_, rfl⟩ (RR.pc (b := 108) rfl ?_)
        refine r_getr hX dX8_worked_108 fl_X8_52 (by first | rfl | assumption) rfl (RR.pc (b := 111) rfl ?_)
        refine r_iload_n (i := 0) hX dX8_worked_111 rfl (RR.pc (b := 112) rfl ?_)
        refine r_iconst (v := 1) hX dX8_worked_112 (by decide) (RR.pc (b := 113) rfl ?_)
        refine r_isub hX dX8_worked_113 (RR.pc (b := 114) rfl ?_)
        refine r_iald (j := S.length) hX dX8_worked_114 rfl (nI_pred _) (by omega) (by decide) (Nat.zero_add _) (RR.pc (b := 115) rfl ?_)
        rw [sr_eq, ht1]
        refine r_dia1 123 (if x = 0 then 1 else 0) (fun hj115 => ?_) ?_
        · refine r_if_ne (tgt := 122) hX dX8_worked_115 rfl (fun h115 => ?_) (fun h115 => RR.pc (b := 118) rfl ?_)
          · refine r_iconst (v := 0) hX dX8_worked_122 (by decide) (RR.pc (b := 123) rfl ?_)
            exact RR.eqt (congrArg (fun q => Value.int q :: _) (if_neg h115).symm) hj115
          · refine r_iconst (v := 1) hX dX8_worked_118 (by decide) (RR.pc (b := 119) rfl ?_)
            refine r_goto (tgt := 123) hX dX8_worked_119 rfl ?_
            exact RR.eqt (congrArg (fun q => Value.int q :: _) (if_pos h115).symm) hj115
        refine r_iast (j := S.length) hX dX8_worked_123 rfl (nI_pred _) (by omega) (by decide) (Nat.zero_add _) (RR.pc (b := 124) rfl ?_)
        refine r_goto (tgt := 157) hX dX8_worked_124 rfl ?_
        refine r_iinc hX dX8_worked_157 rfl (by decide) (nI_1 k) (RR.pc (b := 160) rfl ?_)
        refine r_goto (tgt := 4) hX dX8_worked_160 rfl ?_
        refine RR.eqs su_sr (RR.cut (ih _ ((if x = 0 then 1 else 0) :: S) hP.tail.push (by simp; omega) hh2 he) (List.forall_mem_cons.mpr ⟨rfl, List.forall_mem_cons.mpr ⟨rfl, List.forall_mem_cons.mpr ⟨rfl, List.forall_mem_cons.mpr ⟨rfl, fun _ h => absurd h List.not_mem_nil⟩⟩⟩⟩))
  · rw [if_neg h61] at hh he
    refine r_aload_n hX dX8_worked_64 rfl ⟨_, rfl⟩ (RR.pc (b := 65) rfl ?_)
    refine r_getr hX dX8_worked_65 fl_X8_52 (by first | rfl | assumption) rfl (RR.pc (b := 68) rfl ?_)
    refine r_iload_n (i := 0) hX dX8_worked_68 rfl (RR.pc (b := 69) rfl ?_)
    refine r_iload hX dX8_worked_69 rfl (RR.pc (b := 71) rfl ?_)
    refine r_dia1 86 (if q.1 = 0 then q.2 else sr σ 34 f 33 q.2.toNatClampNeg) (fun hj71 => ?_) ?_
    · refine r_if_ne (tgt := 79) hX dX8_worked_71 rfl (fun h71 => ?_) (fun h71 => RR.pc (b := 74) rfl ?_)
      · refine r_aload_n hX dX8_worked_79 rfl ⟨_, rfl⟩ (RR.pc (b := 80) rfl ?_)
        have hnm := nmK_clamp (hok.2.1 (by rcases hok.1 with e | e | e; exact absurd e h71; exact e; exact absurd e h61))
        refine r_getr hX dX8_worked_80 fl_X8_49 (by first | rfl | assumption) rfl (RR.pc (b := 83) rfl ?_)
        refine r_iload hX dX8_worked_83 rfl (RR.pc (b := 85) rfl ?_)
        refine r_iald hX dX8_worked_85 (by first | rfl | assumption) hnm.1 hnm.2 (by decide) (by first | exact Nat.zero_add _ | rfl) (RR.pc (b := 86) rfl ?_)
        exact RR.eqt (congrArg (fun q => Value.int q :: _) (if_neg h71).symm) hj71
      · refine r_iload hX dX8_worked_74 rfl (RR.pc (b := 76) rfl ?_)
        refine r_goto (tgt := 86) hX dX8_worked_76 rfl ?_
        exact RR.eqt (congrArg (fun q => Value.int q :: _) (if_pos h71).symm) hj71
    refine r_iast (j := S.length) hX dX8_worked_86 rfl rfl (by omega) (by decide) (Nat.zero_add _) (RR.pc (b := 87) rfl ?_)
    refine r_iinc hX dX8_worked_87 rfl (by decide) (nI_1 _) (RR.pc (b := 90) rfl ?_)
    refine r_goto (tgt := 157) hX dX8_worked_90 rfl ?_
    refine r_iinc hX dX8_worked_157 rfl (by decide) (nI_1 k) (RR.pc (b := 160) rfl ?_)
    refine r_goto (tgt := 4) hX dX8_worked_160 rfl ?_
    rw [sr_ne (by decide)]
    refine RR.eqs su_sr (RR.cut (ih _ (_ :: S) hP.push (by simp; omega) hh he) (List.forall_mem_cons.mpr ⟨rfl, List.forall_mem_cons.mpr ⟨rfl, List.forall_mem_cons.mpr ⟨rfl, List.forall_mem_cons.mpr ⟨rfl, fun _ h => absurd h List.not_mem_nil⟩⟩⟩⟩))
set_option maxHeartbeats 4000000 in
set_option maxRecDepth 100000 in
theorem c_X8_worked {G : GM} {σ : SG} {T : Tx} {t : Nat} (h14 : t < 14) (hT : TR (σ 20) t T) (ho : okT T) : CI G yX8_worked cX8_worked 6 (some .int) 1 [rf G 109, .int (nI t)] σ (fun r s => r = evT T (fun v => σ 33 v.toNatClampNeg) ∧ same [34] σ s) := by
  refine Con.of cd_X8_worked (Nat.le_of_ble_eq_true rfl) ?_
  intro X hX hZ
  have hX : Fx X G RX8 cX8_worked 6 1 := hX
  show RR X G 6 0 (ll [(0, rf G 109), (1, .int (nI t))]) [] σ
  have loop : ∀ (m k : Nat) (f : Nat → Int32) (S : List Int32), k + m = T.2.2.length → Pl f S → S.length ≤ k → hgt (T.2.2.drop k) S.length = some 1 → evL (fun v => σ 33 v.toNatClampNeg) (T.2.2.drop k) S = evL (fun v => σ 33 v.toNatClampNeg) T.2.2 [] → RR X G 6 4 (ll [(0, rf G 109), (1, .int (nI t)), (2, .int (nI S.length)), (3, .int (nI k))]) [] (sr σ 34 f) := by
    have hlen := ho.2.2.1
    intro m
    induction m with
    | zero =>
      intro k f S hk hP hS hh he
      refine r_iload_n (i := 0) hX dX8_worked_4 rfl (RR.pc (b := 5) rfl ?_)
      refine r_aload_n hX dX8_worked_5 rfl ⟨_, rfl⟩ (RR.pc (b := 6) rfl ?_)
      refine r_getr hX dX8_worked_6 fl_X8_7 (by first | rfl | assumption) rfl (RR.pc (b := 9) rfl ?_)
      refine r_aload_n hX dX8_worked_9 rfl ⟨_, rfl⟩ (RR.pc (b := 10) rfl ?_)
      refine r_iload_n (i := 0) hX dX8_worked_10 rfl (RR.pc (b := 11) rfl ?_)
      refine r_callVie hX dX8_worked_11 ml_X8_267 cd_X8_textAt iv_X8_textAt (c_X8_textAt (t := t)) (by decide) (by first | rfl | assumption) rfl rfl rfl rfl (Nat.le_of_ble_eq_true rfl) (RR.pc (b := 14) rfl ?_)
      refine r_iconst (v := 2) hX dX8_worked_14 (by decide) (RR.pc (b := 15) rfl ?_)
      refine r_iadd hX dX8_worked_15 (RR.pc (b := 16) rfl ?_)
      refine r_iald hX dX8_worked_16 (by first | rfl | assumption) (j := 171 + 200 * t + 2) (by show nI _ + nI 2 = _; rw [nI_add]) (by omega) (by decide) (by first | exact Nat.zero_add _ | rfl) (RR.pc (b := 17) rfl ?_)
      rw [sr_ne (by decide), hT.2.2.1]
      refine r_icmp_ge (tgt := 163) hX dX8_worked_17 rfl (fun h17 => ?_) (fun h17 => absurd (nI_le (by omega) (by omega)) h17)
      refine r_aload_n hX dX8_worked_163 rfl ⟨_, rfl⟩ (RR.pc (b := 164) rfl ?_)
      refine r_getr hX dX8_worked_164 fl_X8_52 (by first | rfl | assumption) rfl (RR.pc (b := 167) rfl ?_)
      refine r_iconst (v := 0) hX dX8_worked_167 (by decide) (RR.pc (b := 168) rfl ?_)
      refine r_iald hX dX8_worked_168 (by first | rfl | assumption) (by first | rfl | assumption) (by first | decide | assumption | omega) (by decide) (by first | exact Nat.zero_add _ | rfl) (RR.pc (b := 169) rfl ?_)
      rw [sr_eq]
      exact r_iret hX hZ dX8_worked_169 ⟨_, rfl, ⟨ev_end (by omega) hP hh he, same.rf.sr (by simp)⟩⟩
    | succ m ih =>
      intro k f S hk hP hS hh he
      exact wk_step hX h14 hT ho k f S (by omega) hP hS hh he (fun f S a b c d => ih (k + 1) f S (by omega) a b c d)
  refine r_iconst (v := 0) hX dX8_worked_0 (by decide) (RR.pc (b := 1) rfl ?_)
  refine r_istore_n hX dX8_worked_1 (by decide) (RR.pc (b := 2) rfl ?_)
  refine r_iconst (v := 0) hX dX8_worked_2 (by decide) (RR.pc (b := 3) rfl ?_)
  refine r_istore_n hX dX8_worked_3 (by decide) (RR.pc (b := 4) rfl ?_)
  exact RR.cut (RR.eqs (sr_self (r := 34)).symm (loop T.2.2.length 0 (σ 34) [] (by omega) Pl.nil (by simp) (by simpa using ho.2.1) (by simp))) (List.forall_mem_cons.mpr ⟨rfl, List.forall_mem_cons.mpr ⟨rfl, List.forall_mem_cons.mpr ⟨rfl, List.forall_mem_cons.mpr ⟨rfl, fun _ h => absurd h List.not_mem_nil⟩⟩⟩⟩)
