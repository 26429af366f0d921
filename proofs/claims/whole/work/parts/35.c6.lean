/-! the class: mules, yards, minutes -/
theorem layM0 {i : Nat} (hi : i < 8) : lay (38 + i) = lyM 0 (131 + 5 * i) := layM (w := 0) (by decide) hi
theorem layM2 {i : Nat} (hi : i < 8) : lay (66 + i) = lyM 2 (131 + 5 * i) := layM (w := 2) (by decide) hi
set_option maxHeartbeats 4000000 in
set_option maxRecDepth 100000 in
theorem c_X7_isMule {G : GM} {σ : SG} {k : Int32} {n : Nat} (hN : σ 0 0 = nI n) (h8 : n ≤ 8) : CI G yX7_isMule cX7_isMule 2 (some .boolean) 1 [rf G 0, .int k] σ (fun r s => r = bz (0 ≤ k.toInt ∧ k.toInt < n) ∧ s = σ) := by
  refine Con.of cd_X7_isMule (Nat.le_of_ble_eq_true rfl) ?_
  intro X hX hZ
  have hX : Fx X G RX7 cX7_isMule 2 1 := hX
  show RR X G 2 0 (ll [(0, rf G 0), (1, .int k)]) [] σ
  refine r_iload_n (i := 0) hX dX7_isMule_0 rfl (RR.pc (b := 1) rfl ?_)
  refine r_iconst (v := 0) hX dX7_isMule_1 (by decide) (RR.pc (b := 2) rfl ?_)
  refine r_aload_n hX dX7_isMule_2 rfl ⟨_, rfl⟩ (RR.pc (b := 3) rfl ?_)
  refine r_getr hX dX7_isMule_3 fl_X7_39 (by first | rfl | assumption) rfl (RR.pc (b := 6) rfl ?_)
  refine r_geti hX dX7_isMule_6 fl_X7_76 (by first | rfl | assumption) rfl (RR.pc (b := 9) rfl ?_)
  refine r_iconst (v := 1) hX dX7_isMule_9 (by decide) (RR.pc (b := 10) rfl ?_)
  refine r_isub hX dX7_isMule_10 (RR.pc (b := 11) rfl ?_)
  refine r_callSie hX dX7_isMule_11 ml_X7_71 cd_X7_within st_X7_within c_X7_within (by decide) rfl rfl (Nat.le_of_ble_eq_true rfl) (RR.pc (b := 14) rfl ?_)
  exact r_zret hX hZ dX7_isMule_14 (by first | rfl | exact nar_bz _) ⟨_, rfl, ⟨bz_congr (by rw [hN, sub1_toInt (by omega)]; simp only [Int32.reduceToInt]; omega), rfl⟩⟩
set_option maxHeartbeats 4000000 in
set_option maxRecDepth 100000 in
theorem c_X7_mule {G : GM} {σ : SG} {n : Nat} {kind pace grain hole : Int32} (hN : σ 0 0 = nI n) (h8 : n ≤ 8) : CI G yX7_mule cX7_mule 5 (some .int) 2 [rf G 0, .int kind, .int pace, .int grain, .int hole] σ (fun r s => r = (muleF (σ 0) n kind pace grain hole).1 ∧ s = sr σ 0 (muleF (σ 0) n kind pace grain hole).2) := by
  refine Con.of cd_X7_mule (Nat.le_of_ble_eq_true rfl) ?_
  intro X hX hZ
  have hX : Fx X G RX7 cX7_mule 5 2 := hX
  show RR X G 5 0 (ll [(0, rf G 0), (1, .int kind), (2, .int pace), (3, .int grain), (4, .int hole)]) [] σ
  refine r_iload_n (i := 0) hX dX7_mule_0 rfl (RR.pc (b := 1) rfl ?_)
  refine r_callSie hX dX7_mule_1 ml_X7_67 cd_X7_isKind st_X7_isKind c_X7_isKind (by decide) rfl rfl (Nat.le_of_ble_eq_true rfl) (RR.pc (b := 4) rfl ?_)
  refine r_if_eq_b (tgt := 17) hX dX7_mule_4 rfl (fun h4 => ?_) (fun h4 => RR.pc (b := 7) rfl ?_)
  · refine r_ldc hX dX7_mule_17 kc_X7_75 (RR.pc (b := 19) rfl ?_)
    exact r_iret hX hZ dX7_mule_19 ⟨_, rfl, by clear hZ hX; unfold muleF; (repeat' split) <;> first | exact ⟨rfl, sr_self.symm⟩ | exact ⟨by rw [addM_0]; exact nI_pred n, rfl⟩ | (exfalso; omega)⟩
  · refine r_iload_n (i := 0) hX dX7_mule_7 rfl (RR.pc (b := 8) rfl ?_)
    refine r_iconst (v := 0) hX dX7_mule_8 (by decide) (RR.pc (b := 9) rfl ?_)
    refine r_bipush (v := 9) hX dX7_mule_9 (by decide) (RR.pc (b := 11) rfl ?_)
    refine r_callSie hX dX7_mule_11 ml_X7_71 cd_X7_within st_X7_within c_X7_within (by decide) rfl rfl (Nat.le_of_ble_eq_true rfl) (RR.pc (b := 14) rfl ?_)
    refine r_if_ne_b (tgt := 20) hX dX7_mule_14 rfl (fun h14 => ?_) (fun h14 => RR.pc (b := 17) rfl ?_)
    · try simp only [Int32.reduceToInt] at h14
      refine r_iload_n (i := 0) hX dX7_mule_20 rfl (RR.pc (b := 21) rfl ?_)
      refine r_iconst (v := 0) hX dX7_mule_21 (by decide) (RR.pc (b := 22) rfl ?_)
      refine r_sipush (v := 9999) hX dX7_mule_22 (by decide) (RR.pc (b := 25) rfl ?_)
      refine r_callSie hX dX7_mule_25 ml_X7_71 cd_X7_within st_X7_within c_X7_within (by decide) rfl rfl (Nat.le_of_ble_eq_true rfl) (RR.pc (b := 28) rfl ?_)
      refine r_if_eq_b (tgt := 42) hX dX7_mule_28 rfl (fun h28 => ?_) (fun h28 => RR.pc (b := 31) rfl ?_)
      · try simp only [Int32.reduceToInt] at h28
        refine r_ldc hX dX7_mule_42 kc_X7_75 (RR.pc (b := 44) rfl ?_)
        exact r_iret hX hZ dX7_mule_44 ⟨_, rfl, by clear hZ hX; unfold muleF; (repeat' split) <;> first | exact ⟨rfl, sr_self.symm⟩ | exact ⟨by rw [addM_0]; exact nI_pred n, rfl⟩ | (exfalso; omega)⟩
      · try simp only [Int32.reduceToInt] at h28
        refine r_iload hX dX7_mule_31 rfl (RR.pc (b := 33) rfl ?_)
        refine r_iconst (v := 0) hX dX7_mule_33 (by decide) (RR.pc (b := 34) rfl ?_)
        refine r_bipush (v := 50) hX dX7_mule_34 (by decide) (RR.pc (b := 36) rfl ?_)
        refine r_callSie hX dX7_mule_36 ml_X7_71 cd_X7_within st_X7_within c_X7_within (by decide) rfl rfl (Nat.le_of_ble_eq_true rfl) (RR.pc (b := 39) rfl ?_)
        refine r_if_ne_b (tgt := 45) hX dX7_mule_39 rfl (fun h39 => ?_) (fun h39 => RR.pc (b := 42) rfl ?_)
        · try simp only [Int32.reduceToInt] at h39
          refine r_aload_n hX dX7_mule_45 rfl ⟨_, rfl⟩ (RR.pc (b := 46) rfl ?_)
          refine r_getr hX dX7_mule_46 fl_X7_39 (by first | rfl | assumption) rfl (RR.pc (b := 49) rfl ?_)
          refine r_geti hX dX7_mule_49 fl_X7_76 (by first | rfl | assumption) rfl (RR.pc (b := 52) rfl ?_)
          rw [hN]
          refine r_bipush (v := 8) hX dX7_mule_52 (by decide) (RR.pc (b := 54) rfl ?_)
          refine r_icmp_lt (tgt := 60) hX dX7_mule_54 rfl (fun h54 => ?_) (fun h54 => RR.pc (b := 57) rfl ?_)
          · have hn : n < 8 := by rw [show (8 : Int32) = nI 8 from rfl, nI_ltI (by omega) (by omega)] at h54; omega
            refine r_aload_n hX dX7_mule_60 rfl ⟨_, rfl⟩ (RR.pc (b := 61) rfl ?_)
            refine r_getr hX dX7_mule_61 fl_X7_39 (by first | rfl | assumption) rfl (RR.pc (b := 64) rfl ?_)
            refine r_iload_n (i := 0) hX dX7_mule_64 rfl (RR.pc (b := 65) rfl ?_)
            refine r_iload_n (i := 0) hX dX7_mule_65 rfl (RR.pc (b := 66) rfl ?_)
            refine r_iload_n (i := 0) hX dX7_mule_66 rfl (RR.pc (b := 67) rfl ?_)
            refine r_iload hX dX7_mule_67 rfl (RR.pc (b := 69) rfl ?_)
            refine r_callVve hX dX7_mule_69 ml_X7_81 cd_X6_addMule iv_X6_addMule (c_X6_addMule (w := 0) (by decide) hN hn) (by decide) (by first | rfl | assumption) rfl rfl rfl rfl (Nat.le_of_ble_eq_true rfl) (RR.pc (b := 72) rfl ?_)
            refine r_aload_n hX dX7_mule_72 rfl ⟨_, rfl⟩ (RR.pc (b := 73) rfl ?_)
            refine r_getr hX dX7_mule_73 fl_X7_39 (by first | rfl | assumption) rfl (RR.pc (b := 76) rfl ?_)
            refine r_geti hX dX7_mule_76 fl_X7_76 (by first | rfl | assumption) rfl (RR.pc (b := 79) rfl ?_)
            rw [sr_eq]
            refine r_iconst (v := 1) hX dX7_mule_79 (by decide) (RR.pc (b := 80) rfl ?_)
            refine r_isub hX dX7_mule_80 (RR.pc (b := 81) rfl ?_)
            exact r_iret hX hZ dX7_mule_81 ⟨_, rfl, by clear hZ hX; unfold muleF; (repeat' split) <;> first | exact ⟨rfl, sr_self.symm⟩ | exact ⟨by rw [addM_0]; exact nI_pred n, rfl⟩ | (exfalso; omega)⟩
          · have hn : n = 8 := by rw [show (8 : Int32) = nI 8 from rfl, nI_ltI (by omega) (by omega)] at h54; omega
            refine r_ldc hX dX7_mule_57 kc_X7_80 (RR.pc (b := 59) rfl ?_)
            exact r_iret hX hZ dX7_mule_59 ⟨_, rfl, by clear hZ hX; unfold muleF; (repeat' split) <;> first | exact ⟨rfl, sr_self.symm⟩ | exact ⟨by rw [addM_0]; exact nI_pred n, rfl⟩ | (exfalso; omega)⟩
        · try simp only [Int32.reduceToInt] at h39
          refine r_ldc hX dX7_mule_42 kc_X7_75 (RR.pc (b := 44) rfl ?_)
          exact r_iret hX hZ dX7_mule_44 ⟨_, rfl, by clear hZ hX; unfold muleF; (repeat' split) <;> first | exact ⟨rfl, sr_self.symm⟩ | exact ⟨by rw [addM_0]; exact nI_pred n, rfl⟩ | (exfalso; omega)⟩
    · try simp only [Int32.reduceToInt] at h14
      refine r_ldc hX dX7_mule_17 kc_X7_75 (RR.pc (b := 19) rfl ?_)
      exact r_iret hX hZ dX7_mule_19 ⟨_, rfl, by clear hZ hX; unfold muleF; (repeat' split) <;> first | exact ⟨rfl, sr_self.symm⟩ | exact ⟨by rw [addM_0]; exact nI_pred n, rfl⟩ | (exfalso; omega)⟩
set_option maxHeartbeats 4000000 in
set_option maxRecDepth 100000 in
theorem c_X7_told {G : GM} {σ : SG} {Ts : Nat → Tx} {nt n m : Nat} {k what : Int32} (hW : WO (σ 0) n m) (hT : CT (σ 3) (σ 0) Ts nt) : CI G yX7_told cX7_told 4 (some .int) 4 [rf G 0, .int k, .int what] σ (fun r s => r = toldF (lkV Ts nt) (σ 0) n k what ∧ same [4] σ s) := by
  refine Con.of cd_X7_told (Nat.le_of_ble_eq_true rfl) ?_
  intro X hX hZ
  have hX : Fx X G RX7 cX7_told 4 4 := hX
  show RR X G 4 0 (ll [(0, rf G 0), (1, .int k), (2, .int what)]) [] σ
  have hN := hW.1
  have h8 := hW.2.1
  refine r_aload_n hX dX7_told_0 rfl ⟨_, rfl⟩ (RR.pc (b := 1) rfl ?_)
  refine r_iload_n (i := 0) hX dX7_told_1 rfl (RR.pc (b := 2) rfl ?_)
  refine r_callVie hX dX7_told_2 ml_X7_85 cd_X7_isMule iv_X7_isMule (c_X7_isMule hN h8) (by decide) (by first | rfl | assumption) rfl rfl rfl rfl (Nat.le_of_ble_eq_true rfl) (RR.pc (b := 5) rfl ?_)
  refine r_if_ne_b (tgt := 11) hX dX7_told_5 rfl (fun h5 => ?_) (fun h5 => RR.pc (b := 8) rfl ?_)
  · obtain ⟨a, ha, rfl⟩ := ix_of h5 (by omega)
    have lm := layM0 (i := a) (by omega)
    obtain ⟨p, hp, ep⟩ := (hW.2.2.1 a ha).2.1
    refine r_aload_n hX dX7_told_11 rfl ⟨_, rfl⟩ (RR.pc (b := 12) rfl ?_)
    refine r_getr hX dX7_told_12 fl_X7_39 (by first | rfl | assumption) rfl (RR.pc (b := 15) rfl ?_)
    refine r_getr hX dX7_told_15 fl_X7_88 (by first | rfl | assumption) rfl (RR.pc (b := 18) rfl ?_)
    refine r_iload_n (i := 0) hX dX7_told_18 rfl (RR.pc (b := 19) rfl ?_)
    refine r_aald hX dX7_told_19 (by first | rfl | assumption) ⟨_, rfl⟩ rfl (by omega) (by decide) (RR.pc (b := 20) rfl ?_)
    refine r_astore_n hX dX7_told_20 (by decide) ⟨_, rfl⟩ (RR.pc (b := 21) rfl ?_)
    refine r_iload_n (i := 0) hX dX7_told_21 rfl (RR.pc (b := 22) rfl ?_)
    by_cases h22_0 : what = 0
    · refine r_tableIn (tgt := 68) hX dX7_told_22 (by rw [h22_0]; decide) (by rw [h22_0]; decide) (by rw [h22_0]; rfl) rfl ?_
      refine r_aload_n hX dX7_told_68 rfl ⟨_, rfl⟩ (RR.pc (b := 69) rfl ?_)
      refine r_geti hX dX7_told_69 fl_X7_92 (by first | rfl | assumption) rfl (RR.pc (b := 72) rfl ?_)
      exact r_iret hX hZ dX7_told_72 ⟨_, rfl, ⟨by unfold toldF; first | (rw [ix_none h5]) | (rw [ix_some ha (by omega)]; simp_all), by first | assumption | exact same.rf⟩⟩
    by_cases h22_1 : what = 1
    · refine r_tableIn (tgt := 73) hX dX7_told_22 (by rw [h22_1]; decide) (by rw [h22_1]; decide) (by rw [h22_1]; rfl) rfl ?_
      refine r_aload_n hX dX7_told_73 rfl ⟨_, rfl⟩ (RR.pc (b := 74) rfl ?_)
      refine r_geti hX dX7_told_74 fl_X7_97 (by first | rfl | assumption) rfl (RR.pc (b := 77) rfl ?_)
      exact r_iret hX hZ dX7_told_77 ⟨_, rfl, ⟨by unfold toldF; first | (rw [ix_none h5]) | (rw [ix_some ha (by omega)]; simp_all), by first | assumption | exact same.rf⟩⟩
    by_cases h22_2 : what = 2
    · refine r_tableIn (tgt := 78) hX dX7_told_22 (by rw [h22_2]; decide) (by rw [h22_2]; decide) (by rw [h22_2]; rfl) rfl ?_
      refine r_aload_n hX dX7_told_78 rfl ⟨_, rfl⟩ (RR.pc (b := 79) rfl ?_)
      refine r_geti hX dX7_told_79 fl_X7_100 (by first | rfl | assumption) rfl (RR.pc (b := 82) rfl ?_)
      exact r_iret hX hZ dX7_told_82 ⟨_, rfl, ⟨by unfold toldF; first | (rw [ix_none h5]) | (rw [ix_some ha (by omega)]; simp_all), by first | assumption | exact same.rf⟩⟩
    by_cases h22_3 : what = 3
    · refine r_tableIn (tgt := 83) hX dX7_told_22 (by rw [h22_3]; decide) (by rw [h22_3]; decide) (by rw [h22_3]; rfl) rfl ?_
      refine r_aload_n hX dX7_told_83 rfl ⟨_, rfl⟩ (RR.pc (b := 84) rfl ?_)
      refine r_geti hX dX7_told_84 fl_X7_103 (by first | rfl | assumption) rfl (RR.pc (b := 87) rfl ?_)
      exact r_iret hX hZ dX7_told_87 ⟨_, rfl, ⟨by unfold toldF; first | (rw [ix_none h5]) | (rw [ix_some ha (by omega)]; simp_all), by first | assumption | exact same.rf⟩⟩
    by_cases h22_4 : what = 4
    · refine r_tableIn (tgt := 88) hX dX7_told_22 (by rw [h22_4]; decide) (by rw [h22_4]; decide) (by rw [h22_4]; rfl) rfl ?_
      refine r_aload_n hX dX7_told_88 rfl ⟨_, rfl⟩ (RR.pc (b := 89) rfl ?_)
      refine r_geti hX dX7_told_89 fl_X7_106 (by first | rfl | assumption) rfl (RR.pc (b := 92) rfl ?_)
      exact r_iret hX hZ dX7_told_92 ⟨_, rfl, ⟨by unfold toldF; first | (rw [ix_none h5]) | (rw [ix_some ha (by omega)]; simp_all), by first | assumption | exact same.rf⟩⟩
    by_cases h22_5 : what = 5
    · refine r_tableIn (tgt := 93) hX dX7_told_22 (by rw [h22_5]; decide) (by rw [h22_5]; decide) (by rw [h22_5]; rfl) rfl ?_
      refine r_aload_n hX dX7_told_93 rfl ⟨_, rfl⟩ (RR.pc (b := 94) rfl ?_)
      refine r_getr hX dX7_told_94 fl_X7_39 (by first | rfl | assumption) rfl (RR.pc (b := 97) rfl ?_)
      refine r_aload_n hX dX7_told_97 rfl ⟨_, rfl⟩ (RR.pc (b := 98) rfl ?_)
      refine r_callVi hX dX7_told_98 ml_X7_109 cd_X6_leaksOf iv_X6_leaksOf (c_X6_leaksOf (w := 0) (i := a) (by decide) (by omega) hT (hW.2.2.1 a ha)) (by decide) (by first | rfl | assumption) rfl rfl rfl rfl (Nat.le_of_ble_eq_true rfl) (fun r_98 s_98 e_98 => RR.pc (b := 101) rfl ?_)
      obtain ⟨rfl, hs⟩ := e_98
      exact r_iret hX hZ dX7_told_101 ⟨_, rfl, ⟨by unfold toldF; first | (rw [ix_none h5]) | (rw [ix_some ha (by omega)]; simp_all), by first | assumption | exact same.rf⟩⟩
    by_cases h22_6 : what = 6
    · refine r_tableIn (tgt := 102) hX dX7_told_22 (by rw [h22_6]; decide) (by rw [h22_6]; decide) (by rw [h22_6]; rfl) rfl ?_
      refine r_aload_n hX dX7_told_102 rfl ⟨_, rfl⟩ (RR.pc (b := 103) rfl ?_)
      refine r_callVie hX dX7_told_103 ml_X7_113 cd_X0_goes iv_X0_goes (c_X0_goes lm hp ep) (by decide) (by first | rfl | assumption) rfl rfl rfl rfl (Nat.le_of_ble_eq_true rfl) (RR.pc (b := 106) rfl ?_)
      exact r_iret hX hZ dX7_told_106 ⟨_, rfl, ⟨by unfold toldF; first | (rw [ix_none h5]) | (rw [ix_some ha (by omega)]; simp_all), by first | assumption | exact same.rf⟩⟩
    by_cases h22_7 : what = 7
    · refine r_tableIn (tgt := 107) hX dX7_told_22 (by rw [h22_7]; decide) (by rw [h22_7]; decide) (by rw [h22_7]; rfl) rfl ?_
      refine r_aload_n hX dX7_told_107 rfl ⟨_, rfl⟩ (RR.pc (b := 108) rfl ?_)
      refine r_callVie hX dX7_told_108 ml_X7_117 cd_X0_worth iv_X0_worth (c_X0_worth lm) (by decide) (by first | rfl | assumption) rfl rfl rfl rfl (Nat.le_of_ble_eq_true rfl) (RR.pc (b := 111) rfl ?_)
      exact r_iret hX hZ dX7_told_111 ⟨_, rfl, ⟨by unfold toldF; first | (rw [ix_none h5]) | (rw [ix_some ha (by omega)]; simp_all), by first | assumption | exact same.rf⟩⟩
    refine r_tableOut (tgt := 112) hX dX7_told_22 (by have n0 : (what).toInt ≠ 0 := ne_toInt h22_0; have n1 : (what).toInt ≠ 1 := ne_toInt h22_1; have n2 : (what).toInt ≠ 2 := ne_toInt h22_2; have n3 : (what).toInt ≠ 3 := ne_toInt h22_3; have n4 : (what).toInt ≠ 4 := ne_toInt h22_4; have n5 : (what).toInt ≠ 5 := ne_toInt h22_5; have n6 : (what).toInt ≠ 6 := ne_toInt h22_6; have n7 : (what).toInt ≠ 7 := ne_toInt h22_7; omega) rfl ?_
    refine r_ldc hX dX7_told_112 kc_X7_75 (RR.pc (b := 114) rfl ?_)
    exact r_iret hX hZ dX7_told_114 ⟨_, rfl, ⟨by unfold toldF; first | (rw [ix_none h5]) | (rw [ix_some ha (by omega)]; simp_all), by first | assumption | exact same.rf⟩⟩
  · refine r_ldc hX dX7_told_8 kc_X7_75 (RR.pc (b := 10) rfl ?_)
    exact r_iret hX hZ dX7_told_10 ⟨_, rfl, ⟨by unfold toldF; first | (rw [ix_none h5]) | (rw [ix_some ha (by omega)]; simp_all), by first | assumption | exact same.rf⟩⟩
theorem upd_self {f : Nat → Int32} {k : Nat} : upd f k (f k) = f := by
  funext i
  unfold upd
  split
  · next e => rw [e]
  · rfl
set_option maxHeartbeats 4000000 in
set_option maxRecDepth 100000 in
theorem c_X7_turns {G : GM} {σ : SG} {n : Nat} {k kind : Int32} (hN : σ 0 0 = nI n) (h8 : n ≤ 8) : CI G yX7_turns cX7_turns 4 (some .int) 2 [rf G 0, .int k, .int kind] σ (fun r s => r = (turnsF (σ 0) n k kind).1 ∧ s = sr σ 0 (turnsF (σ 0) n k kind).2) := by
  refine Con.of cd_X7_turns (Nat.le_of_ble_eq_true rfl) ?_
  intro X hX hZ
  have hX : Fx X G RX7 cX7_turns 4 2 := hX
  show RR X G 4 0 (ll [(0, rf G 0), (1, .int k), (2, .int kind)]) [] σ
  refine r_aload_n hX dX7_turns_0 rfl ⟨_, rfl⟩ (RR.pc (b := 1) rfl ?_)
  refine r_iload_n (i := 0) hX dX7_turns_1 rfl (RR.pc (b := 2) rfl ?_)
  refine r_callVie hX dX7_turns_2 ml_X7_85 cd_X7_isMule iv_X7_isMule (c_X7_isMule hN h8) (by decide) (by first | rfl | assumption) rfl rfl rfl rfl (Nat.le_of_ble_eq_true rfl) (RR.pc (b := 5) rfl ?_)
  refine r_if_eq_b (tgt := 15) hX dX7_turns_5 rfl (fun h5 => ?_) (fun h5 => RR.pc (b := 8) rfl ?_)
  · refine r_ldc hX dX7_turns_15 kc_X7_75 (RR.pc (b := 17) rfl ?_)
    exact r_iret hX hZ dX7_turns_17 ⟨_, rfl, by unfold turnsF; first | (rw [ix_none h5]; exact ⟨rfl, sr_self.symm⟩) | (rw [ix_some ha (by omega)]; dsimp only; first | (rw [if_pos h12]; exact ⟨rfl, rfl⟩) | (rw [if_neg h12]; exact ⟨rfl, sr_self.symm⟩))⟩
  · obtain ⟨a, ha, rfl⟩ := ix_of h5 (by omega)
    have lm := layM0 (i := a) (by omega)
    refine r_iload_n (i := 0) hX dX7_turns_8 rfl (RR.pc (b := 9) rfl ?_)
    refine r_callSie hX dX7_turns_9 ml_X7_67 cd_X7_isKind st_X7_isKind c_X7_isKind (by decide) rfl rfl (Nat.le_of_ble_eq_true rfl) (RR.pc (b := 12) rfl ?_)
    refine r_if_ne_b (tgt := 18) hX dX7_turns_12 rfl (fun h12 => ?_) (fun h12 => RR.pc (b := 15) rfl ?_)
    · refine r_aload_n hX dX7_turns_18 rfl ⟨_, rfl⟩ (RR.pc (b := 19) rfl ?_)
      refine r_getr hX dX7_turns_19 fl_X7_39 (by first | rfl | assumption) rfl (RR.pc (b := 22) rfl ?_)
      refine r_getr hX dX7_turns_22 fl_X7_88 (by first | rfl | assumption) rfl (RR.pc (b := 25) rfl ?_)
      refine r_iload_n (i := 0) hX dX7_turns_25 rfl (RR.pc (b := 26) rfl ?_)
      refine r_aald hX dX7_turns_26 (by first | rfl | assumption) ⟨_, rfl⟩ rfl (by omega) (by decide) (RR.pc (b := 27) rfl ?_)
      refine r_geti hX dX7_turns_27 fl_X7_92 (by first | rfl | assumption) rfl (RR.pc (b := 30) rfl ?_)
      refine r_istore_n hX dX7_turns_30 (by decide) (RR.pc (b := 31) rfl ?_)
      refine r_aload_n hX dX7_turns_31 rfl ⟨_, rfl⟩ (RR.pc (b := 32) rfl ?_)
      refine r_getr hX dX7_turns_32 fl_X7_39 (by first | rfl | assumption) rfl (RR.pc (b := 35) rfl ?_)
      refine r_getr hX dX7_turns_35 fl_X7_88 (by first | rfl | assumption) rfl (RR.pc (b := 38) rfl ?_)
      refine r_iload_n (i := 0) hX dX7_turns_38 rfl (RR.pc (b := 39) rfl ?_)
      refine r_aald hX dX7_turns_39 (by first | rfl | assumption) ⟨_, rfl⟩ rfl (by omega) (by decide) (RR.pc (b := 40) rfl ?_)
      refine r_iload_n (i := 0) hX dX7_turns_40 rfl (RR.pc (b := 41) rfl ?_)
      refine r_puti hX dX7_turns_41 fl_X7_92 (by first | rfl | assumption) rfl ft_0_0 (RR.pc (b := 44) rfl ?_)
      refine r_iload_n (i := 0) hX dX7_turns_44 rfl (RR.pc (b := 45) rfl ?_)
      exact r_iret hX hZ dX7_turns_45 ⟨_, rfl, by unfold turnsF; first | (rw [ix_none h5]; exact ⟨rfl, sr_self.symm⟩) | (rw [ix_some ha (by omega)]; dsimp only; first | (rw [if_pos h12]; exact ⟨rfl, rfl⟩) | (rw [if_neg h12]; exact ⟨rfl, sr_self.symm⟩))⟩
    · refine r_ldc hX dX7_turns_15 kc_X7_75 (RR.pc (b := 17) rfl ?_)
      exact r_iret hX hZ dX7_turns_17 ⟨_, rfl, by unfold turnsF; first | (rw [ix_none h5]; exact ⟨rfl, sr_self.symm⟩) | (rw [ix_some ha (by omega)]; dsimp only; first | (rw [if_pos h12]; exact ⟨rfl, rfl⟩) | (rw [if_neg h12]; exact ⟨rfl, sr_self.symm⟩))⟩
def fitP (what v : Int32) : Prop := (what = 1 ∧ (0 ≤ v.toInt ∧ v.toInt ≤ 9)) ∨ (what = 2 ∧ (0 ≤ v.toInt ∧ v.toInt ≤ 59)) ∨ (what = 3 ∧ (0 ≤ v.toInt ∧ v.toInt ≤ 9999)) ∨ (what = 4 ∧ (0 ≤ v.toInt ∧ v.toInt ≤ 50))
set_option maxHeartbeats 4000000 in
set_option maxRecDepth 100000 in
theorem c_X7_fits {G : GM} {σ : SG} {what v : Int32} : CI G yX7_fits cX7_fits 2 (some .boolean) 2 [.int what, .int v] σ (fun r s => (r = 0 ∨ r = 1) ∧ (r = 0 ↔ ¬ fitP what v) ∧ s = σ) := by
  refine Con.of cd_X7_fits (Nat.le_of_ble_eq_true rfl) ?_
  intro X hX hZ
  have hX : Fx X G RX7 cX7_fits 2 2 := hX
  show RR X G 2 0 (ll [(0, .int what), (1, .int v)]) [] σ
  refine r_iload_n (i := 0) hX dX7_fits_0 rfl (RR.pc (b := 1) rfl ?_)
  by_cases h1_1 : what = 1
  · refine r_tableIn (tgt := 32) hX dX7_fits_1 (by rw [h1_1]; decide) (by rw [h1_1]; decide) (by rw [h1_1]; rfl) rfl ?_
    refine r_iload_n (i := 0) hX dX7_fits_32 rfl (RR.pc (b := 33) rfl ?_)
    refine r_iconst (v := 0) hX dX7_fits_33 (by decide) (RR.pc (b := 34) rfl ?_)
    refine r_bipush (v := 9) hX dX7_fits_34 (by decide) (RR.pc (b := 36) rfl ?_)
    refine r_callSie hX dX7_fits_36 ml_X7_71 cd_X7_within st_X7_within c_X7_within (by decide) rfl rfl (Nat.le_of_ble_eq_true rfl) (RR.pc (b := 39) rfl ?_)
    exact r_zret hX hZ dX7_fits_39 (by first | rfl | exact nar_bz _) ⟨_, rfl, ⟨by first | exact Or.inl rfl | (unfold bz; split; exact Or.inr rfl; exact Or.inl rfl), by unfold fitP; first | (rw [bz_0]; (try simp only [Int32.reduceToInt]); subst_vars; constructor <;> (intro h; simpa using h)) | (constructor; (intro _; rintro (⟨e, _⟩ | ⟨e, _⟩ | ⟨e, _⟩ | ⟨e, _⟩) <;> contradiction); (intro _; rfl)), rfl⟩⟩
  by_cases h1_2 : what = 2
  · refine r_tableIn (tgt := 40) hX dX7_fits_1 (by rw [h1_2]; decide) (by rw [h1_2]; decide) (by rw [h1_2]; rfl) rfl ?_
    refine r_iload_n (i := 0) hX dX7_fits_40 rfl (RR.pc (b := 41) rfl ?_)
    refine r_callSie hX dX7_fits_41 ml_X7_137 cd_X7_isYard st_X7_isYard c_X7_isYard (by decide) rfl rfl (Nat.le_of_ble_eq_true rfl) (RR.pc (b := 44) rfl ?_)
    exact r_zret hX hZ dX7_fits_44 (by first | rfl | exact nar_bz _) ⟨_, rfl, ⟨by first | exact Or.inl rfl | (unfold bz; split; exact Or.inr rfl; exact Or.inl rfl), by unfold fitP; first | (rw [bz_0]; (try simp only [Int32.reduceToInt]); subst_vars; constructor <;> (intro h; simpa using h)) | (constructor; (intro _; rintro (⟨e, _⟩ | ⟨e, _⟩ | ⟨e, _⟩ | ⟨e, _⟩) <;> contradiction); (intro _; rfl)), rfl⟩⟩
  by_cases h1_3 : what = 3
  · refine r_tableIn (tgt := 45) hX dX7_fits_1 (by rw [h1_3]; decide) (by rw [h1_3]; decide) (by rw [h1_3]; rfl) rfl ?_
    refine r_iload_n (i := 0) hX dX7_fits_45 rfl (RR.pc (b := 46) rfl ?_)
    refine r_iconst (v := 0) hX dX7_fits_46 (by decide) (RR.pc (b := 47) rfl ?_)
    refine r_sipush (v := 9999) hX dX7_fits_47 (by decide) (RR.pc (b := 50) rfl ?_)
    refine r_callSie hX dX7_fits_50 ml_X7_71 cd_X7_within st_X7_within c_X7_within (by decide) rfl rfl (Nat.le_of_ble_eq_true rfl) (RR.pc (b := 53) rfl ?_)
    exact r_zret hX hZ dX7_fits_53 (by first | rfl | exact nar_bz _) ⟨_, rfl, ⟨by first | exact Or.inl rfl | (unfold bz; split; exact Or.inr rfl; exact Or.inl rfl), by unfold fitP; first | (rw [bz_0]; (try simp only [Int32.reduceToInt]); subst_vars; constructor <;> (intro h; simpa using h)) | (constructor; (intro _; rintro (⟨e, _⟩ | ⟨e, _⟩ | ⟨e, _⟩ | ⟨e, _⟩) <;> contradiction); (intro _; rfl)), rfl⟩⟩
  by_cases h1_4 : what = 4
  · refine r_tableIn (tgt := 54) hX dX7_fits_1 (by rw [h1_4]; decide) (by rw [h1_4]; decide) (by rw [h1_4]; rfl) rfl ?_
    refine r_iload_n (i := 0) hX dX7_fits_54 rfl (RR.pc (b := 55) rfl ?_)
    refine r_iconst (v := 0) hX dX7_fits_55 (by decide) (RR.pc (b := 56) rfl ?_)
    refine r_bipush (v := 50) hX dX7_fits_56 (by decide) (RR.pc (b := 58) rfl ?_)
    refine r_callSie hX dX7_fits_58 ml_X7_71 cd_X7_within st_X7_within c_X7_within (by decide) rfl rfl (Nat.le_of_ble_eq_true rfl) (RR.pc (b := 61) rfl ?_)
    exact r_zret hX hZ dX7_fits_61 (by first | rfl | exact nar_bz _) ⟨_, rfl, ⟨by first | exact Or.inl rfl | (unfold bz; split; exact Or.inr rfl; exact Or.inl rfl), by unfold fitP; first | (rw [bz_0]; (try simp only [Int32.reduceToInt]); subst_vars; constructor <;> (intro h; simpa using h)) | (constructor; (intro _; rintro (⟨e, _⟩ | ⟨e, _⟩ | ⟨e, _⟩ | ⟨e, _⟩) <;> contradiction); (intro _; rfl)), rfl⟩⟩
  refine r_tableOut (tgt := 62) hX dX7_fits_1 (by have n0 : (what).toInt ≠ 1 := ne_toInt h1_1; have n1 : (what).toInt ≠ 2 := ne_toInt h1_2; have n2 : (what).toInt ≠ 3 := ne_toInt h1_3; have n3 : (what).toInt ≠ 4 := ne_toInt h1_4; omega) rfl ?_
  refine r_iconst (v := 0) hX dX7_fits_62 (by decide) (RR.pc (b := 63) rfl ?_)
  exact r_zret hX hZ dX7_fits_63 (by first | rfl | exact nar_bz _) ⟨_, rfl, ⟨by first | exact Or.inl rfl | (unfold bz; split; exact Or.inr rfl; exact Or.inl rfl), by unfold fitP; first | (rw [bz_0]; (try simp only [Int32.reduceToInt]); subst_vars; constructor <;> (intro h; simpa using h)) | (constructor; (intro _; rintro (⟨e, _⟩ | ⟨e, _⟩ | ⟨e, _⟩ | ⟨e, _⟩) <;> contradiction); (intro _; rfl)), rfl⟩⟩
set_option maxHeartbeats 4000000 in
set_option maxRecDepth 100000 in
theorem c_X7_yard {G : GM} {σ : SG} {y what : Int32} : CI G yX7_yard cX7_yard 3 (some .int) 2 [rf G 0, .int y, .int what] σ (fun r s => r = yardF (σ 0) y what ∧ s = σ) := by
  refine Con.of cd_X7_yard (Nat.le_of_ble_eq_true rfl) ?_
  intro X hX hZ
  have hX : Fx X G RX7 cX7_yard 3 2 := hX
  show RR X G 3 0 (ll [(0, rf G 0), (1, .int y), (2, .int what)]) [] σ
  refine r_iload_n (i := 0) hX dX7_yard_0 rfl (RR.pc (b := 1) rfl ?_)
  refine r_callSie hX dX7_yard_1 ml_X7_137 cd_X7_isYard st_X7_isYard c_X7_isYard (by decide) rfl rfl (Nat.le_of_ble_eq_true rfl) (RR.pc (b := 4) rfl ?_)
  refine r_if_eq_b (tgt := 16) hX dX7_yard_4 rfl (fun h4 => ?_) (fun h4 => RR.pc (b := 7) rfl ?_)
  · refine r_ldc hX dX7_yard_16 kc_X7_75 (RR.pc (b := 18) rfl ?_)
    exact r_iret hX hZ dX7_yard_18 ⟨_, rfl, ⟨by unfold yardF; first | (rw [ix_none (by omega)]) | (rw [ix_some ha (by omega)]; dsimp only; first | (rw [if_neg (w01n h13).1, if_neg (w01n h13).2]) | (rw [if_pos h20]) | (rw [if_neg h20, if_pos ((w01 h13).resolve_left h20)])), rfl⟩⟩
  · obtain ⟨a, ha, rfl⟩ := ix_of (n := 60) (by omega : 0 ≤ y.toInt ∧ y.toInt < 60) (by omega)
    refine r_iload_n (i := 0) hX dX7_yard_7 rfl (RR.pc (b := 8) rfl ?_)
    refine r_iconst (v := 0) hX dX7_yard_8 (by decide) (RR.pc (b := 9) rfl ?_)
    refine r_iconst (v := 1) hX dX7_yard_9 (by decide) (RR.pc (b := 10) rfl ?_)
    refine r_callSie hX dX7_yard_10 ml_X7_71 cd_X7_within st_X7_within c_X7_within (by decide) rfl rfl (Nat.le_of_ble_eq_true rfl) (RR.pc (b := 13) rfl ?_)
    refine r_if_ne_b (tgt := 19) hX dX7_yard_13 rfl (fun h13 => ?_) (fun h13 => RR.pc (b := 16) rfl ?_)
    · try simp only [Int32.reduceToInt] at h13
      refine r_iload_n (i := 0) hX dX7_yard_19 rfl (RR.pc (b := 20) rfl ?_)
      refine r_if_ne (tgt := 35) hX dX7_yard_20 rfl (fun h20 => ?_) (fun h20 => RR.pc (b := 23) rfl ?_)
      · refine r_aload_n hX dX7_yard_35 rfl ⟨_, rfl⟩ (RR.pc (b := 36) rfl ?_)
        refine r_getr hX dX7_yard_36 fl_X7_39 (by first | rfl | assumption) rfl (RR.pc (b := 39) rfl ?_)
        refine r_getr hX dX7_yard_39 fl_X7_143 (by first | rfl | assumption) rfl (RR.pc (b := 42) rfl ?_)
        refine r_iload_n (i := 0) hX dX7_yard_42 rfl (RR.pc (b := 43) rfl ?_)
        refine r_iald hX dX7_yard_43 (by first | rfl | assumption) rfl (by omega) (by decide) (by first | exact Nat.zero_add _ | rfl) (RR.pc (b := 44) rfl ?_)
        exact r_iret hX hZ dX7_yard_44 ⟨_, rfl, ⟨by unfold yardF; first | (rw [ix_none (by omega)]) | (rw [ix_some ha (by omega)]; dsimp only; first | (rw [if_neg (w01n h13).1, if_neg (w01n h13).2]) | (rw [if_pos h20]) | (rw [if_neg h20, if_pos ((w01 h13).resolve_left h20)])), rfl⟩⟩
      · refine r_aload_n hX dX7_yard_23 rfl ⟨_, rfl⟩ (RR.pc (b := 24) rfl ?_)
        refine r_getr hX dX7_yard_24 fl_X7_39 (by first | rfl | assumption) rfl (RR.pc (b := 27) rfl ?_)
        refine r_getr hX dX7_yard_27 fl_X7_140 (by first | rfl | assumption) rfl (RR.pc (b := 30) rfl ?_)
        refine r_iload_n (i := 0) hX dX7_yard_30 rfl (RR.pc (b := 31) rfl ?_)
        refine r_iald hX dX7_yard_31 (by first | rfl | assumption) rfl (by omega) (by decide) (by first | exact Nat.zero_add _ | rfl) (RR.pc (b := 32) rfl ?_)
        refine r_goto (tgt := 44) hX dX7_yard_32 rfl ?_
        exact r_iret hX hZ dX7_yard_44 ⟨_, rfl, ⟨by unfold yardF; first | (rw [ix_none (by omega)]) | (rw [ix_some ha (by omega)]; dsimp only; first | (rw [if_neg (w01n h13).1, if_neg (w01n h13).2]) | (rw [if_pos h20]) | (rw [if_neg h20, if_pos ((w01 h13).resolve_left h20)])), rfl⟩⟩
    · try simp only [Int32.reduceToInt] at h13
      refine r_ldc hX dX7_yard_16 kc_X7_75 (RR.pc (b := 18) rfl ?_)
      exact r_iret hX hZ dX7_yard_18 ⟨_, rfl, ⟨by unfold yardF; first | (rw [ix_none (by omega)]) | (rw [ix_some ha (by omega)]; dsimp only; first | (rw [if_neg (w01n h13).1, if_neg (w01n h13).2]) | (rw [if_pos h20]) | (rw [if_neg h20, if_pos ((w01 h13).resolve_left h20)])), rfl⟩⟩
set_option maxHeartbeats 4000000 in
set_option maxRecDepth 100000 in
theorem c_X7_sweep {G : GM} {σ : SG} {y : Int32} : CI G yX7_sweep cX7_sweep 2 (some .int) 3 [rf G 0, .int y] σ (fun r s => r = (sweepF (σ 0) y).1 ∧ s = sr σ 0 (sweepF (σ 0) y).2) := by
  refine Con.of cd_X7_sweep (Nat.le_of_ble_eq_true rfl) ?_
  intro X hX hZ
  have hX : Fx X G RX7 cX7_sweep 2 3 := hX
  show RR X G 2 0 (ll [(0, rf G 0), (1, .int y)]) [] σ
  refine r_iload_n (i := 0) hX dX7_sweep_0 rfl (RR.pc (b := 1) rfl ?_)
  refine r_callSie hX dX7_sweep_1 ml_X7_137 cd_X7_isYard st_X7_isYard c_X7_isYard (by decide) rfl rfl (Nat.le_of_ble_eq_true rfl) (RR.pc (b := 4) rfl ?_)
  refine r_if_eq_b (tgt := 18) hX dX7_sweep_4 rfl (fun h4 => ?_) (fun h4 => RR.pc (b := 7) rfl ?_)
  · refine r_ldc hX dX7_sweep_18 kc_X7_75 (RR.pc (b := 20) rfl ?_)
    exact r_iret hX hZ dX7_sweep_20 ⟨_, rfl, by unfold sweepF; first | (rw [ix_none (by omega)]; exact ⟨rfl, sr_self.symm⟩) | (rw [ix_some ha (by omega)]; exact ⟨rfl, rfl⟩)⟩
  · obtain ⟨a, ha, rfl⟩ := ix_of (n := 60) (by omega : 0 ≤ y.toInt ∧ y.toInt < 60) (by omega)
    refine r_aload_n hX dX7_sweep_7 rfl ⟨_, rfl⟩ (RR.pc (b := 8) rfl ?_)
    refine r_getr hX dX7_sweep_8 fl_X7_39 (by first | rfl | assumption) rfl (RR.pc (b := 11) rfl ?_)
    refine r_iload_n (i := 0) hX dX7_sweep_11 rfl (RR.pc (b := 12) rfl ?_)
    refine r_callVie hX dX7_sweep_12 ml_X7_146 cd_X6_takeAll iv_X6_takeAll (c_X6_takeAll (w := 0) (by decide) ha) (by decide) (by first | rfl | assumption) rfl rfl rfl rfl (Nat.le_of_ble_eq_true rfl) (RR.pc (b := 15) rfl ?_)
    refine r_goto (tgt := 20) hX dX7_sweep_15 rfl ?_
    exact r_iret hX hZ dX7_sweep_20 ⟨_, rfl, by unfold sweepF; first | (rw [ix_none (by omega)]; exact ⟨rfl, sr_self.symm⟩) | (rw [ix_some ha (by omega)]; exact ⟨rfl, rfl⟩)⟩
set_option maxHeartbeats 4000000 in
set_option maxRecDepth 100000 in
theorem c_X7_rain {G : GM} {σ : SG} : CI G yX7_rain cX7_rain 1 (some .int) 1 [rf G 0] σ (fun r s => r = rainS (σ 0) 60 ∧ s = sr σ 0 (rainW (σ 0) 60)) := by
  refine Con.of cd_X7_rain (Nat.le_of_ble_eq_true rfl) ?_
  intro X hX hZ
  have hX : Fx X G RX7 cX7_rain 1 1 := hX
  show RR X G 1 0 (ll [(0, rf G 0)]) [] σ
  refine r_aload_n hX dX7_rain_0 rfl ⟨_, rfl⟩ (RR.pc (b := 1) rfl ?_)
  refine r_getr hX dX7_rain_1 fl_X7_39 (by first | rfl | assumption) rfl (RR.pc (b := 4) rfl ?_)
  refine r_callVie hX dX7_rain_4 ml_X7_150 cd_X6_sprout iv_X6_sprout (c_X6_sprout (w := 0) (by decide)) (by decide) (by first | rfl | assumption) rfl rfl rfl rfl (Nat.le_of_ble_eq_true rfl) (RR.pc (b := 7) rfl ?_)
  exact r_iret hX hZ dX7_rain_7 ⟨_, rfl, ⟨rfl, rfl⟩⟩
set_option maxHeartbeats 4000000 in
set_option maxRecDepth 100000 in
theorem c_X7_seed {G : GM} {σ : SG} {v : Int32} : CI G yX7_seed cX7_seed 3 (some .int) 0 [rf G 0, .int v] σ (fun r s => r = σ 0 6 ∧ s = su σ 0 6 v) := by
  refine Con.of cd_X7_seed (Nat.le_of_ble_eq_true rfl) ?_
  intro X hX hZ
  have hX : Fx X G RX7 cX7_seed 3 0 := hX
  show RR X G 3 0 (ll [(0, rf G 0), (1, .int v)]) [] σ
  refine r_aload_n hX dX7_seed_0 rfl ⟨_, rfl⟩ (RR.pc (b := 1) rfl ?_)
  refine r_getr hX dX7_seed_1 fl_X7_39 (by first | rfl | assumption) rfl (RR.pc (b := 4) rfl ?_)
  refine r_geti hX dX7_seed_4 fl_X7_162 (by first | rfl | assumption) rfl (RR.pc (b := 7) rfl ?_)
  refine r_istore_n hX dX7_seed_7 (by decide) (RR.pc (b := 8) rfl ?_)
  refine r_aload_n hX dX7_seed_8 rfl ⟨_, rfl⟩ (RR.pc (b := 9) rfl ?_)
  refine r_getr hX dX7_seed_9 fl_X7_39 (by first | rfl | assumption) rfl (RR.pc (b := 12) rfl ?_)
  refine r_iload_n (i := 0) hX dX7_seed_12 rfl (RR.pc (b := 13) rfl ?_)
  refine r_puti hX dX7_seed_13 fl_X7_162 (by first | rfl | assumption) rfl ft_6_11 (RR.pc (b := 16) rfl ?_)
  refine r_iload_n (i := 0) hX dX7_seed_16 rfl (RR.pc (b := 17) rfl ?_)
  exact r_iret hX hZ dX7_seed_17 ⟨_, rfl, ⟨rfl, rfl⟩⟩
set_option maxHeartbeats 4000000 in
set_option maxRecDepth 100000 in
theorem c_X6_roomFor {G : GM} {σ : SG} {w q m : Nat} (hw : w < 3) (hq : q ≤ 9999) (hm : m ≤ 9999) (em : σ w 2 = nI m) : CI G yX6_roomFor cX6_roomFor 2 (some .int) 1 [rf G (36 + 14 * w), .int (nI q)] σ (fun r s => r = nI (min q (9999 - m)) ∧ s = σ) := by
  refine Con.of cd_X6_roomFor (Nat.le_of_ble_eq_true rfl) ?_
  intro X hX hZ
  have hX : Fx X G RX6 cX6_roomFor 2 1 := hX
  show RR X G 2 0 (ll [(0, rf G (36 + 14 * w)), (1, .int (nI q))]) [] σ
  obtain ⟨l0, l1, l2, l3, l4, l5⟩ := layW hw
  refine r_iload_n (i := 0) hX dX6_roomFor_0 rfl (RR.pc (b := 1) rfl ?_)
  refine r_sipush (v := 9999) hX dX6_roomFor_1 (by decide) (RR.pc (b := 4) rfl ?_)
  refine r_aload_n hX dX6_roomFor_4 rfl ⟨_, rfl⟩ (RR.pc (b := 5) rfl ?_)
  refine r_geti hX dX6_roomFor_5 fl_X6_68 (by first | rfl | assumption) rfl (RR.pc (b := 8) rfl ?_)
  rw [em, show (9999 : Int32) = nI 9999 from rfl]
  refine r_isub hX dX6_roomFor_8 (RR.pc (b := 9) rfl ?_)
  rw [pk_sub (by omega)]
  refine r_min hX (by decide) dX6_roomFor_9 ml_X6_119 (Nat.le_of_ble_eq_true rfl) (RR.pc (b := 12) rfl ?_)
  exact r_iret hX hZ dX6_roomFor_12 ⟨_, rfl, ⟨by by_cases e : 9999 - m < q; (rw [if_pos (nI_lt e (by omega)), show min q (9999 - m) = 9999 - m by omega]); (rw [if_neg (nI_nlt (by omega) (by omega)), show min q (9999 - m) = q by omega]), rfl⟩⟩
set_option maxHeartbeats 4000000 in
set_option maxRecDepth 100000 in
theorem c_X7_minutes {G : GM} {σ : SG} {Ts : Nat → Tx} {nt n m : Nat} {q : Int32} (hT : CT (σ 3) (σ 0) Ts nt) (hW : WO (σ 0) n m) (hm : m ≤ 9999) : CI G yX7_minutes cX7_minutes 3 (some .int) 6 [rf G 0, .int q] σ (fun r s => r = (minutesF (lkV Ts nt) (σ 0) n m q).1 ∧ s 0 = (minutesF (lkV Ts nt) (σ 0) n m q).2 ∧ same [0, 4] σ s) := by
  refine Con.of cd_X7_minutes (Nat.le_of_ble_eq_true rfl) ?_
  intro X hX hZ
  have hX : Fx X G RX7 cX7_minutes 3 6 := hX
  show RR X G 3 0 (ll [(0, rf G 0), (1, .int q)]) [] σ
  refine r_iload_n (i := 0) hX dX7_minutes_0 rfl (RR.pc (b := 1) rfl ?_)
  refine r_iconst (v := 1) hX dX7_minutes_1 (by decide) (RR.pc (b := 2) rfl ?_)
  refine r_bipush (v := 100) hX dX7_minutes_2 (by decide) (RR.pc (b := 4) rfl ?_)
  refine r_callSie hX dX7_minutes_4 ml_X7_71 cd_X7_within st_X7_within c_X7_within (by decide) rfl rfl (Nat.le_of_ble_eq_true rfl) (RR.pc (b := 7) rfl ?_)
  refine r_if_ne_b (tgt := 13) hX dX7_minutes_7 rfl (fun h7 => ?_) (fun h7 => RR.pc (b := 10) rfl ?_)
  · try simp only [Int32.reduceToInt] at h7
    obtain ⟨c, hc, rfl⟩ := ix_of (n := 101) (k := q) ⟨by omega, by omega⟩ (by omega)
    refine r_aload_n hX dX7_minutes_13 rfl ⟨_, rfl⟩ (RR.pc (b := 14) rfl ?_)
    refine r_getr hX dX7_minutes_14 fl_X7_39 (by first | rfl | assumption) rfl (RR.pc (b := 17) rfl ?_)
    refine r_geti hX dX7_minutes_17 fl_X7_165 (by first | rfl | assumption) rfl (RR.pc (b := 20) rfl ?_)
    refine r_istore_n hX dX7_minutes_20 (by decide) (RR.pc (b := 21) rfl ?_)
    refine r_aload_n hX dX7_minutes_21 rfl ⟨_, rfl⟩ (RR.pc (b := 22) rfl ?_)
    refine r_getr hX dX7_minutes_22 fl_X7_39 (by first | rfl | assumption) rfl (RR.pc (b := 25) rfl ?_)
    refine r_aload_n hX dX7_minutes_25 rfl ⟨_, rfl⟩ (RR.pc (b := 26) rfl ?_)
    refine r_getr hX dX7_minutes_26 fl_X7_39 (by first | rfl | assumption) rfl (RR.pc (b := 29) rfl ?_)
    refine r_iload_n (i := 0) hX dX7_minutes_29 rfl (RR.pc (b := 30) rfl ?_)
    refine r_callVie hX dX7_minutes_30 ml_X7_168 cd_X6_roomFor iv_X6_roomFor (c_X6_roomFor (w := 0) (m := m) (by decide) (by omega) hm hW.2.2.2.1) (by decide) (by first | rfl | assumption) rfl rfl rfl rfl (Nat.le_of_ble_eq_true rfl) (RR.pc (b := 33) rfl ?_)
    refine r_callVv hX dX7_minutes_33 ml_X7_171 cd_X6_pass iv_X6_pass (c_X6_pass (w := 0) (Ts := Ts) (nt := nt) (n := n) (m := m) (q := min c (9999 - m)) (by decide) hT hW (by omega)) (by decide) (by first | rfl | assumption) rfl rfl rfl rfl (Nat.le_of_ble_eq_true rfl) (fun s_33 e_33 => RR.pc (b := 36) rfl ?_)
    obtain ⟨e33, hs33⟩ := e_33
    refine r_aload_n hX dX7_minutes_36 rfl ⟨_, rfl⟩ (RR.pc (b := 37) rfl ?_)
    refine r_getr hX dX7_minutes_37 fl_X7_39 (by first | rfl | assumption) rfl (RR.pc (b := 40) rfl ?_)
    refine r_geti hX dX7_minutes_40 fl_X7_165 (by first | rfl | assumption) rfl (RR.pc (b := 43) rfl ?_)
    refine r_iload_n (i := 0) hX dX7_minutes_43 rfl (RR.pc (b := 44) rfl ?_)
    refine r_isub hX dX7_minutes_44 (RR.pc (b := 45) rfl ?_)
    exact r_iret hX hZ dX7_minutes_45 ⟨_, rfl, (by unfold minutesF; rw [if_pos h7, nI_clamp (by omega)]; exact ⟨by rw [e33], e33, hs33⟩)⟩
  · try simp only [Int32.reduceToInt] at h7
    refine r_ldc hX dX7_minutes_10 kc_X7_75 (RR.pc (b := 12) rfl ?_)
    exact r_iret hX hZ dX7_minutes_12 ⟨_, rfl, (by unfold minutesF; rw [if_neg h7]; exact ⟨rfl, rfl, same.rf⟩)⟩
set_option maxHeartbeats 4000000 in
set_option maxRecDepth 100000 in
theorem c_X7_sumOf {G : GM} {σ : SG} {k r o : Nat} (hl : lay k = lI 60 r o) : CI G yX7_sumOf cX7_sumOf 6 (some .int) 0 [rf G k] σ (fun x s => x = sumW (σ r) o 60 ∧ s = σ) := by
  refine Con.of cd_X7_sumOf (Nat.le_of_ble_eq_true rfl) ?_
  intro X hX hZ
  have hX : Fx X G RX7 cX7_sumOf 6 0 := hX
  show RR X G 6 0 (ll [(0, rf G k)]) [] σ
  have loop := loopK 60 (fun j => RR X G 6 10 (ll [(1, .int (sumW (σ r) o j)), (2, rf G k), (3, .int (nI 60)), (4, .int (nI j))]) [] σ) (by
    intro j hj ih
    refine r_iload hX dX7_sumOf_10 rfl (RR.pc (b := 12) rfl ?_)
    refine r_iload_n (i := 0) hX dX7_sumOf_12 rfl (RR.pc (b := 13) rfl ?_)
    refine r_icmp_ge (tgt := 33) hX dX7_sumOf_13 rfl (fun h13 => ?_) (fun h13 => RR.pc (b := 16) rfl ?_)
    · have hj2 : j = 60 := by rw [nI_leI (by omega) (by omega)] at h13; omega
      subst hj2
      refine r_iload_n (i := 0) hX dX7_sumOf_33 rfl (RR.pc (b := 34) rfl ?_)
      exact r_iret hX hZ dX7_sumOf_34 ⟨_, rfl, ⟨rfl, rfl⟩⟩
    · have hj2 : j < 60 := by rw [nI_leI (by omega) (by omega)] at h13; omega
      refine r_aload_n hX dX7_sumOf_16 rfl ⟨_, rfl⟩ (RR.pc (b := 17) rfl ?_)
      refine r_iload hX dX7_sumOf_17 rfl (RR.pc (b := 19) rfl ?_)
      refine r_iald hX dX7_sumOf_19 (by first | rfl | assumption) rfl (by omega) (by decide) (by first | exact Nat.zero_add _ | rfl) (RR.pc (b := 20) rfl ?_)
      refine r_istore hX dX7_sumOf_20 (by decide) (RR.pc (b := 22) rfl ?_)
      refine r_iload_n (i := 0) hX dX7_sumOf_22 rfl (RR.pc (b := 23) rfl ?_)
      refine r_iload hX dX7_sumOf_23 rfl (RR.pc (b := 25) rfl ?_)
      refine r_iadd hX dX7_sumOf_25 (RR.pc (b := 26) rfl ?_)
      refine r_istore_n hX dX7_sumOf_26 (by decide) (RR.pc (b := 27) rfl ?_)
      refine r_iinc hX dX7_sumOf_27 rfl (by decide) (nI_1 j) (RR.pc (b := 30) rfl ?_)
      refine r_goto (tgt := 10) hX dX7_sumOf_30 rfl ?_
      exact RR.cut (ih hj2) (List.forall_mem_cons.mpr ⟨rfl, List.forall_mem_cons.mpr ⟨rfl, List.forall_mem_cons.mpr ⟨rfl, List.forall_mem_cons.mpr ⟨rfl, fun _ h => absurd h List.not_mem_nil⟩⟩⟩⟩)
    )
  refine r_iconst (v := 0) hX dX7_sumOf_0 (by decide) (RR.pc (b := 1) rfl ?_)
  refine r_istore_n hX dX7_sumOf_1 (by decide) (RR.pc (b := 2) rfl ?_)
  refine r_aload_n hX dX7_sumOf_2 rfl ⟨_, rfl⟩ (RR.pc (b := 3) rfl ?_)
  refine r_astore_n hX dX7_sumOf_3 (by decide) ⟨_, rfl⟩ (RR.pc (b := 4) rfl ?_)
  refine r_aload_n hX dX7_sumOf_4 rfl ⟨_, rfl⟩ (RR.pc (b := 5) rfl ?_)
  refine r_alen hX dX7_sumOf_5 hl (by decide) (RR.pc (b := 6) rfl ?_)
  refine r_istore_n hX dX7_sumOf_6 (by decide) (RR.pc (b := 7) rfl ?_)
  refine r_iconst (v := 0) hX dX7_sumOf_7 (by decide) (RR.pc (b := 8) rfl ?_)
  refine r_istore hX dX7_sumOf_8 (by decide) (RR.pc (b := 10) rfl ?_)
  exact RR.cut (loop 0 (by omega)) (List.forall_mem_cons.mpr ⟨rfl, List.forall_mem_cons.mpr ⟨rfl, List.forall_mem_cons.mpr ⟨rfl, List.forall_mem_cons.mpr ⟨rfl, fun _ h => absurd h List.not_mem_nil⟩⟩⟩⟩)
set_option maxHeartbeats 4000000 in
set_option maxRecDepth 100000 in
theorem c_X7_way {G : GM} {σ : SG} {n : Nat} {what : Int32} (hN : σ 0 0 = nI n) (h8 : n ≤ 8) : CI G yX7_way cX7_way 2 (some .int) 2 [rf G 0, .int what] σ (fun r s => r = wayF (σ 0) n what ∧ s = σ) := by
  refine Con.of cd_X7_way (Nat.le_of_ble_eq_true rfl) ?_
  intro X hX hZ
  have hX : Fx X G RX7 cX7_way 2 2 := hX
  show RR X G 2 0 (ll [(0, rf G 0), (1, .int what)]) [] σ
  refine r_iload_n (i := 0) hX dX7_way_0 rfl (RR.pc (b := 1) rfl ?_)
  by_cases h1_0 : what = 0
  · refine r_tableIn (tgt := 44) hX dX7_way_1 (by rw [h1_0]; decide) (by rw [h1_0]; decide) (by rw [h1_0]; rfl) rfl ?_
    refine r_aload_n hX dX7_way_44 rfl ⟨_, rfl⟩ (RR.pc (b := 45) rfl ?_)
    refine r_getr hX dX7_way_45 fl_X7_39 (by first | rfl | assumption) rfl (RR.pc (b := 48) rfl ?_)
    refine r_getr hX dX7_way_48 fl_X7_140 (by first | rfl | assumption) rfl (RR.pc (b := 51) rfl ?_)
    refine r_callSie hX dX7_way_51 ml_X7_175 cd_X7_sumOf st_X7_sumOf (c_X7_sumOf (k := 46) rfl) (by decide) rfl rfl (Nat.le_of_ble_eq_true rfl) (RR.pc (b := 54) rfl ?_)
    exact r_iret hX hZ dX7_way_54 ⟨_, rfl, ⟨by unfold wayF; simp_all, rfl⟩⟩
  by_cases h1_1 : what = 1
  · refine r_tableIn (tgt := 55) hX dX7_way_1 (by rw [h1_1]; decide) (by rw [h1_1]; decide) (by rw [h1_1]; rfl) rfl ?_
    refine r_aload_n hX dX7_way_55 rfl ⟨_, rfl⟩ (RR.pc (b := 56) rfl ?_)
    refine r_getr hX dX7_way_56 fl_X7_39 (by first | rfl | assumption) rfl (RR.pc (b := 59) rfl ?_)
    refine r_getr hX dX7_way_59 fl_X7_143 (by first | rfl | assumption) rfl (RR.pc (b := 62) rfl ?_)
    refine r_callSie hX dX7_way_62 ml_X7_175 cd_X7_sumOf st_X7_sumOf (c_X7_sumOf (k := 47) rfl) (by decide) rfl rfl (Nat.le_of_ble_eq_true rfl) (RR.pc (b := 65) rfl ?_)
    exact r_iret hX hZ dX7_way_65 ⟨_, rfl, ⟨by unfold wayF; simp_all, rfl⟩⟩
  by_cases h1_2 : what = 2
  · refine r_tableIn (tgt := 66) hX dX7_way_1 (by rw [h1_2]; decide) (by rw [h1_2]; decide) (by rw [h1_2]; rfl) rfl ?_
    refine r_aload_n hX dX7_way_66 rfl ⟨_, rfl⟩ (RR.pc (b := 67) rfl ?_)
    refine r_getr hX dX7_way_67 fl_X7_39 (by first | rfl | assumption) rfl (RR.pc (b := 70) rfl ?_)
    refine r_geti hX dX7_way_70 fl_X7_165 (by first | rfl | assumption) rfl (RR.pc (b := 73) rfl ?_)
    exact r_iret hX hZ dX7_way_73 ⟨_, rfl, ⟨by unfold wayF; simp_all, rfl⟩⟩
  by_cases h1_3 : what = 3
  · refine r_tableIn (tgt := 74) hX dX7_way_1 (by rw [h1_3]; decide) (by rw [h1_3]; decide) (by rw [h1_3]; rfl) rfl ?_
    refine r_aload_n hX dX7_way_74 rfl ⟨_, rfl⟩ (RR.pc (b := 75) rfl ?_)
    refine r_getr hX dX7_way_75 fl_X7_39 (by first | rfl | assumption) rfl (RR.pc (b := 78) rfl ?_)
    refine r_geti hX dX7_way_78 fl_X7_179 (by first | rfl | assumption) rfl (RR.pc (b := 81) rfl ?_)
    exact r_iret hX hZ dX7_way_81 ⟨_, rfl, ⟨by unfold wayF; simp_all, rfl⟩⟩
  by_cases h1_4 : what = 4
  · refine r_tableIn (tgt := 82) hX dX7_way_1 (by rw [h1_4]; decide) (by rw [h1_4]; decide) (by rw [h1_4]; rfl) rfl ?_
    refine r_aload_n hX dX7_way_82 rfl ⟨_, rfl⟩ (RR.pc (b := 83) rfl ?_)
    refine r_getr hX dX7_way_83 fl_X7_39 (by first | rfl | assumption) rfl (RR.pc (b := 86) rfl ?_)
    refine r_geti hX dX7_way_86 fl_X7_182 (by first | rfl | assumption) rfl (RR.pc (b := 89) rfl ?_)
    exact r_iret hX hZ dX7_way_89 ⟨_, rfl, ⟨by unfold wayF; simp_all, rfl⟩⟩
  by_cases h1_5 : what = 5
  · refine r_tableIn (tgt := 90) hX dX7_way_1 (by rw [h1_5]; decide) (by rw [h1_5]; decide) (by rw [h1_5]; rfl) rfl ?_
    refine r_aload_n hX dX7_way_90 rfl ⟨_, rfl⟩ (RR.pc (b := 91) rfl ?_)
    refine r_getr hX dX7_way_91 fl_X7_39 (by first | rfl | assumption) rfl (RR.pc (b := 94) rfl ?_)
    refine r_callVie hX dX7_way_94 ml_X7_185 cd_X6_grainOfAll iv_X6_grainOfAll (c_X6_grainOfAll (w := 0) (by decide) hN h8) (by decide) (by first | rfl | assumption) rfl rfl rfl rfl (Nat.le_of_ble_eq_true rfl) (RR.pc (b := 97) rfl ?_)
    exact r_iret hX hZ dX7_way_97 ⟨_, rfl, ⟨by unfold wayF; simp_all, rfl⟩⟩
  by_cases h1_6 : what = 6
  · refine r_tableIn (tgt := 98) hX dX7_way_1 (by rw [h1_6]; decide) (by rw [h1_6]; decide) (by rw [h1_6]; rfl) rfl ?_
    refine r_aload_n hX dX7_way_98 rfl ⟨_, rfl⟩ (RR.pc (b := 99) rfl ?_)
    refine r_getr hX dX7_way_99 fl_X7_39 (by first | rfl | assumption) rfl (RR.pc (b := 102) rfl ?_)
    refine r_callVie hX dX7_way_102 ml_X7_188 cd_X6_trail iv_X6_trail (c_X6_trail (w := 0) (by decide)) (by decide) (by first | rfl | assumption) rfl rfl rfl rfl (Nat.le_of_ble_eq_true rfl) (RR.pc (b := 105) rfl ?_)
    exact r_iret hX hZ dX7_way_105 ⟨_, rfl, ⟨by unfold wayF; simp_all, rfl⟩⟩
  refine r_tableOut (tgt := 106) hX dX7_way_1 (by have n0 : (what).toInt ≠ 0 := ne_toInt h1_0; have n1 : (what).toInt ≠ 1 := ne_toInt h1_1; have n2 : (what).toInt ≠ 2 := ne_toInt h1_2; have n3 : (what).toInt ≠ 3 := ne_toInt h1_3; have n4 : (what).toInt ≠ 4 := ne_toInt h1_4; have n5 : (what).toInt ≠ 5 := ne_toInt h1_5; have n6 : (what).toInt ≠ 6 := ne_toInt h1_6; omega) rfl ?_
  refine r_ldc hX dX7_way_106 kc_X7_75 (RR.pc (b := 108) rfl ?_)
  exact r_iret hX hZ dX7_way_108 ⟨_, rfl, ⟨by unfold wayF; simp_all, rfl⟩⟩
set_option maxHeartbeats 4000000 in
set_option maxRecDepth 100000 in
theorem c_X7_deal {G : GM} {σ : SG} {n : Nat} {q : Int32} (hN : σ 0 0 = nI n) (h8 : n ≤ 8) : CI G yX7_deal cX7_deal 4 (some .int) 2 [rf G 0, .int q] σ (fun r s => r = (dealF (σ 0) n q).1 ∧ s = sr σ 0 (dealF (σ 0) n q).2) := by
  refine Con.of cd_X7_deal (Nat.le_of_ble_eq_true rfl) ?_
  intro X hX hZ
  have hX : Fx X G RX7 cX7_deal 4 2 := hX
  show RR X G 4 0 (ll [(0, rf G 0), (1, .int q)]) [] σ
  have dW0 : ∀ k, dealW (σ 0) n k 0 = nI (n + k) := by
    intro k
    cases k with
    | zero => exact hN
    | succ k => unfold dealW; rw [addM_0]; rfl
  have go : ∀ c, c ≤ 8 → dealF (σ 0) n q = (nI (min c (8 - n)), dealW (σ 0) n (min c (8 - n))) → RR X G 4 28 (ll [(0, rf G 0), (2, .int (nI (min c (8 - n))))]) [] σ := by
    intro c hc hF
    have loop := loopK (min c (8 - n)) (fun k => RR X G 4 30 (ll [(0, rf G 0), (2, .int (nI (min c (8 - n)))), (3, .int (nI k))]) [] (sr σ 0 (dealW (σ 0) n k))) (by
      intro k hk ih
      refine r_iload_n (i := 0) hX dX7_deal_30 rfl (RR.pc (b := 31) rfl ?_)
      refine r_iload_n (i := 0) hX dX7_deal_31 rfl (RR.pc (b := 32) rfl ?_)
      refine r_icmp_ge (tgt := 48) hX dX7_deal_32 rfl (fun h32 => ?_) (fun h32 => RR.pc (b := 35) rfl ?_)
      · have hk2 : k = min c (8 - n) := by rw [nI_leI (by omega) (by omega)] at h32; omega
        subst hk2
        refine r_iload_n (i := 0) hX dX7_deal_48 rfl (RR.pc (b := 49) rfl ?_)
        exact r_iret hX hZ dX7_deal_49 ⟨_, rfl, by rw [hF]; exact ⟨rfl, rfl⟩⟩
      · have hk2 : k < min c (8 - n) := by rw [nI_leI (by omega) (by omega)] at h32; omega
        refine r_aload_n hX dX7_deal_35 rfl ⟨_, rfl⟩ (RR.pc (b := 36) rfl ?_)
        refine r_getr hX dX7_deal_36 fl_X7_39 (by first | rfl | assumption) rfl (RR.pc (b := 39) rfl ?_)
        refine r_callVve hX dX7_deal_39 ml_X7_159 cd_X6_drawMule iv_X6_drawMule (c_X6_drawMule (w := 0) (n := n + k) (by decide) (by rw [sr_eq]; exact dW0 k) (by omega)) (by decide) (by first | rfl | assumption) rfl rfl rfl rfl (Nat.le_of_ble_eq_true rfl) (RR.pc (b := 42) rfl ?_)
        refine r_iinc hX dX7_deal_42 rfl (by decide) (nI_1 k) (RR.pc (b := 45) rfl ?_)
        refine r_goto (tgt := 30) hX dX7_deal_45 rfl ?_
        refine RR.eqs ?_ (RR.cut (ih hk2) (List.forall_mem_cons.mpr ⟨rfl, List.forall_mem_cons.mpr ⟨rfl, List.forall_mem_cons.mpr ⟨rfl, fun _ h => absurd h List.not_mem_nil⟩⟩⟩))
        rw [sr_sr, sr_eq]
        rfl
      )
    refine r_iconst (v := 0) hX dX7_deal_28 (by decide) (RR.pc (b := 29) rfl ?_)
    refine r_istore_n hX dX7_deal_29 (by decide) (RR.pc (b := 30) rfl ?_)
    exact RR.eqs (sr_self (r := 0)).symm (RR.cut (loop 0 (by omega)) (List.forall_mem_cons.mpr ⟨rfl, List.forall_mem_cons.mpr ⟨rfl, List.forall_mem_cons.mpr ⟨rfl, fun _ h => absurd h List.not_mem_nil⟩⟩⟩))
  refine r_iload_n (i := 0) hX dX7_deal_0 rfl (RR.pc (b := 1) rfl ?_)
  refine r_iconst (v := 1) hX dX7_deal_1 (by decide) (RR.pc (b := 2) rfl ?_)
  refine r_bipush (v := 8) hX dX7_deal_2 (by decide) (RR.pc (b := 4) rfl ?_)
  refine r_callSie hX dX7_deal_4 ml_X7_71 cd_X7_within st_X7_within c_X7_within (by decide) rfl rfl (Nat.le_of_ble_eq_true rfl) (RR.pc (b := 7) rfl ?_)
  refine r_if_ne_b (tgt := 13) hX dX7_deal_7 rfl (fun h7 => ?_) (fun h7 => RR.pc (b := 10) rfl ?_)
  · try simp only [Int32.reduceToInt] at h7
    obtain ⟨c, hc, rfl⟩ := ix_of (n := 9) (k := q) ⟨by omega, by omega⟩ (by omega)
    refine r_iload_n (i := 0) hX dX7_deal_13 rfl (RR.pc (b := 14) rfl ?_)
    refine r_bipush (v := 8) hX dX7_deal_14 (by decide) (RR.pc (b := 16) rfl ?_)
    refine r_aload_n hX dX7_deal_16 rfl ⟨_, rfl⟩ (RR.pc (b := 17) rfl ?_)
    refine r_getr hX dX7_deal_17 fl_X7_39 (by first | rfl | assumption) rfl (RR.pc (b := 20) rfl ?_)
    refine r_geti hX dX7_deal_20 fl_X7_76 (by first | rfl | assumption) rfl (RR.pc (b := 23) rfl ?_)
    rw [hN, show (8 : Int32) = nI 8 from rfl]
    refine r_isub hX dX7_deal_23 (RR.pc (b := 24) rfl ?_)
    rw [pk_sub (by omega)]
    refine r_min hX (by decide) dX7_deal_24 ml_X7_153 (Nat.le_of_ble_eq_true rfl) (RR.pc (b := 27) rfl ?_)
    rw [show (if nI (8 - n) < nI c then nI (8 - n) else nI c) = nI (min c (8 - n)) from by by_cases e : 8 - n < c; (rw [if_pos (nI_lt e (by omega)), show min c (8 - n) = 8 - n by omega]); (rw [if_neg (nI_nlt (by omega) (by omega)), show min c (8 - n) = c by omega])]
    refine r_istore_n hX dX7_deal_27 (by decide) (RR.pc (b := 28) rfl ?_)
    exact RR.cut (go c (by omega) (by unfold dealF; rw [if_pos h7, nI_clamp (by omega)])) (List.forall_mem_cons.mpr ⟨rfl, List.forall_mem_cons.mpr ⟨rfl, fun _ h => absurd h List.not_mem_nil⟩⟩)
  · try simp only [Int32.reduceToInt] at h7
    refine r_ldc hX dX7_deal_10 kc_X7_75 (RR.pc (b := 12) rfl ?_)
    exact r_iret hX hZ dX7_deal_12 ⟨_, rfl, (by unfold dealF; rw [if_neg h7]; exact ⟨rfl, sr_self.symm⟩)⟩
/-- kinds under one another -/
def undP (own kind : Int32) : Prop := own = kind ∨ kind = 0 ∨ (kind = 1 ∧ own = 3) ∨ (kind = 2 ∧ own = 4)
set_option maxHeartbeats 4000000 in
set_option maxRecDepth 100000 in
theorem c_X0_isOf {G : GM} {σ : SG} {k r o c : Nat} {kind : Int32} (hl : lay k = lyM r o) (hc : c ≤ 5) (ec : σ r o = nI c) : CI G yX0_isOf cX0_isOf 4 (some .boolean) 2 [rf G k, .int kind] σ (fun x s => x = bz (nI c = kind ∨ kind = 0 ∨ (kind = 1 ∧ nI c = 3) ∨ (kind = 2 ∧ nI c = 4)) ∧ s = σ) := by
  refine Con.of cd_X0_isOf (Nat.le_of_ble_eq_true rfl) ?_
  intro X hX hZ
  have hX : Fx X G RX0 cX0_isOf 4 2 := hX
  show RR X G 4 0 (ll [(0, rf G k), (1, .int kind)]) [] σ
  generalize hv : bz (nI c = kind ∨ kind = 0 ∨ (kind = 1 ∧ nI c = 3) ∨ (kind = 2 ∧ nI c = 4)) = v at hZ
  have key : ∀ (i : Nat) (a : Int32), i < 6 → (a = -1 ∨ ∃ b : Nat, b < 6 ∧ a = nI b) → (¬ a = -1 → a = kind → v = 1) → (a = -1 → v = 0) → (∀ b : Nat, ¬ a = kind → a = nI b → b < 6 → RR X G 4 7 (ll [(0, rf G k), (1, .int kind), (2, .int (tb0.getD b 0)), (3, .int (nI (i + 1)))]) [] σ) → RR X G 4 7 (ll [(0, rf G k), (1, .int kind), (2, .int a), (3, .int (nI i))]) [] σ := by
    intro i a hi ha h1 h0 hn
    refine r_iload_n (i := 0) hX dX0_isOf_7 rfl (RR.pc (b := 8) rfl ?_)
    refine r_bipush (v := 6) hX dX0_isOf_8 (by decide) (RR.pc (b := 10) rfl ?_)
    refine r_icmp_ge (tgt := 39) hX dX0_isOf_10 rfl (fun h10 => absurd h10 (nI_ge (b := 6) hi (by omega))) (fun h10 => RR.pc (b := 13) rfl ?_)
    refine r_iload_n (i := 0) hX dX0_isOf_13 rfl (RR.pc (b := 14) rfl ?_)
    refine r_callSNie hX dX0_isOf_14 (List.mem_of_getElem? (i := 0) rfl) cd_X7_isKind st_X7_isKind c_X7_isKind (by decide) rfl rfl (Nat.le_of_ble_eq_true rfl) (RR.pc (b := 17) rfl ?_)
    refine r_if_eq_b (tgt := 39) hX dX0_isOf_17 rfl (fun h17 => ?_) (fun h17 => RR.pc (b := 20) rfl ?_)
    · refine r_iconst (v := 0) hX dX0_isOf_39 (by decide) (RR.pc (b := 40) rfl ?_)
      exact r_zret hX hZ dX0_isOf_40 (by first | rfl | exact nar_bz _) ⟨_, rfl, ⟨(h0 (by rcases ha with e | ⟨b, hb, e⟩; exact e; exact absurd (by rw [e, nI_toInt (by omega)]; omega) h17)).symm, rfl⟩⟩
    · refine r_iload_n (i := 0) hX dX0_isOf_20 rfl (RR.pc (b := 21) rfl ?_)
      refine r_iload_n (i := 0) hX dX0_isOf_21 rfl (RR.pc (b := 22) rfl ?_)
      refine r_icmp_ne (tgt := 27) hX dX0_isOf_22 rfl (fun h22 => ?_) (fun h22 => RR.pc (b := 25) rfl ?_)
      · obtain ⟨b, hb, eb⟩ : ∃ b : Nat, b < 6 ∧ a = nI b := by
          rcases ha with e | e
          · rw [e] at h17; exact absurd h17 (by decide)
          · exact e
        refine r_gets0 hX dX0_isOf_27 sl_X0_31 (RR.pc (b := 30) rfl ?_)
        refine r_iload_n (i := 0) hX dX0_isOf_30 rfl (RR.pc (b := 31) rfl ?_)
        refine r_tald0 hX dX0_isOf_31  eb hb (RR.pc (b := 32) rfl ?_)
        refine r_istore_n hX dX0_isOf_32 (by decide) (RR.pc (b := 33) rfl ?_)
        refine r_iinc hX dX0_isOf_33 rfl (by decide) (nI_1 i) (RR.pc (b := 36) rfl ?_)
        refine r_goto (tgt := 7) hX dX0_isOf_36 rfl ?_
        exact RR.cut (hn b h22 eb hb) (List.forall_mem_cons.mpr ⟨rfl, List.forall_mem_cons.mpr ⟨rfl, List.forall_mem_cons.mpr ⟨rfl, List.forall_mem_cons.mpr ⟨rfl, fun _ h => absurd h List.not_mem_nil⟩⟩⟩⟩)
      · refine r_iconst (v := 1) hX dX0_isOf_25 (by decide) (RR.pc (b := 26) rfl ?_)
        exact r_zret hX hZ dX0_isOf_26 (by first | rfl | exact nar_bz _) ⟨_, rfl, ⟨(h1 (fun e => by rw [e] at h17; exact absurd h17 (by decide)) h22).symm, rfl⟩⟩
  have Rm : v = 0 → ∀ i, i < 6 → RR X G 4 7 (ll [(0, rf G k), (1, .int kind), (2, .int (-1)), (3, .int (nI i))]) [] σ := fun h i hi => key i (-1) hi (Or.inl rfl) (fun e => absurd rfl e) (fun _ => h) (fun b _ e hb => absurd e (by have := nI_pos (n := b) (by omega); intro z; rw [← z] at this; exact this (by decide)))
  have R0 : (kind = 0 → v = 1) → (¬ kind = 0 → v = 0) → ∀ i, i < 5 → RR X G 4 7 (ll [(0, rf G k), (1, .int kind), (2, .int 0), (3, .int (nI i))]) [] σ := fun h1 h0 i hi => key i 0 (by omega) (Or.inr ⟨0, by omega, rfl⟩) (fun _ e => h1 e.symm) (fun e => absurd e (by decide)) (fun b ne e hb => by
    have : b = 0 := (nI_eq (a := b) (b := 0) (by omega) (by omega)).mp e.symm
    subst this
    exact Rm (h0 (fun z => ne z.symm)) (i + 1) (by omega))
  have R1 : (kind = 1 → v = 1) → (¬ kind = 1 → kind = 0 → v = 1) → (¬ kind = 1 → ¬ kind = 0 → v = 0) → ∀ i, i < 4 → RR X G 4 7 (ll [(0, rf G k), (1, .int kind), (2, .int 1), (3, .int (nI i))]) [] σ := fun h1 h2 h0 i hi => key i 1 (by omega) (Or.inr ⟨1, by omega, rfl⟩) (fun _ e => h1 e.symm) (fun e => absurd e (by decide)) (fun b ne e hb => by
    have : b = 1 := (nI_eq (a := b) (b := 1) (by omega) (by omega)).mp e.symm
    subst this
    exact R0 (h2 (fun z => ne z.symm)) (h0 (fun z => ne z.symm)) (i + 1) (by omega))
  have R2 : (kind = 2 → v = 1) → (¬ kind = 2 → kind = 0 → v = 1) → (¬ kind = 2 → ¬ kind = 0 → v = 0) → ∀ i, i < 4 → RR X G 4 7 (ll [(0, rf G k), (1, .int kind), (2, .int 2), (3, .int (nI i))]) [] σ := fun h1 h2 h0 i hi => key i 2 (by omega) (Or.inr ⟨2, by omega, rfl⟩) (fun _ e => h1 e.symm) (fun e => absurd e (by decide)) (fun b ne e hb => by
    have : b = 2 := (nI_eq (a := b) (b := 2) (by omega) (by omega)).mp e.symm
    subst this
    exact R0 (h2 (fun z => ne z.symm)) (h0 (fun z => ne z.symm)) (i + 1) (by omega))
  have start : RR X G 4 7 (ll [(0, rf G k), (1, .int kind), (2, .int (nI c)), (3, .int (nI 0))]) [] σ := by
    have T : ∀ {p : Prop} [Decidable p], p → bz p = 1 := fun h => bz_t h
    rcases (show c = 0 ∨ c = 1 ∨ c = 2 ∨ c = 3 ∨ c = 4 ∨ c = 5 by omega) with rfl | rfl | rfl | rfl | rfl | rfl
    · exact R0 (fun e => by rw [← hv]; exact bz_t (Or.inr (Or.inl e))) (fun e => by rw [← hv]; exact bz_f (by rintro (z | z | ⟨_, z⟩ | ⟨_, z⟩); exact e z.symm; exact e z; exact absurd z (by decide); exact absurd z (by decide))) 0 (by omega)
    · exact R1 (fun e => by rw [← hv]; exact bz_t (Or.inl e.symm)) (fun _ e => by rw [← hv]; exact bz_t (Or.inr (Or.inl e))) (fun n1 e => by rw [← hv]; exact bz_f (by rintro (z | z | ⟨_, z⟩ | ⟨_, z⟩); exact n1 z.symm; exact e z; exact absurd z (by decide); exact absurd z (by decide))) 0 (by omega)
    · exact R2 (fun e => by rw [← hv]; exact bz_t (Or.inl e.symm)) (fun _ e => by rw [← hv]; exact bz_t (Or.inr (Or.inl e))) (fun n1 e => by rw [← hv]; exact bz_f (by rintro (z | z | ⟨_, z⟩ | ⟨_, z⟩); exact n1 z.symm; exact e z; exact absurd z (by decide); exact absurd z (by decide))) 0 (by omega)
    · refine key 0 (nI 3) (by omega) (Or.inr ⟨3, by omega, rfl⟩) (fun _ e => by rw [← hv]; exact bz_t (Or.inl e)) (fun e => absurd e (by decide)) (fun b ne e hb => ?_)
      have : b = 3 := (nI_eq (a := b) (b := 3) (by omega) (by omega)).mp e.symm
      subst this
      exact R1 (fun e => by rw [← hv]; exact bz_t (Or.inr (Or.inr (Or.inl ⟨e, rfl⟩)))) (fun _ e => by rw [← hv]; exact bz_t (Or.inr (Or.inl e))) (fun n1 e => by rw [← hv]; exact bz_f (by rintro (z | z | ⟨z, _⟩ | ⟨_, z⟩); exact ne z; exact e z; exact n1 z; exact absurd z (by decide))) 1 (by omega)
    · refine key 0 (nI 4) (by omega) (Or.inr ⟨4, by omega, rfl⟩) (fun _ e => by rw [← hv]; exact bz_t (Or.inl e)) (fun e => absurd e (by decide)) (fun b ne e hb => ?_)
      have : b = 4 := (nI_eq (a := b) (b := 4) (by omega) (by omega)).mp e.symm
      subst this
      exact R2 (fun e => by rw [← hv]; exact bz_t (Or.inr (Or.inr (Or.inr ⟨e, rfl⟩)))) (fun _ e => by rw [← hv]; exact bz_t (Or.inr (Or.inl e))) (fun n1 e => by rw [← hv]; exact bz_f (by rintro (z | z | ⟨_, z⟩ | ⟨z, _⟩); exact ne z; exact e z; exact absurd z (by decide); exact n1 z)) 1 (by omega)
    · refine key 0 (nI 5) (by omega) (Or.inr ⟨5, by omega, rfl⟩) (fun _ e => by rw [← hv]; exact bz_t (Or.inl e)) (fun e => absurd e (by decide)) (fun b ne e hb => ?_)
      have : b = 5 := (nI_eq (a := b) (b := 5) (by omega) (by omega)).mp e.symm
      subst this
      exact R0 (fun e => by rw [← hv]; exact bz_t (Or.inr (Or.inl e))) (fun e => by rw [← hv]; exact bz_f (by rintro (z | z | ⟨_, z⟩ | ⟨_, z⟩); exact ne z; exact e z; exact absurd z (by decide); exact absurd z (by decide))) 1 (by omega)
  refine r_aload_n hX dX0_isOf_0 rfl ⟨_, rfl⟩ (RR.pc (b := 1) rfl ?_)
  refine r_geti hX dX0_isOf_1 fl_X0_9 (by first | rfl | assumption) rfl (RR.pc (b := 4) rfl ?_)
  refine r_istore_n hX dX0_isOf_4 (by decide) (RR.pc (b := 5) rfl ?_)
  refine r_iconst (v := 0) hX dX0_isOf_5 (by decide) (RR.pc (b := 6) rfl ?_)
  refine r_istore_n hX dX0_isOf_6 (by decide) (RR.pc (b := 7) rfl ?_)
  rw [ec]
  exact RR.cut start (List.forall_mem_cons.mpr ⟨rfl, List.forall_mem_cons.mpr ⟨rfl, List.forall_mem_cons.mpr ⟨rfl, List.forall_mem_cons.mpr ⟨rfl, fun _ h => absurd h List.not_mem_nil⟩⟩⟩⟩)
set_option maxHeartbeats 4000000 in
set_option maxRecDepth 100000 in
theorem c_X7_as {G : GM} {σ : SG} {n m : Nat} {k kind : Int32} (hW : WO (σ 0) n m) : CI G yX7_as cX7_as 4 (some .int) 3 [rf G 0, .int k, .int kind] σ (fun r s => r = asF (σ 0) n k kind ∧ s = σ) := by
  refine Con.of cd_X7_as (Nat.le_of_ble_eq_true rfl) ?_
  intro X hX hZ
  have hX : Fx X G RX7 cX7_as 4 3 := hX
  show RR X G 4 0 (ll [(0, rf G 0), (1, .int k), (2, .int kind)]) [] σ
  have hN := hW.1
  have h8 := hW.2.1
  refine r_aload_n hX dX7_as_0 rfl ⟨_, rfl⟩ (RR.pc (b := 1) rfl ?_)
  refine r_iload_n (i := 0) hX dX7_as_1 rfl (RR.pc (b := 2) rfl ?_)
  refine r_callVie hX dX7_as_2 ml_X7_85 cd_X7_isMule iv_X7_isMule (c_X7_isMule hN h8) (by decide) (by first | rfl | assumption) rfl rfl rfl rfl (Nat.le_of_ble_eq_true rfl) (RR.pc (b := 5) rfl ?_)
  refine r_if_eq_b (tgt := 15) hX dX7_as_5 rfl (fun h5 => ?_) (fun h5 => RR.pc (b := 8) rfl ?_)
  · refine r_ldc hX dX7_as_15 kc_X7_75 (RR.pc (b := 17) rfl ?_)
    exact r_iret hX hZ dX7_as_17 ⟨_, rfl, ⟨by unfold asF; first | (rw [ix_none h5]) | (rw [ix_some ha (by omega)]; dsimp only; first | rw [if_neg h12] | (rw [if_pos h12]; first | rw [if_pos h33] | rw [if_neg h33])), rfl⟩⟩
  · obtain ⟨a, ha, rfl⟩ := ix_of h5 (by omega)
    have lm := layM0 (i := a) (by omega)
    obtain ⟨c, hc, ec⟩ := (hW.2.2.1 a ha).1
    refine r_iload_n (i := 0) hX dX7_as_8 rfl (RR.pc (b := 9) rfl ?_)
    refine r_callSie hX dX7_as_9 ml_X7_67 cd_X7_isKind st_X7_isKind c_X7_isKind (by decide) rfl rfl (Nat.le_of_ble_eq_true rfl) (RR.pc (b := 12) rfl ?_)
    refine r_if_ne_b (tgt := 18) hX dX7_as_12 rfl (fun h12 => ?_) (fun h12 => RR.pc (b := 15) rfl ?_)
    · refine r_aload_n hX dX7_as_18 rfl ⟨_, rfl⟩ (RR.pc (b := 19) rfl ?_)
      refine r_getr hX dX7_as_19 fl_X7_39 (by first | rfl | assumption) rfl (RR.pc (b := 22) rfl ?_)
      refine r_getr hX dX7_as_22 fl_X7_88 (by first | rfl | assumption) rfl (RR.pc (b := 25) rfl ?_)
      refine r_iload_n (i := 0) hX dX7_as_25 rfl (RR.pc (b := 26) rfl ?_)
      refine r_aald hX dX7_as_26 (by first | rfl | assumption) ⟨_, rfl⟩ rfl (by omega) (by decide) (RR.pc (b := 27) rfl ?_)
      refine r_astore_n hX dX7_as_27 (by decide) ⟨_, rfl⟩ (RR.pc (b := 28) rfl ?_)
      refine r_aload_n hX dX7_as_28 rfl ⟨_, rfl⟩ (RR.pc (b := 29) rfl ?_)
      refine r_iload_n (i := 0) hX dX7_as_29 rfl (RR.pc (b := 30) rfl ?_)
      refine r_callVie hX dX7_as_30 ml_X7_120 cd_X0_isOf iv_X0_isOf (c_X0_isOf lm hc ec) (by decide) (by first | rfl | assumption) rfl rfl rfl rfl (Nat.le_of_ble_eq_true rfl) (RR.pc (b := 33) rfl ?_)
      refine r_if_eq_b (tgt := 43) hX dX7_as_33 rfl (fun h33 => ?_) (fun h33 => RR.pc (b := 36) rfl ?_)
      · rw [← ec] at h33
        refine r_ldc hX dX7_as_43 kc_X7_123 (RR.pc (b := 45) rfl ?_)
        exact r_iret hX hZ dX7_as_45 ⟨_, rfl, ⟨by unfold asF; first | (rw [ix_none h5]) | (rw [ix_some ha (by omega)]; dsimp only; first | rw [if_neg h12] | (rw [if_pos h12]; first | rw [if_pos h33] | rw [if_neg h33])), rfl⟩⟩
      · rw [← ec] at h33
        refine r_aload_n hX dX7_as_36 rfl ⟨_, rfl⟩ (RR.pc (b := 37) rfl ?_)
        refine r_geti hX dX7_as_37 fl_X7_106 (by first | rfl | assumption) rfl (RR.pc (b := 40) rfl ?_)
        refine r_goto (tgt := 45) hX dX7_as_40 rfl ?_
        exact r_iret hX hZ dX7_as_45 ⟨_, rfl, ⟨by unfold asF; first | (rw [ix_none h5]) | (rw [ix_some ha (by omega)]; dsimp only; first | rw [if_neg h12] | (rw [if_pos h12]; first | rw [if_pos h33] | rw [if_neg h33])), rfl⟩⟩
    · refine r_ldc hX dX7_as_15 kc_X7_75 (RR.pc (b := 17) rfl ?_)
      exact r_iret hX hZ dX7_as_17 ⟨_, rfl, ⟨by unfold asF; first | (rw [ix_none h5]) | (rw [ix_some ha (by omega)]; dsimp only; first | rw [if_neg h12] | (rw [if_pos h12]; first | rw [if_pos h33] | rw [if_neg h33])), rfl⟩⟩
theorem setF_bad {w : Nat → Int32} {n a : Nat} {what v : Int32} (ha : a < n) (hn : n ≤ 8) (h : ¬ fitP what v) : setF w n (nI a) what v = (vBAD, w) := by
  unfold setF
  unfold fitP at h
  rw [ix_some ha (by omega)]
  dsimp only
  split
  next e => rw [if_neg (fun c => h (Or.inl ⟨e, c⟩))]
  next =>
    split
    next e => rw [if_neg (fun c => h (Or.inr (Or.inl ⟨e, c⟩)))]
    next =>
      split
      next e => rw [if_neg (fun c => h (Or.inr (Or.inr (Or.inl ⟨e, c⟩))))]
      next =>
        split
        next e => rw [if_neg (fun c => h (Or.inr (Or.inr (Or.inr ⟨e, c⟩))))]
        next => rfl
theorem setF_ok {w : Nat → Int32} {n a : Nat} {what v : Int32} (ha : a < n) (hn : n ≤ 8) (h : fitP what v) : ∃ j : Nat, 1 ≤ j ∧ j ≤ 4 ∧ what = nI j ∧ setF w n (nI a) what v = (w (131 + 5 * a + j), upd w (131 + 5 * a + j) v) := by
  unfold setF
  rw [ix_some ha (by omega)]
  dsimp only
  rcases h with ⟨e, c⟩ | ⟨e, c⟩ | ⟨e, c⟩ | ⟨e, c⟩
  · subst e; exact ⟨1, by decide, by decide, rfl, by rw [if_pos rfl, if_pos c]⟩
  · subst e; exact ⟨2, by decide, by decide, rfl, by rw [if_neg (by decide), if_pos rfl, if_pos c]⟩
  · subst e; exact ⟨3, by decide, by decide, rfl, by rw [if_neg (by decide), if_neg (by decide), if_pos rfl, if_pos c]⟩
  · subst e; exact ⟨4, by decide, by decide, rfl, by rw [if_neg (by decide), if_neg (by decide), if_neg (by decide), if_pos rfl, if_pos c]⟩
set_option maxHeartbeats 4000000 in
set_option maxRecDepth 100000 in
theorem c_X7_set {G : GM} {σ : SG} {n : Nat} {k what v : Int32} (hN : σ 0 0 = nI n) (h8 : n ≤ 8) : CI G yX7_set cX7_set 6 (some .int) 3 [rf G 0, .int k, .int what, .int v] σ (fun r s => r = (setF (σ 0) n k what v).1 ∧ s = sr σ 0 (setF (σ 0) n k what v).2) := by
  refine Con.of cd_X7_set (Nat.le_of_ble_eq_true rfl) ?_
  intro X hX hZ
  have hX : Fx X G RX7 cX7_set 6 3 := hX
  show RR X G 6 0 (ll [(0, rf G 0), (1, .int k), (2, .int what), (3, .int v)]) [] σ
  refine r_aload_n hX dX7_set_0 rfl ⟨_, rfl⟩ (RR.pc (b := 1) rfl ?_)
  refine r_iload_n (i := 0) hX dX7_set_1 rfl (RR.pc (b := 2) rfl ?_)
  refine r_callVie hX dX7_set_2 ml_X7_85 cd_X7_isMule iv_X7_isMule (c_X7_isMule hN h8) (by decide) (by first | rfl | assumption) rfl rfl rfl rfl (Nat.le_of_ble_eq_true rfl) (RR.pc (b := 5) rfl ?_)
  refine r_if_eq_b (tgt := 16) hX dX7_set_5 rfl (fun h5 => ?_) (fun h5 => RR.pc (b := 8) rfl ?_)
  · refine r_ldc hX dX7_set_16 kc_X7_75 (RR.pc (b := 18) rfl ?_)
    exact r_iret hX hZ dX7_set_18 ⟨_, rfl, (by first | (unfold setF; rw [ix_none h5]; exact ⟨rfl, sr_self.symm⟩) | (rw [setF_bad ha h8 (f2.mp h13)]; exact ⟨rfl, sr_self.symm⟩))⟩
  · obtain ⟨a, ha, rfl⟩ := ix_of h5 (by omega)
    have lm := layM0 (i := a) (by omega)
    refine r_iload_n (i := 0) hX dX7_set_8 rfl (RR.pc (b := 9) rfl ?_)
    refine r_iload_n (i := 0) hX dX7_set_9 rfl (RR.pc (b := 10) rfl ?_)
    refine r_callSi hX dX7_set_10 ml_X7_124 cd_X7_fits st_X7_fits c_X7_fits (by decide) rfl rfl (Nat.le_of_ble_eq_true rfl) (fun r_10 s_10 e_10 => RR.pc (b := 13) rfl ?_)
    obtain ⟨f1, f2, rfl⟩ := e_10
    refine r_if_ne (tgt := 19) hX dX7_set_13 rfl (fun h13 => ?_) (fun h13 => RR.pc (b := 16) rfl ?_)
    · have hf : fitP what v := Classical.byContradiction (fun z => h13 (f2.mpr z))
      obtain ⟨j, j1, j4, ej, hF⟩ := setF_ok (w := s_10 0) ha h8 hf
      refine r_aload_n hX dX7_set_19 rfl ⟨_, rfl⟩ (RR.pc (b := 20) rfl ?_)
      refine r_getr hX dX7_set_20 fl_X7_39 (by first | rfl | assumption) rfl (RR.pc (b := 23) rfl ?_)
      refine r_getr hX dX7_set_23 fl_X7_88 (by first | rfl | assumption) rfl (RR.pc (b := 26) rfl ?_)
      refine r_iload_n (i := 0) hX dX7_set_26 rfl (RR.pc (b := 27) rfl ?_)
      refine r_aald hX dX7_set_27 (by first | rfl | assumption) ⟨_, rfl⟩ rfl (by omega) (by decide) (RR.pc (b := 28) rfl ?_)
      refine r_astore hX dX7_set_28 (by decide) ⟨_, rfl⟩ (RR.pc (b := 30) rfl ?_)
      refine r_iload_n (i := 0) hX dX7_set_30 rfl (RR.pc (b := 31) rfl ?_)
      by_cases h31_1 : what = 1
      · refine r_tableIn (tgt := 56) hX dX7_set_31 (by rw [h31_1]; decide) (by rw [h31_1]; decide) (by rw [h31_1]; rfl) rfl ?_
        refine r_aload hX dX7_set_56 rfl ⟨_, rfl⟩ (RR.pc (b := 58) rfl ?_)
        refine r_geti hX dX7_set_58 fl_X7_97 (by first | rfl | assumption) rfl (RR.pc (b := 61) rfl ?_)
        refine r_istore hX dX7_set_61 (by decide) (RR.pc (b := 63) rfl ?_)
        refine r_aload hX dX7_set_63 rfl ⟨_, rfl⟩ (RR.pc (b := 65) rfl ?_)
        refine r_iload_n (i := 0) hX dX7_set_65 rfl (RR.pc (b := 66) rfl ?_)
        refine r_puti hX dX7_set_66 fl_X7_97 (by first | rfl | assumption) rfl ft_0_1 (RR.pc (b := 69) rfl ?_)
        refine r_iload hX dX7_set_69 rfl (RR.pc (b := 71) rfl ?_)
        exact r_iret hX hZ dX7_set_71 ⟨_, rfl, (by rw [hF]; have : j = 1 := (nI_eq (a := j) (b := 1) (by omega) (by omega)).mp (ej.symm.trans h31_1); subst this; exact ⟨rfl, rfl⟩)⟩
      by_cases h31_2 : what = 2
      · refine r_tableIn (tgt := 72) hX dX7_set_31 (by rw [h31_2]; decide) (by rw [h31_2]; decide) (by rw [h31_2]; rfl) rfl ?_
        refine r_aload hX dX7_set_72 rfl ⟨_, rfl⟩ (RR.pc (b := 74) rfl ?_)
        refine r_geti hX dX7_set_74 fl_X7_100 (by first | rfl | assumption) rfl (RR.pc (b := 77) rfl ?_)
        refine r_istore hX dX7_set_77 (by decide) (RR.pc (b := 79) rfl ?_)
        refine r_aload hX dX7_set_79 rfl ⟨_, rfl⟩ (RR.pc (b := 81) rfl ?_)
        refine r_iload_n (i := 0) hX dX7_set_81 rfl (RR.pc (b := 82) rfl ?_)
        refine r_puti hX dX7_set_82 fl_X7_100 (by first | rfl | assumption) rfl ft_0_2 (RR.pc (b := 85) rfl ?_)
        refine r_iload hX dX7_set_85 rfl (RR.pc (b := 87) rfl ?_)
        exact r_iret hX hZ dX7_set_87 ⟨_, rfl, (by rw [hF]; have : j = 2 := (nI_eq (a := j) (b := 2) (by omega) (by omega)).mp (ej.symm.trans h31_2); subst this; exact ⟨rfl, rfl⟩)⟩
      by_cases h31_3 : what = 3
      · refine r_tableIn (tgt := 88) hX dX7_set_31 (by rw [h31_3]; decide) (by rw [h31_3]; decide) (by rw [h31_3]; rfl) rfl ?_
        refine r_aload hX dX7_set_88 rfl ⟨_, rfl⟩ (RR.pc (b := 90) rfl ?_)
        refine r_geti hX dX7_set_90 fl_X7_103 (by first | rfl | assumption) rfl (RR.pc (b := 93) rfl ?_)
        refine r_istore hX dX7_set_93 (by decide) (RR.pc (b := 95) rfl ?_)
        refine r_aload hX dX7_set_95 rfl ⟨_, rfl⟩ (RR.pc (b := 97) rfl ?_)
        refine r_iload_n (i := 0) hX dX7_set_97 rfl (RR.pc (b := 98) rfl ?_)
        refine r_puti hX dX7_set_98 fl_X7_103 (by first | rfl | assumption) rfl ft_0_3 (RR.pc (b := 101) rfl ?_)
        refine r_iload hX dX7_set_101 rfl (RR.pc (b := 103) rfl ?_)
        exact r_iret hX hZ dX7_set_103 ⟨_, rfl, (by rw [hF]; have : j = 3 := (nI_eq (a := j) (b := 3) (by omega) (by omega)).mp (ej.symm.trans h31_3); subst this; exact ⟨rfl, rfl⟩)⟩
      refine r_tableOut (tgt := 104) hX dX7_set_31 (by have n0 : (what).toInt ≠ 1 := ne_toInt h31_1; have n1 : (what).toInt ≠ 2 := ne_toInt h31_2; have n2 : (what).toInt ≠ 3 := ne_toInt h31_3; omega) rfl ?_
      refine r_aload hX dX7_set_104 rfl ⟨_, rfl⟩ (RR.pc (b := 106) rfl ?_)
      refine r_geti hX dX7_set_106 fl_X7_106 (by first | rfl | assumption) rfl (RR.pc (b := 109) rfl ?_)
      refine r_istore hX dX7_set_109 (by decide) (RR.pc (b := 111) rfl ?_)
      refine r_aload hX dX7_set_111 rfl ⟨_, rfl⟩ (RR.pc (b := 113) rfl ?_)
      refine r_iload_n (i := 0) hX dX7_set_113 rfl (RR.pc (b := 114) rfl ?_)
      refine r_puti hX dX7_set_114 fl_X7_106 (by first | rfl | assumption) rfl ft_0_4 (RR.pc (b := 117) rfl ?_)
      refine r_iload hX dX7_set_117 rfl (RR.pc (b := 119) rfl ?_)
      exact r_iret hX hZ dX7_set_119 ⟨_, rfl, (by rw [hF]; have q1 : j ≠ 1 := (fun z => h31_1 (by rw [ej, z]; rfl)); have q2 : j ≠ 2 := (fun z => h31_2 (by rw [ej, z]; rfl)); have q3 : j ≠ 3 := (fun z => h31_3 (by rw [ej, z]; rfl)); have : j = 4 := (by omega); subst this; exact ⟨rfl, rfl⟩)⟩
    · refine r_ldc hX dX7_set_16 kc_X7_75 (RR.pc (b := 18) rfl ?_)
      exact r_iret hX hZ dX7_set_18 ⟨_, rfl, (by first | (unfold setF; rw [ix_none h5]; exact ⟨rfl, sr_self.symm⟩) | (rw [setF_bad ha h8 (f2.mp h13)]; exact ⟨rfl, sr_self.symm⟩))⟩
set_option maxHeartbeats 4000000 in
set_option maxRecDepth 100000 in
theorem c_X7_rule {G : GM} {σ : SG} {what v : Int32} : CI G yX7_rule cX7_rule 4 (some .int) 1 [rf G 0, .int what, .int v] σ (fun r s => r = (ruleF (σ 0) what v).1 ∧ s = sr σ 0 (ruleF (σ 0) what v).2) := by
  refine Con.of cd_X7_rule (Nat.le_of_ble_eq_true rfl) ?_
  intro X hX hZ
  have hX : Fx X G RX7 cX7_rule 4 1 := hX
  show RR X G 4 0 (ll [(0, rf G 0), (1, .int what), (2, .int v)]) [] σ
  refine r_iload_n (i := 0) hX dX7_rule_0 rfl (RR.pc (b := 1) rfl ?_)
  refine r_iconst (v := 0) hX dX7_rule_1 (by decide) (RR.pc (b := 2) rfl ?_)
  refine r_iconst (v := 3) hX dX7_rule_2 (by decide) (RR.pc (b := 3) rfl ?_)
  refine r_callSie hX dX7_rule_3 ml_X7_71 cd_X7_within st_X7_within c_X7_within (by decide) rfl rfl (Nat.le_of_ble_eq_true rfl) (RR.pc (b := 6) rfl ?_)
  refine r_if_eq_b (tgt := 26) hX dX7_rule_6 rfl (fun h6 => ?_) (fun h6 => RR.pc (b := 9) rfl ?_)
  · try simp only [Int32.reduceToInt] at h6
    refine r_ldc hX dX7_rule_26 kc_X7_75 (RR.pc (b := 28) rfl ?_)
    exact r_iret hX hZ dX7_rule_28 ⟨_, rfl, (by first | (rw [ruleF_bad (by rintro (⟨rfl, _⟩ | ⟨rfl, _⟩ | ⟨rfl, _⟩ | ⟨rfl, _⟩) <;> exact h6 (by decide))]; exact ⟨rfl, sr_self.symm⟩) | (rw [ruleF_bad (by rcases (show b = 0 ∨ b = 1 ∨ b = 2 ∨ b = 3 by omega) with rfl | rfl | rfl | rfl <;> rintro (⟨e, c⟩ | ⟨e, c⟩ | ⟨e, c⟩ | ⟨e, c⟩) <;> first | exact absurd e (by decide) | exact h23 c)]; exact ⟨rfl, sr_self.symm⟩))⟩
  · try simp only [Int32.reduceToInt] at h6
    obtain ⟨b, hb, rfl⟩ := ix_of (n := 4) (k := what) ⟨by omega, by omega⟩ (by omega)
    refine r_iload_n (i := 0) hX dX7_rule_9 rfl (RR.pc (b := 10) rfl ?_)
    refine r_gets1 hX dX7_rule_10 sl_X7_128 (RR.pc (b := 13) rfl ?_)
    refine r_iload_n (i := 0) hX dX7_rule_13 rfl (RR.pc (b := 14) rfl ?_)
    refine r_tald1 hX dX7_rule_14  rfl hb (RR.pc (b := 15) rfl ?_)
    refine r_gets2 hX dX7_rule_15 sl_X7_131 (RR.pc (b := 18) rfl ?_)
    refine r_iload_n (i := 0) hX dX7_rule_18 rfl (RR.pc (b := 19) rfl ?_)
    refine r_tald2 hX dX7_rule_19  rfl hb (RR.pc (b := 20) rfl ?_)
    refine r_callSie hX dX7_rule_20 ml_X7_71 cd_X7_within st_X7_within c_X7_within (by decide) rfl rfl (Nat.le_of_ble_eq_true rfl) (RR.pc (b := 23) rfl ?_)
    refine r_if_ne_b (tgt := 29) hX dX7_rule_23 rfl (fun h23 => ?_) (fun h23 => RR.pc (b := 26) rfl ?_)
    · try simp only [Int32.reduceToInt] at h23
      refine r_aload_n hX dX7_rule_29 rfl ⟨_, rfl⟩ (RR.pc (b := 30) rfl ?_)
      refine r_getr hX dX7_rule_30 fl_X7_39 (by first | rfl | assumption) rfl (RR.pc (b := 33) rfl ?_)
      refine r_getr hX dX7_rule_33 fl_X7_134 (by first | rfl | assumption) rfl (RR.pc (b := 36) rfl ?_)
      refine r_iload_n (i := 0) hX dX7_rule_36 rfl (RR.pc (b := 37) rfl ?_)
      refine r_iald hX dX7_rule_37 (by first | rfl | assumption) rfl (by omega) (by decide) (by first | exact Nat.zero_add _ | rfl) (RR.pc (b := 38) rfl ?_)
      refine r_istore_n hX dX7_rule_38 (by decide) (RR.pc (b := 39) rfl ?_)
      refine r_aload_n hX dX7_rule_39 rfl ⟨_, rfl⟩ (RR.pc (b := 40) rfl ?_)
      refine r_getr hX dX7_rule_40 fl_X7_39 (by first | rfl | assumption) rfl (RR.pc (b := 43) rfl ?_)
      refine r_getr hX dX7_rule_43 fl_X7_134 (by first | rfl | assumption) rfl (RR.pc (b := 46) rfl ?_)
      refine r_iload_n (i := 0) hX dX7_rule_46 rfl (RR.pc (b := 47) rfl ?_)
      refine r_iload_n (i := 0) hX dX7_rule_47 rfl (RR.pc (b := 48) rfl ?_)
      refine r_iast hX dX7_rule_48 (by first | rfl | assumption) rfl (by omega) (by decide) (by first | exact Nat.zero_add _ | rfl) (RR.pc (b := 49) rfl ?_)
      refine r_iload_n (i := 0) hX dX7_rule_49 rfl (RR.pc (b := 50) rfl ?_)
      exact r_iret hX hZ dX7_rule_50 ⟨_, rfl, (by obtain ⟨b', hb', e', q⟩ := ruleF_ok (w := σ 0) (what := nI b) (v := v) (by rcases (show b = 0 ∨ b = 1 ∨ b = 2 ∨ b = 3 by omega) with rfl | rfl | rfl | rfl; exact Or.inl ⟨rfl, h23⟩; exact Or.inr (Or.inl ⟨rfl, h23⟩); exact Or.inr (Or.inr (Or.inl ⟨rfl, h23⟩)); exact Or.inr (Or.inr (Or.inr ⟨rfl, h23⟩))); rw [q]; have : b = b' := (nI_eq (by omega) (by omega)).mp e'; subst this; exact ⟨rfl, rfl⟩)⟩
    · try simp only [Int32.reduceToInt] at h23
      refine r_ldc hX dX7_rule_26 kc_X7_75 (RR.pc (b := 28) rfl ?_)
      exact r_iret hX hZ dX7_rule_28 ⟨_, rfl, (by first | (rw [ruleF_bad (by rintro (⟨rfl, _⟩ | ⟨rfl, _⟩ | ⟨rfl, _⟩ | ⟨rfl, _⟩) <;> exact h6 (by decide))]; exact ⟨rfl, sr_self.symm⟩) | (rw [ruleF_bad (by rcases (show b = 0 ∨ b = 1 ∨ b = 2 ∨ b = 3 by omega) with rfl | rfl | rfl | rfl <;> rintro (⟨e, c⟩ | ⟨e, c⟩ | ⟨e, c⟩ | ⟨e, c⟩) <;> first | exact absurd e (by decide) | exact h23 c)]; exact ⟨rfl, sr_self.symm⟩))⟩
