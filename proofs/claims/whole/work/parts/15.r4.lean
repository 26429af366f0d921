/-! the reference: mules, yards, minutes -/
theorem upd_upd {f : Nat → Int32} {k : Nat} {x y : Int32} : upd (upd f k x) k y = upd f k y := by
  funext j
  unfold upd
  split <;> rfl
set_option maxHeartbeats 4000000 in
set_option maxRecDepth 100000 in
theorem c_X8_comes {G : GM} {σ : SG} {n : Nat} {kind pace grain hole : Int32} (hN : σ 20 0 = nI n) (h8 : n < 8) : CU G yX8_comes cX8_comes 6 none 1 [rf G 109, .int kind, .int pace, .int grain, .int hole] σ (fun s => s = sr σ 20 (addM (σ 20) n kind pace grain hole)) := by
  refine Con.of cd_X8_comes (Nat.le_of_ble_eq_true rfl) ?_
  intro X hX hZ
  have hX : Fx X G RX8 cX8_comes 6 1 := hX
  show RR X G 6 0 (ll [(0, rf G 109), (1, .int kind), (2, .int pace), (3, .int grain), (4, .int hole)]) [] σ
  refine r_aload_n hX dX8_comes_0 rfl ⟨_, rfl⟩ (RR.pc (b := 1) rfl ?_)
  refine r_getr hX dX8_comes_1 fl_X8_7 (by first | rfl | assumption) rfl (RR.pc (b := 4) rfl ?_)
  refine r_iconst (v := 0) hX dX8_comes_4 (by decide) (RR.pc (b := 5) rfl ?_)
  refine r_iald hX dX8_comes_5 (by first | rfl | assumption) (by first | rfl | assumption) (by first | decide | assumption | omega) (by decide) (by first | exact Nat.zero_add _ | rfl) (RR.pc (b := 6) rfl ?_)
  rw [hN]
  refine r_istore hX dX8_comes_6 (by decide) (RR.pc (b := 8) rfl ?_)
  refine r_aload_n hX dX8_comes_8 rfl ⟨_, rfl⟩ (RR.pc (b := 9) rfl ?_)
  refine r_getr hX dX8_comes_9 fl_X8_7 (by first | rfl | assumption) rfl (RR.pc (b := 12) rfl ?_)
  refine r_iconst (v := 0) hX dX8_comes_12 (by decide) (RR.pc (b := 13) rfl ?_)
  refine r_dup2_11 hX dX8_comes_13 rfl rfl (RR.pc (b := 14) rfl ?_)
  refine r_iald hX dX8_comes_14 (by first | rfl | assumption) (by first | rfl | assumption) (by first | decide | assumption | omega) (by decide) (by first | exact Nat.zero_add _ | rfl) (RR.pc (b := 15) rfl ?_)
  rw [hN]
  refine r_iconst (v := 1) hX dX8_comes_15 (by decide) (RR.pc (b := 16) rfl ?_)
  refine r_iadd hX dX8_comes_16 (RR.pc (b := 17) rfl ?_)
  rw [nI_1]
  refine r_iast hX dX8_comes_17 (by first | rfl | assumption) (by first | rfl | assumption) (by first | decide | assumption | omega) (by decide) (by first | exact Nat.zero_add _ | rfl) (RR.pc (b := 18) rfl ?_)
  refine r_aload_n hX dX8_comes_18 rfl ⟨_, rfl⟩ (RR.pc (b := 19) rfl ?_)
  refine r_iload hX dX8_comes_19 rfl (RR.pc (b := 21) rfl ?_)
  refine r_iconst (v := 0) hX dX8_comes_21 (by decide) (RR.pc (b := 22) rfl ?_)
  refine r_iload_n (i := 0) hX dX8_comes_22 rfl (RR.pc (b := 23) rfl ?_)
  refine r_callVve hX dX8_comes_23 ml_X8_72 cd_X8_sets iv_X8_sets (c_X8_sets (a := n) (b := 0) (q := 131 + 5 * n) rfl rfl rfl (by omega)) (by decide) (by first | rfl | assumption) rfl rfl rfl rfl (Nat.le_of_ble_eq_true rfl) (RR.pc (b := 26) rfl ?_)
  refine r_aload_n hX dX8_comes_26 rfl ⟨_, rfl⟩ (RR.pc (b := 27) rfl ?_)
  refine r_iload hX dX8_comes_27 rfl (RR.pc (b := 29) rfl ?_)
  refine r_iconst (v := 1) hX dX8_comes_29 (by decide) (RR.pc (b := 30) rfl ?_)
  refine r_iload_n (i := 0) hX dX8_comes_30 rfl (RR.pc (b := 31) rfl ?_)
  refine r_callVve hX dX8_comes_31 ml_X8_72 cd_X8_sets iv_X8_sets (c_X8_sets (a := n) (b := 1) (q := 131 + 5 * n + 1) rfl rfl rfl (by omega)) (by decide) (by first | rfl | assumption) rfl rfl rfl rfl (Nat.le_of_ble_eq_true rfl) (RR.pc (b := 34) rfl ?_)
  refine r_aload_n hX dX8_comes_34 rfl ⟨_, rfl⟩ (RR.pc (b := 35) rfl ?_)
  refine r_iload hX dX8_comes_35 rfl (RR.pc (b := 37) rfl ?_)
  refine r_iconst (v := 2) hX dX8_comes_37 (by decide) (RR.pc (b := 38) rfl ?_)
  refine r_iconst (v := 0) hX dX8_comes_38 (by decide) (RR.pc (b := 39) rfl ?_)
  refine r_callVve hX dX8_comes_39 ml_X8_72 cd_X8_sets iv_X8_sets (c_X8_sets (a := n) (b := 2) (q := 131 + 5 * n + 2) rfl rfl rfl (by omega)) (by decide) (by first | rfl | assumption) rfl rfl rfl rfl (Nat.le_of_ble_eq_true rfl) (RR.pc (b := 42) rfl ?_)
  refine r_aload_n hX dX8_comes_42 rfl ⟨_, rfl⟩ (RR.pc (b := 43) rfl ?_)
  refine r_iload hX dX8_comes_43 rfl (RR.pc (b := 45) rfl ?_)
  refine r_iconst (v := 3) hX dX8_comes_45 (by decide) (RR.pc (b := 46) rfl ?_)
  refine r_iload_n (i := 0) hX dX8_comes_46 rfl (RR.pc (b := 47) rfl ?_)
  refine r_callVve hX dX8_comes_47 ml_X8_72 cd_X8_sets iv_X8_sets (c_X8_sets (a := n) (b := 3) (q := 131 + 5 * n + 3) rfl rfl rfl (by omega)) (by decide) (by first | rfl | assumption) rfl rfl rfl rfl (Nat.le_of_ble_eq_true rfl) (RR.pc (b := 50) rfl ?_)
  refine r_aload_n hX dX8_comes_50 rfl ⟨_, rfl⟩ (RR.pc (b := 51) rfl ?_)
  refine r_iload hX dX8_comes_51 rfl (RR.pc (b := 53) rfl ?_)
  refine r_iconst (v := 4) hX dX8_comes_53 (by decide) (RR.pc (b := 54) rfl ?_)
  refine r_iload hX dX8_comes_54 rfl (RR.pc (b := 56) rfl ?_)
  refine r_callVve hX dX8_comes_56 ml_X8_72 cd_X8_sets iv_X8_sets (c_X8_sets (a := n) (b := 4) (q := 131 + 5 * n + 4) rfl rfl rfl (by omega)) (by decide) (by first | rfl | assumption) rfl rfl rfl rfl (Nat.le_of_ble_eq_true rfl) (RR.pc (b := 59) rfl ?_)
  exact r_vret hX hZ dX8_comes_59 ⟨rfl, by simp only [su, sr_eq, sr_sr]; rfl⟩
set_option maxHeartbeats 4000000 in
set_option maxRecDepth 100000 in
theorem c_X8_mule {G : GM} {σ : SG} {n : Nat} {kind pace grain hole : Int32} (hN : σ 20 0 = nI n) (h8 : n ≤ 8) : CI G yX8_mule cX8_mule 5 (some .int) 2 [rf G 109, .int kind, .int pace, .int grain, .int hole] σ (fun r s => r = (muleF (σ 20) n kind pace grain hole).1 ∧ s = sr σ 20 (muleF (σ 20) n kind pace grain hole).2) := by
  refine Con.of cd_X8_mule (Nat.le_of_ble_eq_true rfl) ?_
  intro X hX hZ
  have hX : Fx X G RX8 cX8_mule 5 2 := hX
  show RR X G 5 0 (ll [(0, rf G 109), (1, .int kind), (2, .int pace), (3, .int grain), (4, .int hole)]) [] σ
  refine r_iload_n (i := 0) hX dX8_mule_0 rfl (RR.pc (b := 1) rfl ?_)
  refine r_i2l hX dX8_mule_1 (RR.pc (b := 2) rfl ?_)
  refine r_lconst (v := 0) hX dX8_mule_2 rfl (RR.pc (b := 3) rfl ?_)
  refine r_ldc2 hX dX8_mule_3 k2_X8_76 (RR.pc (b := 6) rfl ?_)
  refine r_callSie hX dX8_mule_6 ml_X8_65 cd_X8_isIn st_X8_isIn c_X8_isIn (by decide) rfl rfl (Nat.le_of_ble_eq_true rfl) (RR.pc (b := 9) rfl ?_)
  refine r_if_eq_b (tgt := 49) hX dX8_mule_9 rfl (fun h9 => ?_) (fun h9 => RR.pc (b := 12) rfl ?_)
  · simp only [Int32.toInt_toInt64, Int64.reduceToInt] at h9
    refine r_ldc hX dX8_mule_49 kc_X8_84 (RR.pc (b := 51) rfl ?_)
    exact r_iret hX hZ dX8_mule_51 ⟨_, rfl, by clear hZ hX; unfold muleF; (repeat' split) <;> first | exact ⟨rfl, sr_self.symm⟩ | exact ⟨by rw [addM_0]; exact nI_pred n, rfl⟩ | (exfalso; omega)⟩
  · simp only [Int32.toInt_toInt64, Int64.reduceToInt] at h9
    refine r_iload_n (i := 0) hX dX8_mule_12 rfl (RR.pc (b := 13) rfl ?_)
    refine r_i2l hX dX8_mule_13 (RR.pc (b := 14) rfl ?_)
    refine r_lconst (v := 0) hX dX8_mule_14 rfl (RR.pc (b := 15) rfl ?_)
    refine r_ldc2 hX dX8_mule_15 k2_X8_78 (RR.pc (b := 18) rfl ?_)
    refine r_callSie hX dX8_mule_18 ml_X8_65 cd_X8_isIn st_X8_isIn c_X8_isIn (by decide) rfl rfl (Nat.le_of_ble_eq_true rfl) (RR.pc (b := 21) rfl ?_)
    refine r_if_eq_b (tgt := 49) hX dX8_mule_21 rfl (fun h21 => ?_) (fun h21 => RR.pc (b := 24) rfl ?_)
    · simp only [Int32.toInt_toInt64, Int64.reduceToInt] at h21
      refine r_ldc hX dX8_mule_49 kc_X8_84 (RR.pc (b := 51) rfl ?_)
      exact r_iret hX hZ dX8_mule_51 ⟨_, rfl, by clear hZ hX; unfold muleF; (repeat' split) <;> first | exact ⟨rfl, sr_self.symm⟩ | exact ⟨by rw [addM_0]; exact nI_pred n, rfl⟩ | (exfalso; omega)⟩
    · simp only [Int32.toInt_toInt64, Int64.reduceToInt] at h21
      refine r_iload_n (i := 0) hX dX8_mule_24 rfl (RR.pc (b := 25) rfl ?_)
      refine r_i2l hX dX8_mule_25 (RR.pc (b := 26) rfl ?_)
      refine r_lconst (v := 0) hX dX8_mule_26 rfl (RR.pc (b := 27) rfl ?_)
      refine r_ldc2 hX dX8_mule_27 k2_X8_80 (RR.pc (b := 30) rfl ?_)
      refine r_callSie hX dX8_mule_30 ml_X8_65 cd_X8_isIn st_X8_isIn c_X8_isIn (by decide) rfl rfl (Nat.le_of_ble_eq_true rfl) (RR.pc (b := 33) rfl ?_)
      refine r_if_eq_b (tgt := 49) hX dX8_mule_33 rfl (fun h33 => ?_) (fun h33 => RR.pc (b := 36) rfl ?_)
      · simp only [Int32.toInt_toInt64, Int64.reduceToInt] at h33
        refine r_ldc hX dX8_mule_49 kc_X8_84 (RR.pc (b := 51) rfl ?_)
        exact r_iret hX hZ dX8_mule_51 ⟨_, rfl, by clear hZ hX; unfold muleF; (repeat' split) <;> first | exact ⟨rfl, sr_self.symm⟩ | exact ⟨by rw [addM_0]; exact nI_pred n, rfl⟩ | (exfalso; omega)⟩
      · simp only [Int32.toInt_toInt64, Int64.reduceToInt] at h33
        refine r_iload hX dX8_mule_36 rfl (RR.pc (b := 38) rfl ?_)
        refine r_i2l hX dX8_mule_38 (RR.pc (b := 39) rfl ?_)
        refine r_lconst (v := 0) hX dX8_mule_39 rfl (RR.pc (b := 40) rfl ?_)
        refine r_ldc2 hX dX8_mule_40 k2_X8_82 (RR.pc (b := 43) rfl ?_)
        refine r_callSie hX dX8_mule_43 ml_X8_65 cd_X8_isIn st_X8_isIn c_X8_isIn (by decide) rfl rfl (Nat.le_of_ble_eq_true rfl) (RR.pc (b := 46) rfl ?_)
        refine r_if_ne_b (tgt := 52) hX dX8_mule_46 rfl (fun h46 => ?_) (fun h46 => RR.pc (b := 49) rfl ?_)
        · simp only [Int32.toInt_toInt64, Int64.reduceToInt] at h46
          refine r_aload_n hX dX8_mule_52 rfl ⟨_, rfl⟩ (RR.pc (b := 53) rfl ?_)
          refine r_getr hX dX8_mule_53 fl_X8_7 (by first | rfl | assumption) rfl (RR.pc (b := 56) rfl ?_)
          refine r_iconst (v := 0) hX dX8_mule_56 (by decide) (RR.pc (b := 57) rfl ?_)
          refine r_iald hX dX8_mule_57 (by first | rfl | assumption) (by first | rfl | assumption) (by first | decide | assumption | omega) (by decide) (by first | exact Nat.zero_add _ | rfl) (RR.pc (b := 58) rfl ?_)
          rw [hN]
          refine r_bipush (v := 8) hX dX8_mule_58 (by decide) (RR.pc (b := 60) rfl ?_)
          refine r_icmp_ne (tgt := 66) hX dX8_mule_60 rfl (fun h60 => ?_) (fun h60 => RR.pc (b := 63) rfl ?_)
          · have hn : n ≠ 8 := fun e => h60 (by rw [e]; rfl)
            refine r_aload_n hX dX8_mule_66 rfl ⟨_, rfl⟩ (RR.pc (b := 67) rfl ?_)
            refine r_iload_n (i := 0) hX dX8_mule_67 rfl (RR.pc (b := 68) rfl ?_)
            refine r_iload_n (i := 0) hX dX8_mule_68 rfl (RR.pc (b := 69) rfl ?_)
            refine r_iload_n (i := 0) hX dX8_mule_69 rfl (RR.pc (b := 70) rfl ?_)
            refine r_iload hX dX8_mule_70 rfl (RR.pc (b := 72) rfl ?_)
            refine r_callVve hX dX8_mule_72 ml_X8_86 cd_X8_comes iv_X8_comes (c_X8_comes hN (by omega)) (by decide) (by first | rfl | assumption) rfl rfl rfl rfl (Nat.le_of_ble_eq_true rfl) (RR.pc (b := 75) rfl ?_)
            refine r_aload_n hX dX8_mule_75 rfl ⟨_, rfl⟩ (RR.pc (b := 76) rfl ?_)
            refine r_getr hX dX8_mule_76 fl_X8_7 (by first | rfl | assumption) rfl (RR.pc (b := 79) rfl ?_)
            refine r_iconst (v := 0) hX dX8_mule_79 (by decide) (RR.pc (b := 80) rfl ?_)
            refine r_iald hX dX8_mule_80 (by first | rfl | assumption) (by first | rfl | assumption) (by first | decide | assumption | omega) (by decide) (by first | exact Nat.zero_add _ | rfl) (RR.pc (b := 81) rfl ?_)
            rw [sr_eq]
            refine r_iconst (v := 1) hX dX8_mule_81 (by decide) (RR.pc (b := 82) rfl ?_)
            refine r_isub hX dX8_mule_82 (RR.pc (b := 83) rfl ?_)
            exact r_iret hX hZ dX8_mule_83 ⟨_, rfl, by clear hZ hX; unfold muleF; (repeat' split) <;> first | exact ⟨rfl, sr_self.symm⟩ | exact ⟨by rw [addM_0]; exact nI_pred n, rfl⟩ | (exfalso; omega)⟩
          · have hn : n = 8 := (nI_eq (a := n) (b := 8) (by omega) (by omega)).mp h60
            refine r_ldc hX dX8_mule_63 kc_X8_85 (RR.pc (b := 65) rfl ?_)
            exact r_iret hX hZ dX8_mule_65 ⟨_, rfl, by clear hZ hX; unfold muleF; (repeat' split) <;> first | exact ⟨rfl, sr_self.symm⟩ | exact ⟨by rw [addM_0]; exact nI_pred n, rfl⟩ | (exfalso; omega)⟩
        · simp only [Int32.toInt_toInt64, Int64.reduceToInt] at h46
          refine r_ldc hX dX8_mule_49 kc_X8_84 (RR.pc (b := 51) rfl ?_)
          exact r_iret hX hZ dX8_mule_51 ⟨_, rfl, by clear hZ hX; unfold muleF; (repeat' split) <;> first | exact ⟨rfl, sr_self.symm⟩ | exact ⟨by rw [addM_0]; exact nI_pred n, rfl⟩ | (exfalso; omega)⟩
set_option maxHeartbeats 4000000 in
set_option maxRecDepth 100000 in
theorem c_X8_told {G : GM} {σ : SG} {Ts : Nat → Tx} {nt n : Nat} {k what : Int32} (hN : σ 20 0 = nI n) (h8 : n ≤ 8) (hT : RT (σ 20) Ts nt) : CI G yX8_told cX8_told 3 (some .int) 3 [rf G 109, .int k, .int what] σ (fun r s => r = toldF (lkV Ts nt) (σ 20) n k what ∧ same [33, 34] σ s) := by
  refine Con.of cd_X8_told (Nat.le_of_ble_eq_true rfl) ?_
  intro X hX hZ
  have hX : Fx X G RX8 cX8_told 3 3 := hX
  show RR X G 3 0 (ll [(0, rf G 109), (1, .int k), (2, .int what)]) [] σ
  refine r_aload_n hX dX8_told_0 rfl ⟨_, rfl⟩ (RR.pc (b := 1) rfl ?_)
  refine r_iload_n (i := 0) hX dX8_told_1 rfl (RR.pc (b := 2) rfl ?_)
  refine r_callVie hX dX8_told_2 ml_X8_104 cd_X8_isMule iv_X8_isMule (c_X8_isMule hN h8) (by decide) (by first | rfl | assumption) rfl rfl rfl rfl (Nat.le_of_ble_eq_true rfl) (RR.pc (b := 5) rfl ?_)
  refine r_if_ne_b (tgt := 11) hX dX8_told_5 rfl (fun h5 => ?_) (fun h5 => RR.pc (b := 8) rfl ?_)
  · obtain ⟨a, ha, rfl⟩ := ix_of h5 (by omega)
    refine r_iload_n (i := 0) hX dX8_told_11 rfl (RR.pc (b := 12) rfl ?_)
    by_cases h12_0 : what = 0
    · refine r_tableIn (tgt := 60) hX dX8_told_12 (by rw [h12_0]; decide) (by rw [h12_0]; decide) (by rw [h12_0]; rfl) rfl ?_
      refine r_aload_n hX dX8_told_60 rfl ⟨_, rfl⟩ (RR.pc (b := 61) rfl ?_)
      refine r_iload_n (i := 0) hX dX8_told_61 rfl (RR.pc (b := 62) rfl ?_)
      refine r_iload_n (i := 0) hX dX8_told_62 rfl (RR.pc (b := 63) rfl ?_)
      refine r_callVie hX dX8_told_63 ml_X8_90 cd_X8_of iv_X8_of (c_X8_of (a := a) rfl (by first | exact (h12_0 : what = nI 0) | exact (h12_1 : what = nI 1) | exact (h12_2 : what = nI 2) | exact (h12_3 : what = nI 3) | exact (h12_4 : what = nI 4)) rfl (by first | (show 131 + 5 * a + 0 < 3171; omega) | (show 131 + 5 * a + 1 < 3171; omega) | (show 131 + 5 * a + 2 < 3171; omega) | (show 131 + 5 * a + 3 < 3171; omega) | (show 131 + 5 * a + 4 < 3171; omega))) (by decide) (by first | rfl | assumption) rfl rfl rfl rfl (Nat.le_of_ble_eq_true rfl) (RR.pc (b := 66) rfl ?_)
      exact r_iret hX hZ dX8_told_66 ⟨_, rfl, ⟨by unfold toldF; first | (rw [ix_none h5]) | (rw [ix_some ha (by omega)]; simp_all), by first | assumption | exact same.rf⟩⟩
    by_cases h12_1 : what = 1
    · refine r_tableIn (tgt := 60) hX dX8_told_12 (by rw [h12_1]; decide) (by rw [h12_1]; decide) (by rw [h12_1]; rfl) rfl ?_
      refine r_aload_n hX dX8_told_60 rfl ⟨_, rfl⟩ (RR.pc (b := 61) rfl ?_)
      refine r_iload_n (i := 0) hX dX8_told_61 rfl (RR.pc (b := 62) rfl ?_)
      refine r_iload_n (i := 0) hX dX8_told_62 rfl (RR.pc (b := 63) rfl ?_)
      refine r_callVie hX dX8_told_63 ml_X8_90 cd_X8_of iv_X8_of (c_X8_of (a := a) rfl (by first | exact (h12_0 : what = nI 0) | exact (h12_1 : what = nI 1) | exact (h12_2 : what = nI 2) | exact (h12_3 : what = nI 3) | exact (h12_4 : what = nI 4)) rfl (by first | (show 131 + 5 * a + 0 < 3171; omega) | (show 131 + 5 * a + 1 < 3171; omega) | (show 131 + 5 * a + 2 < 3171; omega) | (show 131 + 5 * a + 3 < 3171; omega) | (show 131 + 5 * a + 4 < 3171; omega))) (by decide) (by first | rfl | assumption) rfl rfl rfl rfl (Nat.le_of_ble_eq_true rfl) (RR.pc (b := 66) rfl ?_)
      exact r_iret hX hZ dX8_told_66 ⟨_, rfl, ⟨by unfold toldF; first | (rw [ix_none h5]) | (rw [ix_some ha (by omega)]; simp_all), by first | assumption | exact same.rf⟩⟩
    by_cases h12_2 : what = 2
    · refine r_tableIn (tgt := 60) hX dX8_told_12 (by rw [h12_2]; decide) (by rw [h12_2]; decide) (by rw [h12_2]; rfl) rfl ?_
      refine r_aload_n hX dX8_told_60 rfl ⟨_, rfl⟩ (RR.pc (b := 61) rfl ?_)
      refine r_iload_n (i := 0) hX dX8_told_61 rfl (RR.pc (b := 62) rfl ?_)
      refine r_iload_n (i := 0) hX dX8_told_62 rfl (RR.pc (b := 63) rfl ?_)
      refine r_callVie hX dX8_told_63 ml_X8_90 cd_X8_of iv_X8_of (c_X8_of (a := a) rfl (by first | exact (h12_0 : what = nI 0) | exact (h12_1 : what = nI 1) | exact (h12_2 : what = nI 2) | exact (h12_3 : what = nI 3) | exact (h12_4 : what = nI 4)) rfl (by first | (show 131 + 5 * a + 0 < 3171; omega) | (show 131 + 5 * a + 1 < 3171; omega) | (show 131 + 5 * a + 2 < 3171; omega) | (show 131 + 5 * a + 3 < 3171; omega) | (show 131 + 5 * a + 4 < 3171; omega))) (by decide) (by first | rfl | assumption) rfl rfl rfl rfl (Nat.le_of_ble_eq_true rfl) (RR.pc (b := 66) rfl ?_)
      exact r_iret hX hZ dX8_told_66 ⟨_, rfl, ⟨by unfold toldF; first | (rw [ix_none h5]) | (rw [ix_some ha (by omega)]; simp_all), by first | assumption | exact same.rf⟩⟩
    by_cases h12_3 : what = 3
    · refine r_tableIn (tgt := 60) hX dX8_told_12 (by rw [h12_3]; decide) (by rw [h12_3]; decide) (by rw [h12_3]; rfl) rfl ?_
      refine r_aload_n hX dX8_told_60 rfl ⟨_, rfl⟩ (RR.pc (b := 61) rfl ?_)
      refine r_iload_n (i := 0) hX dX8_told_61 rfl (RR.pc (b := 62) rfl ?_)
      refine r_iload_n (i := 0) hX dX8_told_62 rfl (RR.pc (b := 63) rfl ?_)
      refine r_callVie hX dX8_told_63 ml_X8_90 cd_X8_of iv_X8_of (c_X8_of (a := a) rfl (by first | exact (h12_0 : what = nI 0) | exact (h12_1 : what = nI 1) | exact (h12_2 : what = nI 2) | exact (h12_3 : what = nI 3) | exact (h12_4 : what = nI 4)) rfl (by first | (show 131 + 5 * a + 0 < 3171; omega) | (show 131 + 5 * a + 1 < 3171; omega) | (show 131 + 5 * a + 2 < 3171; omega) | (show 131 + 5 * a + 3 < 3171; omega) | (show 131 + 5 * a + 4 < 3171; omega))) (by decide) (by first | rfl | assumption) rfl rfl rfl rfl (Nat.le_of_ble_eq_true rfl) (RR.pc (b := 66) rfl ?_)
      exact r_iret hX hZ dX8_told_66 ⟨_, rfl, ⟨by unfold toldF; first | (rw [ix_none h5]) | (rw [ix_some ha (by omega)]; simp_all), by first | assumption | exact same.rf⟩⟩
    by_cases h12_4 : what = 4
    · refine r_tableIn (tgt := 60) hX dX8_told_12 (by rw [h12_4]; decide) (by rw [h12_4]; decide) (by rw [h12_4]; rfl) rfl ?_
      refine r_aload_n hX dX8_told_60 rfl ⟨_, rfl⟩ (RR.pc (b := 61) rfl ?_)
      refine r_iload_n (i := 0) hX dX8_told_61 rfl (RR.pc (b := 62) rfl ?_)
      refine r_iload_n (i := 0) hX dX8_told_62 rfl (RR.pc (b := 63) rfl ?_)
      refine r_callVie hX dX8_told_63 ml_X8_90 cd_X8_of iv_X8_of (c_X8_of (a := a) rfl (by first | exact (h12_0 : what = nI 0) | exact (h12_1 : what = nI 1) | exact (h12_2 : what = nI 2) | exact (h12_3 : what = nI 3) | exact (h12_4 : what = nI 4)) rfl (by first | (show 131 + 5 * a + 0 < 3171; omega) | (show 131 + 5 * a + 1 < 3171; omega) | (show 131 + 5 * a + 2 < 3171; omega) | (show 131 + 5 * a + 3 < 3171; omega) | (show 131 + 5 * a + 4 < 3171; omega))) (by decide) (by first | rfl | assumption) rfl rfl rfl rfl (Nat.le_of_ble_eq_true rfl) (RR.pc (b := 66) rfl ?_)
      exact r_iret hX hZ dX8_told_66 ⟨_, rfl, ⟨by unfold toldF; first | (rw [ix_none h5]) | (rw [ix_some ha (by omega)]; simp_all), by first | assumption | exact same.rf⟩⟩
    by_cases h12_5 : what = 5
    · refine r_tableIn (tgt := 67) hX dX8_told_12 (by rw [h12_5]; decide) (by rw [h12_5]; decide) (by rw [h12_5]; rfl) rfl ?_
      refine r_aload_n hX dX8_told_67 rfl ⟨_, rfl⟩ (RR.pc (b := 68) rfl ?_)
      refine r_iload_n (i := 0) hX dX8_told_68 rfl (RR.pc (b := 69) rfl ?_)
      refine r_callVi hX dX8_told_69 ml_X8_108 cd_X8_leaks iv_X8_leaks (c_X8_leaks (Ts := Ts) (by omega) hT) (by decide) (by first | rfl | assumption) rfl rfl rfl rfl (Nat.le_of_ble_eq_true rfl) (fun r_69 s_69 e_69 => RR.pc (b := 72) rfl ?_)
      obtain ⟨rfl, hs⟩ := e_69
      exact r_iret hX hZ dX8_told_72 ⟨_, rfl, ⟨by unfold toldF; first | (rw [ix_none h5]) | (rw [ix_some ha (by omega)]; simp_all), by first | assumption | exact same.rf⟩⟩
    by_cases h12_6 : what = 6
    · refine r_tableIn (tgt := 73) hX dX8_told_12 (by rw [h12_6]; decide) (by rw [h12_6]; decide) (by rw [h12_6]; rfl) rfl ?_
      refine r_aload_n hX dX8_told_73 rfl ⟨_, rfl⟩ (RR.pc (b := 74) rfl ?_)
      refine r_iload_n (i := 0) hX dX8_told_74 rfl (RR.pc (b := 75) rfl ?_)
      refine r_callVie hX dX8_told_75 ml_X8_111 cd_X8_paces iv_X8_paces (c_X8_paces (by omega)) (by decide) (by first | rfl | assumption) rfl rfl rfl rfl (Nat.le_of_ble_eq_true rfl) (RR.pc (b := 78) rfl ?_)
      exact r_iret hX hZ dX8_told_78 ⟨_, rfl, ⟨by unfold toldF; first | (rw [ix_none h5]) | (rw [ix_some ha (by omega)]; simp_all), by first | assumption | exact same.rf⟩⟩
    by_cases h12_7 : what = 7
    · refine r_tableIn (tgt := 79) hX dX8_told_12 (by rw [h12_7]; decide) (by rw [h12_7]; decide) (by rw [h12_7]; rfl) rfl ?_
      refine r_aload_n hX dX8_told_79 rfl ⟨_, rfl⟩ (RR.pc (b := 80) rfl ?_)
      refine r_iload_n (i := 0) hX dX8_told_80 rfl (RR.pc (b := 81) rfl ?_)
      refine r_callVie hX dX8_told_81 ml_X8_114 cd_X8_worth iv_X8_worth (c_X8_worth (by omega)) (by decide) (by first | rfl | assumption) rfl rfl rfl rfl (Nat.le_of_ble_eq_true rfl) (RR.pc (b := 84) rfl ?_)
      exact r_iret hX hZ dX8_told_84 ⟨_, rfl, ⟨by unfold toldF; first | (rw [ix_none h5]) | (rw [ix_some ha (by omega)]; simp_all), by first | assumption | exact same.rf⟩⟩
    refine r_tableOut (tgt := 85) hX dX8_told_12 (by have n0 : (what).toInt ≠ 0 := ne_toInt h12_0; have n1 : (what).toInt ≠ 1 := ne_toInt h12_1; have n2 : (what).toInt ≠ 2 := ne_toInt h12_2; have n3 : (what).toInt ≠ 3 := ne_toInt h12_3; have n4 : (what).toInt ≠ 4 := ne_toInt h12_4; have n5 : (what).toInt ≠ 5 := ne_toInt h12_5; have n6 : (what).toInt ≠ 6 := ne_toInt h12_6; have n7 : (what).toInt ≠ 7 := ne_toInt h12_7; omega) rfl ?_
    refine r_ldc hX dX8_told_85 kc_X8_84 (RR.pc (b := 87) rfl ?_)
    exact r_iret hX hZ dX8_told_87 ⟨_, rfl, ⟨by unfold toldF; first | (rw [ix_none h5]) | (rw [ix_some ha (by omega)]; simp_all), by first | assumption | exact same.rf⟩⟩
  · refine r_ldc hX dX8_told_8 kc_X8_84 (RR.pc (b := 10) rfl ?_)
    exact r_iret hX hZ dX8_told_10 ⟨_, rfl, ⟨by unfold toldF; first | (rw [ix_none h5]) | (rw [ix_some ha (by omega)]; simp_all), by first | assumption | exact same.rf⟩⟩
set_option maxHeartbeats 4000000 in
set_option maxRecDepth 100000 in
theorem c_X8_isOf {G : GM} {σ : SG} {own kind : Int32} : CI G yX8_isOf cX8_isOf 2 (some .boolean) 0 [.int own, .int kind] σ (fun r s => r = bz (own = kind ∨ kind = 0 ∨ (kind = 1 ∧ own = 3) ∨ (kind = 2 ∧ own = 4)) ∧ s = σ) := by
  refine Con.of cd_X8_isOf (Nat.le_of_ble_eq_true rfl) ?_
  intro X hX hZ
  have hX : Fx X G RX8 cX8_isOf 2 0 := hX
  show RR X G 2 0 (ll [(0, .int own), (1, .int kind)]) [] σ
  refine r_iload_n (i := 0) hX dX8_isOf_0 rfl (RR.pc (b := 1) rfl ?_)
  refine r_iload_n (i := 0) hX dX8_isOf_1 rfl (RR.pc (b := 2) rfl ?_)
  refine r_icmp_eq (tgt := 29) hX dX8_isOf_2 rfl (fun h2 => ?_) (fun h2 => RR.pc (b := 5) rfl ?_)
  · refine r_iconst (v := 1) hX dX8_isOf_29 (by decide) (RR.pc (b := 30) rfl ?_)
    refine r_goto (tgt := 34) hX dX8_isOf_30 rfl ?_
    exact r_zret hX hZ dX8_isOf_34 (by first | rfl | exact nar_bz _) ⟨_, rfl, ⟨by first | exact (bz_t (by simp_all)).symm | exact (bz_f (by simp_all)).symm, rfl⟩⟩
  · refine r_iload_n (i := 0) hX dX8_isOf_5 rfl (RR.pc (b := 6) rfl ?_)
    refine r_if_eq (tgt := 29) hX dX8_isOf_6 rfl (fun h6 => ?_) (fun h6 => RR.pc (b := 9) rfl ?_)
    · refine r_iconst (v := 1) hX dX8_isOf_29 (by decide) (RR.pc (b := 30) rfl ?_)
      refine r_goto (tgt := 34) hX dX8_isOf_30 rfl ?_
      exact r_zret hX hZ dX8_isOf_34 (by first | rfl | exact nar_bz _) ⟨_, rfl, ⟨by first | exact (bz_t (by simp_all)).symm | exact (bz_f (by simp_all)).symm, rfl⟩⟩
    · refine r_iload_n (i := 0) hX dX8_isOf_9 rfl (RR.pc (b := 10) rfl ?_)
      refine r_iconst (v := 1) hX dX8_isOf_10 (by decide) (RR.pc (b := 11) rfl ?_)
      refine r_icmp_ne (tgt := 19) hX dX8_isOf_11 rfl (fun h11 => ?_) (fun h11 => RR.pc (b := 14) rfl ?_)
      · refine r_iload_n (i := 0) hX dX8_isOf_19 rfl (RR.pc (b := 20) rfl ?_)
        refine r_iconst (v := 2) hX dX8_isOf_20 (by decide) (RR.pc (b := 21) rfl ?_)
        refine r_icmp_ne (tgt := 33) hX dX8_isOf_21 rfl (fun h21 => ?_) (fun h21 => RR.pc (b := 24) rfl ?_)
        · refine r_iconst (v := 0) hX dX8_isOf_33 (by decide) (RR.pc (b := 34) rfl ?_)
          exact r_zret hX hZ dX8_isOf_34 (by first | rfl | exact nar_bz _) ⟨_, rfl, ⟨by first | exact (bz_t (by simp_all)).symm | exact (bz_f (by simp_all)).symm, rfl⟩⟩
        · refine r_iload_n (i := 0) hX dX8_isOf_24 rfl (RR.pc (b := 25) rfl ?_)
          refine r_iconst (v := 4) hX dX8_isOf_25 (by decide) (RR.pc (b := 26) rfl ?_)
          refine r_icmp_ne (tgt := 33) hX dX8_isOf_26 rfl (fun h26 => ?_) (fun h26 => RR.pc (b := 29) rfl ?_)
          · refine r_iconst (v := 0) hX dX8_isOf_33 (by decide) (RR.pc (b := 34) rfl ?_)
            exact r_zret hX hZ dX8_isOf_34 (by first | rfl | exact nar_bz _) ⟨_, rfl, ⟨by first | exact (bz_t (by simp_all)).symm | exact (bz_f (by simp_all)).symm, rfl⟩⟩
          · refine r_iconst (v := 1) hX dX8_isOf_29 (by decide) (RR.pc (b := 30) rfl ?_)
            refine r_goto (tgt := 34) hX dX8_isOf_30 rfl ?_
            exact r_zret hX hZ dX8_isOf_34 (by first | rfl | exact nar_bz _) ⟨_, rfl, ⟨by first | exact (bz_t (by simp_all)).symm | exact (bz_f (by simp_all)).symm, rfl⟩⟩
      · refine r_iload_n (i := 0) hX dX8_isOf_14 rfl (RR.pc (b := 15) rfl ?_)
        refine r_iconst (v := 3) hX dX8_isOf_15 (by decide) (RR.pc (b := 16) rfl ?_)
        refine r_icmp_eq (tgt := 29) hX dX8_isOf_16 rfl (fun h16 => ?_) (fun h16 => RR.pc (b := 19) rfl ?_)
        · refine r_iconst (v := 1) hX dX8_isOf_29 (by decide) (RR.pc (b := 30) rfl ?_)
          refine r_goto (tgt := 34) hX dX8_isOf_30 rfl ?_
          exact r_zret hX hZ dX8_isOf_34 (by first | rfl | exact nar_bz _) ⟨_, rfl, ⟨by first | exact (bz_t (by simp_all)).symm | exact (bz_f (by simp_all)).symm, rfl⟩⟩
        · refine r_iload_n (i := 0) hX dX8_isOf_19 rfl (RR.pc (b := 20) rfl ?_)
          refine r_iconst (v := 2) hX dX8_isOf_20 (by decide) (RR.pc (b := 21) rfl ?_)
          refine r_icmp_ne (tgt := 33) hX dX8_isOf_21 rfl (fun h21 => ?_) (fun h21 => RR.pc (b := 24) rfl ?_)
          · refine r_iconst (v := 0) hX dX8_isOf_33 (by decide) (RR.pc (b := 34) rfl ?_)
            exact r_zret hX hZ dX8_isOf_34 (by first | rfl | exact nar_bz _) ⟨_, rfl, ⟨by first | exact (bz_t (by simp_all)).symm | exact (bz_f (by simp_all)).symm, rfl⟩⟩
          · refine r_iload_n (i := 0) hX dX8_isOf_24 rfl (RR.pc (b := 25) rfl ?_)
            refine r_iconst (v := 4) hX dX8_isOf_25 (by decide) (RR.pc (b := 26) rfl ?_)
            refine r_icmp_ne (tgt := 33) hX dX8_isOf_26 rfl (fun h26 => ?_) (fun h26 => RR.pc (b := 29) rfl ?_)
            · refine r_iconst (v := 0) hX dX8_isOf_33 (by decide) (RR.pc (b := 34) rfl ?_)
              exact r_zret hX hZ dX8_isOf_34 (by first | rfl | exact nar_bz _) ⟨_, rfl, ⟨by first | exact (bz_t (by simp_all)).symm | exact (bz_f (by simp_all)).symm, rfl⟩⟩
            · refine r_iconst (v := 1) hX dX8_isOf_29 (by decide) (RR.pc (b := 30) rfl ?_)
              refine r_goto (tgt := 34) hX dX8_isOf_30 rfl ?_
              exact r_zret hX hZ dX8_isOf_34 (by first | rfl | exact nar_bz _) ⟨_, rfl, ⟨by first | exact (bz_t (by simp_all)).symm | exact (bz_f (by simp_all)).symm, rfl⟩⟩
set_option maxHeartbeats 4000000 in
set_option maxRecDepth 100000 in
theorem c_X8_as {G : GM} {σ : SG} {n : Nat} {k kind : Int32} (hN : σ 20 0 = nI n) (h8 : n ≤ 8) : CI G yX8_as cX8_as 3 (some .int) 2 [rf G 109, .int k, .int kind] σ (fun r s => r = asF (σ 20) n k kind ∧ s = σ) := by
  refine Con.of cd_X8_as (Nat.le_of_ble_eq_true rfl) ?_
  intro X hX hZ
  have hX : Fx X G RX8 cX8_as 3 2 := hX
  show RR X G 3 0 (ll [(0, rf G 109), (1, .int k), (2, .int kind)]) [] σ
  refine r_aload_n hX dX8_as_0 rfl ⟨_, rfl⟩ (RR.pc (b := 1) rfl ?_)
  refine r_iload_n (i := 0) hX dX8_as_1 rfl (RR.pc (b := 2) rfl ?_)
  refine r_callVie hX dX8_as_2 ml_X8_104 cd_X8_isMule iv_X8_isMule (c_X8_isMule hN h8) (by decide) (by first | rfl | assumption) rfl rfl rfl rfl (Nat.le_of_ble_eq_true rfl) (RR.pc (b := 5) rfl ?_)
  refine r_if_eq_b (tgt := 20) hX dX8_as_5 rfl (fun h5 => ?_) (fun h5 => RR.pc (b := 8) rfl ?_)
  · refine r_ldc hX dX8_as_20 kc_X8_84 (RR.pc (b := 22) rfl ?_)
    exact r_iret hX hZ dX8_as_22 ⟨_, rfl, ⟨by unfold asF; first | (rw [ix_none h5]) | (rw [ix_some ha (by omega)]; dsimp only; first | rw [if_neg h17] | (rw [if_pos h17]; first | rw [if_pos h33] | rw [if_neg h33])), rfl⟩⟩
  · obtain ⟨a, ha, rfl⟩ := ix_of h5 (by omega)
    refine r_iload_n (i := 0) hX dX8_as_8 rfl (RR.pc (b := 9) rfl ?_)
    refine r_i2l hX dX8_as_9 (RR.pc (b := 10) rfl ?_)
    refine r_lconst (v := 0) hX dX8_as_10 rfl (RR.pc (b := 11) rfl ?_)
    refine r_ldc2 hX dX8_as_11 k2_X8_76 (RR.pc (b := 14) rfl ?_)
    refine r_callSie hX dX8_as_14 ml_X8_65 cd_X8_isIn st_X8_isIn c_X8_isIn (by decide) rfl rfl (Nat.le_of_ble_eq_true rfl) (RR.pc (b := 17) rfl ?_)
    refine r_if_ne_b (tgt := 23) hX dX8_as_17 rfl (fun h17 => ?_) (fun h17 => RR.pc (b := 20) rfl ?_)
    · simp only [Int32.toInt_toInt64, Int64.reduceToInt] at h17
      refine r_aload_n hX dX8_as_23 rfl ⟨_, rfl⟩ (RR.pc (b := 24) rfl ?_)
      refine r_iload_n (i := 0) hX dX8_as_24 rfl (RR.pc (b := 25) rfl ?_)
      refine r_iconst (v := 0) hX dX8_as_25 (by decide) (RR.pc (b := 26) rfl ?_)
      refine r_callVie hX dX8_as_26 ml_X8_90 cd_X8_of iv_X8_of (c_X8_of (a := a) (b := 0) (q := 131 + 5 * a) rfl rfl rfl (by omega)) (by decide) (by first | rfl | assumption) rfl rfl rfl rfl (Nat.le_of_ble_eq_true rfl) (RR.pc (b := 29) rfl ?_)
      refine r_iload_n (i := 0) hX dX8_as_29 rfl (RR.pc (b := 30) rfl ?_)
      refine r_callSie hX dX8_as_30 ml_X8_117 cd_X8_isOf st_X8_isOf c_X8_isOf (by decide) rfl rfl (Nat.le_of_ble_eq_true rfl) (RR.pc (b := 33) rfl ?_)
      refine r_if_eq_b (tgt := 45) hX dX8_as_33 rfl (fun h33 => ?_) (fun h33 => RR.pc (b := 36) rfl ?_)
      · refine r_ldc hX dX8_as_45 kc_X8_121 (RR.pc (b := 47) rfl ?_)
        exact r_iret hX hZ dX8_as_47 ⟨_, rfl, ⟨by unfold asF; first | (rw [ix_none h5]) | (rw [ix_some ha (by omega)]; dsimp only; first | rw [if_neg h17] | (rw [if_pos h17]; first | rw [if_pos h33] | rw [if_neg h33])), rfl⟩⟩
      · refine r_aload_n hX dX8_as_36 rfl ⟨_, rfl⟩ (RR.pc (b := 37) rfl ?_)
        refine r_iload_n (i := 0) hX dX8_as_37 rfl (RR.pc (b := 38) rfl ?_)
        refine r_iconst (v := 4) hX dX8_as_38 (by decide) (RR.pc (b := 39) rfl ?_)
        refine r_callVie hX dX8_as_39 ml_X8_90 cd_X8_of iv_X8_of (c_X8_of (a := a) (b := 4) (q := 131 + 5 * a + 4) rfl rfl rfl (by omega)) (by decide) (by first | rfl | assumption) rfl rfl rfl rfl (Nat.le_of_ble_eq_true rfl) (RR.pc (b := 42) rfl ?_)
        refine r_goto (tgt := 47) hX dX8_as_42 rfl ?_
        exact r_iret hX hZ dX8_as_47 ⟨_, rfl, ⟨by unfold asF; first | (rw [ix_none h5]) | (rw [ix_some ha (by omega)]; dsimp only; first | rw [if_neg h17] | (rw [if_pos h17]; first | rw [if_pos h33] | rw [if_neg h33])), rfl⟩⟩
    · simp only [Int32.toInt_toInt64, Int64.reduceToInt] at h17
      refine r_ldc hX dX8_as_20 kc_X8_84 (RR.pc (b := 22) rfl ?_)
      exact r_iret hX hZ dX8_as_22 ⟨_, rfl, ⟨by unfold asF; first | (rw [ix_none h5]) | (rw [ix_some ha (by omega)]; dsimp only; first | rw [if_neg h17] | (rw [if_pos h17]; first | rw [if_pos h33] | rw [if_neg h33])), rfl⟩⟩
set_option maxHeartbeats 4000000 in
set_option maxRecDepth 100000 in
theorem c_X8_turns {G : GM} {σ : SG} {n : Nat} {k kind : Int32} (hN : σ 20 0 = nI n) (h8 : n ≤ 8) : CI G yX8_turns cX8_turns 3 (some .int) 2 [rf G 109, .int k, .int kind] σ (fun r s => r = (turnsF (σ 20) n k kind).1 ∧ s = sr σ 20 (turnsF (σ 20) n k kind).2) := by
  refine Con.of cd_X8_turns (Nat.le_of_ble_eq_true rfl) ?_
  intro X hX hZ
  have hX : Fx X G RX8 cX8_turns 3 2 := hX
  show RR X G 3 0 (ll [(0, rf G 109), (1, .int k), (2, .int kind)]) [] σ
  refine r_aload_n hX dX8_turns_0 rfl ⟨_, rfl⟩ (RR.pc (b := 1) rfl ?_)
  refine r_iload_n (i := 0) hX dX8_turns_1 rfl (RR.pc (b := 2) rfl ?_)
  refine r_callVie hX dX8_turns_2 ml_X8_104 cd_X8_isMule iv_X8_isMule (c_X8_isMule hN h8) (by decide) (by first | rfl | assumption) rfl rfl rfl rfl (Nat.le_of_ble_eq_true rfl) (RR.pc (b := 5) rfl ?_)
  refine r_if_eq_b (tgt := 35) hX dX8_turns_5 rfl (fun h5 => ?_) (fun h5 => RR.pc (b := 8) rfl ?_)
  · refine r_ldc hX dX8_turns_35 kc_X8_84 (RR.pc (b := 37) rfl ?_)
    exact r_iret hX hZ dX8_turns_37 ⟨_, rfl, by unfold turnsF; first | (rw [ix_none h5]; exact ⟨rfl, sr_self.symm⟩) | (rw [ix_some ha (by omega)]; dsimp only; first | (rw [if_pos h17]; exact ⟨rfl, rfl⟩) | (rw [if_neg h17]; exact ⟨rfl, sr_self.symm⟩))⟩
  · obtain ⟨a, ha, rfl⟩ := ix_of h5 (by omega)
    refine r_iload_n (i := 0) hX dX8_turns_8 rfl (RR.pc (b := 9) rfl ?_)
    refine r_i2l hX dX8_turns_9 (RR.pc (b := 10) rfl ?_)
    refine r_lconst (v := 0) hX dX8_turns_10 rfl (RR.pc (b := 11) rfl ?_)
    refine r_ldc2 hX dX8_turns_11 k2_X8_76 (RR.pc (b := 14) rfl ?_)
    refine r_callSie hX dX8_turns_14 ml_X8_65 cd_X8_isIn st_X8_isIn c_X8_isIn (by decide) rfl rfl (Nat.le_of_ble_eq_true rfl) (RR.pc (b := 17) rfl ?_)
    refine r_if_eq_b (tgt := 35) hX dX8_turns_17 rfl (fun h17 => ?_) (fun h17 => RR.pc (b := 20) rfl ?_)
    · simp only [Int32.toInt_toInt64, Int64.reduceToInt] at h17
      refine r_ldc hX dX8_turns_35 kc_X8_84 (RR.pc (b := 37) rfl ?_)
      exact r_iret hX hZ dX8_turns_37 ⟨_, rfl, by unfold turnsF; first | (rw [ix_none h5]; exact ⟨rfl, sr_self.symm⟩) | (rw [ix_some ha (by omega)]; dsimp only; first | (rw [if_pos h17]; exact ⟨rfl, rfl⟩) | (rw [if_neg h17]; exact ⟨rfl, sr_self.symm⟩))⟩
    · simp only [Int32.toInt_toInt64, Int64.reduceToInt] at h17
      refine r_aload_n hX dX8_turns_20 rfl ⟨_, rfl⟩ (RR.pc (b := 21) rfl ?_)
      refine r_sipush (v := 131) hX dX8_turns_21 (by decide) (RR.pc (b := 24) rfl ?_)
      refine r_iconst (v := 5) hX dX8_turns_24 (by decide) (RR.pc (b := 25) rfl ?_)
      refine r_iload_n (i := 0) hX dX8_turns_25 rfl (RR.pc (b := 26) rfl ?_)
      refine r_imul hX dX8_turns_26 (RR.pc (b := 27) rfl ?_)
      refine r_iadd hX dX8_turns_27 (RR.pc (b := 28) rfl ?_)
      refine r_iload_n (i := 0) hX dX8_turns_28 rfl (RR.pc (b := 29) rfl ?_)
      refine r_callVie hX dX8_turns_29 ml_X8_122 cd_X8_becomes iv_X8_becomes (c_X8_becomes (n := 131 + 5 * a) (by simp only [litI, pk_mul, nI_add] <;> first | rfl | (apply congrArg nI; omega)) (by omega)) (by decide) (by first | rfl | assumption) rfl rfl rfl rfl (Nat.le_of_ble_eq_true rfl) (RR.pc (b := 32) rfl ?_)
      refine r_goto (tgt := 37) hX dX8_turns_32 rfl ?_
      exact r_iret hX hZ dX8_turns_37 ⟨_, rfl, by unfold turnsF; first | (rw [ix_none h5]; exact ⟨rfl, sr_self.symm⟩) | (rw [ix_some ha (by omega)]; dsimp only; first | (rw [if_pos h17]; exact ⟨rfl, rfl⟩) | (rw [if_neg h17]; exact ⟨rfl, sr_self.symm⟩))⟩
set_option maxHeartbeats 4000000 in
set_option maxRecDepth 100000 in
theorem c_X8_mostOf {G : GM} {σ : SG} {what : Int32} : CI G yX8_mostOf cX8_mostOf 1 (some .int) 0 [.int what] σ (fun r s => r = (if what = 1 then 9 else if what = 2 then 59 else if what = 3 then 9999 else 50) ∧ s = σ) := by
  refine Con.of cd_X8_mostOf (Nat.le_of_ble_eq_true rfl) ?_
  intro X hX hZ
  have hX : Fx X G RX8 cX8_mostOf 1 0 := hX
  show RR X G 1 0 (ll [(0, .int what)]) [] σ
  refine r_iload_n (i := 0) hX dX8_mostOf_0 rfl (RR.pc (b := 1) rfl ?_)
  by_cases h1_1 : what = 1
  · refine r_tableIn (tgt := 28) hX dX8_mostOf_1 (by rw [h1_1]; decide) (by rw [h1_1]; decide) (by rw [h1_1]; rfl) rfl ?_
    refine r_bipush (v := 9) hX dX8_mostOf_28 (by decide) (RR.pc (b := 30) rfl ?_)
    exact r_iret hX hZ dX8_mostOf_30 ⟨_, rfl, by simp_all⟩
  by_cases h1_2 : what = 2
  · refine r_tableIn (tgt := 31) hX dX8_mostOf_1 (by rw [h1_2]; decide) (by rw [h1_2]; decide) (by rw [h1_2]; rfl) rfl ?_
    refine r_bipush (v := 59) hX dX8_mostOf_31 (by decide) (RR.pc (b := 33) rfl ?_)
    exact r_iret hX hZ dX8_mostOf_33 ⟨_, rfl, by simp_all⟩
  by_cases h1_3 : what = 3
  · refine r_tableIn (tgt := 34) hX dX8_mostOf_1 (by rw [h1_3]; decide) (by rw [h1_3]; decide) (by rw [h1_3]; rfl) rfl ?_
    refine r_sipush (v := 9999) hX dX8_mostOf_34 (by decide) (RR.pc (b := 37) rfl ?_)
    exact r_iret hX hZ dX8_mostOf_37 ⟨_, rfl, by simp_all⟩
  refine r_tableOut (tgt := 38) hX dX8_mostOf_1 (by have n0 : (what).toInt ≠ 1 := ne_toInt h1_1; have n1 : (what).toInt ≠ 2 := ne_toInt h1_2; have n2 : (what).toInt ≠ 3 := ne_toInt h1_3; omega) rfl ?_
  refine r_bipush (v := 50) hX dX8_mostOf_38 (by decide) (RR.pc (b := 40) rfl ?_)
  exact r_iret hX hZ dX8_mostOf_40 ⟨_, rfl, by simp_all⟩
theorem w14 {x : Int32} (h : 1 ≤ x.toInt ∧ x.toInt ≤ 4) : x = 1 ∨ x = 2 ∨ x = 3 ∨ x = 4 := by
  have : x.toInt = 1 ∨ x.toInt = 2 ∨ x.toInt = 3 ∨ x.toInt = 4 := by omega
  rcases this with h | h | h | h
  · exact Or.inl (Int32.toInt_inj.mp h)
  · exact Or.inr (Or.inl (Int32.toInt_inj.mp h))
  · exact Or.inr (Or.inr (Or.inl (Int32.toInt_inj.mp h)))
  · exact Or.inr (Or.inr (Or.inr (Int32.toInt_inj.mp h)))
theorem w01 {x : Int32} (h : 0 ≤ x.toInt ∧ x.toInt ≤ 1) : x = 0 ∨ x = 1 := by
  have : x.toInt = 0 ∨ x.toInt = 1 := by omega
  rcases this with h | h
  · exact Or.inl (Int32.toInt_inj.mp h)
  · exact Or.inr (Int32.toInt_inj.mp h)
theorem w14n {x : Int32} (h : ¬ (1 ≤ x.toInt ∧ x.toInt ≤ 4)) : ¬ x = 1 ∧ ¬ x = 2 ∧ ¬ x = 3 ∧ ¬ x = 4 := by
  refine ⟨?_, ?_, ?_, ?_⟩ <;> (rintro rfl; exact h (by decide))
theorem w01n {x : Int32} (h : ¬ (0 ≤ x.toInt ∧ x.toInt ≤ 1)) : ¬ x = 0 ∧ ¬ x = 1 := by
  refine ⟨?_, ?_⟩ <;> (rintro rfl; exact h (by decide))
set_option maxHeartbeats 4000000 in
set_option maxRecDepth 100000 in
theorem c_X8_set {G : GM} {σ : SG} {n : Nat} {k what v : Int32} (hN : σ 20 0 = nI n) (h8 : n ≤ 8) : CI G yX8_set cX8_set 4 (some .int) 2 [rf G 109, .int k, .int what, .int v] σ (fun r s => r = (setF (σ 20) n k what v).1 ∧ s = sr σ 20 (setF (σ 20) n k what v).2) := by
  refine Con.of cd_X8_set (Nat.le_of_ble_eq_true rfl) ?_
  intro X hX hZ
  have hX : Fx X G RX8 cX8_set 4 2 := hX
  show RR X G 4 0 (ll [(0, rf G 109), (1, .int k), (2, .int what), (3, .int v)]) [] σ
  refine r_aload_n hX dX8_set_0 rfl ⟨_, rfl⟩ (RR.pc (b := 1) rfl ?_)
  refine r_iload_n (i := 0) hX dX8_set_1 rfl (RR.pc (b := 2) rfl ?_)
  refine r_callVie hX dX8_set_2 ml_X8_104 cd_X8_isMule iv_X8_isMule (c_X8_isMule hN h8) (by decide) (by first | rfl | assumption) rfl rfl rfl rfl (Nat.le_of_ble_eq_true rfl) (RR.pc (b := 5) rfl ?_)
  refine r_if_eq_b (tgt := 34) hX dX8_set_5 rfl (fun h5 => ?_) (fun h5 => RR.pc (b := 8) rfl ?_)
  · refine r_ldc hX dX8_set_34 kc_X8_84 (RR.pc (b := 36) rfl ?_)
    exact r_iret hX hZ dX8_set_36 ⟨_, rfl, (by unfold setF; first | (rw [ix_none h5]; exact ⟨rfl, sr_self.symm⟩) | (rw [ix_some ha (by omega)]; dsimp only; by_cases hq : (1 ≤ what.toInt ∧ what.toInt ≤ 4); rotate_left; (obtain ⟨q1, q2, q3, q4⟩ := w14n hq; rw [if_neg q1, if_neg q2, if_neg q3, if_neg q4]; exact ⟨rfl, sr_self.symm⟩); first | exact absurd hq h17 | (rcases w14 hq with rfl | rfl | rfl | rfl; (rw [if_pos rfl, if_neg (show ¬ (0 ≤ v.toInt ∧ v.toInt ≤ 9) from h31)]; exact ⟨rfl, sr_self.symm⟩); (rw [if_neg (by decide), if_pos rfl, if_neg (show ¬ (0 ≤ v.toInt ∧ v.toInt ≤ 59) from h31)]; exact ⟨rfl, sr_self.symm⟩); (rw [if_neg (by decide), if_neg (by decide), if_pos rfl, if_neg (show ¬ (0 ≤ v.toInt ∧ v.toInt ≤ 9999) from h31)]; exact ⟨rfl, sr_self.symm⟩); (rw [if_neg (by decide), if_neg (by decide), if_neg (by decide), if_pos rfl, if_neg (show ¬ (0 ≤ v.toInt ∧ v.toInt ≤ 50) from h31)]; exact ⟨rfl, sr_self.symm⟩))))⟩
  · obtain ⟨a, ha, rfl⟩ := ix_of h5 (by omega)
    refine r_iload_n (i := 0) hX dX8_set_8 rfl (RR.pc (b := 9) rfl ?_)
    refine r_i2l hX dX8_set_9 (RR.pc (b := 10) rfl ?_)
    refine r_lconst (v := 1) hX dX8_set_10 rfl (RR.pc (b := 11) rfl ?_)
    refine r_ldc2 hX dX8_set_11 k2_X8_125 (RR.pc (b := 14) rfl ?_)
    refine r_callSie hX dX8_set_14 ml_X8_65 cd_X8_isIn st_X8_isIn c_X8_isIn (by decide) rfl rfl (Nat.le_of_ble_eq_true rfl) (RR.pc (b := 17) rfl ?_)
    refine r_if_eq_b (tgt := 34) hX dX8_set_17 rfl (fun h17 => ?_) (fun h17 => RR.pc (b := 20) rfl ?_)
    · simp only [Int32.toInt_toInt64, Int64.reduceToInt] at h17
      refine r_ldc hX dX8_set_34 kc_X8_84 (RR.pc (b := 36) rfl ?_)
      exact r_iret hX hZ dX8_set_36 ⟨_, rfl, (by unfold setF; first | (rw [ix_none h5]; exact ⟨rfl, sr_self.symm⟩) | (rw [ix_some ha (by omega)]; dsimp only; by_cases hq : (1 ≤ what.toInt ∧ what.toInt ≤ 4); rotate_left; (obtain ⟨q1, q2, q3, q4⟩ := w14n hq; rw [if_neg q1, if_neg q2, if_neg q3, if_neg q4]; exact ⟨rfl, sr_self.symm⟩); first | exact absurd hq h17 | (rcases w14 hq with rfl | rfl | rfl | rfl; (rw [if_pos rfl, if_neg (show ¬ (0 ≤ v.toInt ∧ v.toInt ≤ 9) from h31)]; exact ⟨rfl, sr_self.symm⟩); (rw [if_neg (by decide), if_pos rfl, if_neg (show ¬ (0 ≤ v.toInt ∧ v.toInt ≤ 59) from h31)]; exact ⟨rfl, sr_self.symm⟩); (rw [if_neg (by decide), if_neg (by decide), if_pos rfl, if_neg (show ¬ (0 ≤ v.toInt ∧ v.toInt ≤ 9999) from h31)]; exact ⟨rfl, sr_self.symm⟩); (rw [if_neg (by decide), if_neg (by decide), if_neg (by decide), if_pos rfl, if_neg (show ¬ (0 ≤ v.toInt ∧ v.toInt ≤ 50) from h31)]; exact ⟨rfl, sr_self.symm⟩))))⟩
    · simp only [Int32.toInt_toInt64, Int64.reduceToInt] at h17
      have hw := w14 h17
      refine r_iload_n (i := 0) hX dX8_set_20 rfl (RR.pc (b := 21) rfl ?_)
      refine r_i2l hX dX8_set_21 (RR.pc (b := 22) rfl ?_)
      refine r_lconst (v := 0) hX dX8_set_22 rfl (RR.pc (b := 23) rfl ?_)
      refine r_iload_n (i := 0) hX dX8_set_23 rfl (RR.pc (b := 24) rfl ?_)
      refine r_callSie hX dX8_set_24 ml_X8_127 cd_X8_mostOf st_X8_mostOf c_X8_mostOf (by decide) rfl rfl (Nat.le_of_ble_eq_true rfl) (RR.pc (b := 27) rfl ?_)
      refine r_i2l hX dX8_set_27 (RR.pc (b := 28) rfl ?_)
      refine r_callSie hX dX8_set_28 ml_X8_65 cd_X8_isIn st_X8_isIn c_X8_isIn (by decide) rfl rfl (Nat.le_of_ble_eq_true rfl) (RR.pc (b := 31) rfl ?_)
      refine r_if_ne_b (tgt := 37) hX dX8_set_31 rfl (fun h31 => ?_) (fun h31 => RR.pc (b := 34) rfl ?_)
      · simp only [Int32.toInt_toInt64, Int64.reduceToInt] at h31
        refine r_aload_n hX dX8_set_37 rfl ⟨_, rfl⟩ (RR.pc (b := 38) rfl ?_)
        refine r_sipush (v := 131) hX dX8_set_38 (by decide) (RR.pc (b := 41) rfl ?_)
        refine r_iconst (v := 5) hX dX8_set_41 (by decide) (RR.pc (b := 42) rfl ?_)
        refine r_iload_n (i := 0) hX dX8_set_42 rfl (RR.pc (b := 43) rfl ?_)
        refine r_imul hX dX8_set_43 (RR.pc (b := 44) rfl ?_)
        refine r_iadd hX dX8_set_44 (RR.pc (b := 45) rfl ?_)
        refine r_iload_n (i := 0) hX dX8_set_45 rfl (RR.pc (b := 46) rfl ?_)
        refine r_iadd hX dX8_set_46 (RR.pc (b := 47) rfl ?_)
        refine r_iload_n (i := 0) hX dX8_set_47 rfl (RR.pc (b := 48) rfl ?_)
        refine r_callVie hX dX8_set_48 ml_X8_122 cd_X8_becomes iv_X8_becomes (c_X8_becomes (n := 131 + 5 * a + what.toNatClampNeg) (by rcases hw with rfl | rfl | rfl | rfl <;> exact ixM a _) (by rcases hw with rfl | rfl | rfl | rfl; (show 131 + 5 * a + 1 < 3171; omega); (show 131 + 5 * a + 2 < 3171; omega); (show 131 + 5 * a + 3 < 3171; omega); (show 131 + 5 * a + 4 < 3171; omega))) (by decide) (by first | rfl | assumption) rfl rfl rfl rfl (Nat.le_of_ble_eq_true rfl) (RR.pc (b := 51) rfl ?_)
        exact r_iret hX hZ dX8_set_51 ⟨_, rfl, (by unfold setF; rw [ix_some ha (by omega)]; dsimp only; (rcases hw with rfl | rfl | rfl | rfl; (rw [if_pos rfl, if_pos (show (0 ≤ v.toInt ∧ v.toInt ≤ 9) from h31)]; exact ⟨rfl, rfl⟩); (rw [if_neg (by decide), if_pos rfl, if_pos (show (0 ≤ v.toInt ∧ v.toInt ≤ 59) from h31)]; exact ⟨rfl, rfl⟩); (rw [if_neg (by decide), if_neg (by decide), if_pos rfl, if_pos (show (0 ≤ v.toInt ∧ v.toInt ≤ 9999) from h31)]; exact ⟨rfl, rfl⟩); (rw [if_neg (by decide), if_neg (by decide), if_neg (by decide), if_pos rfl, if_pos (show (0 ≤ v.toInt ∧ v.toInt ≤ 50) from h31)]; exact ⟨rfl, rfl⟩)))⟩
      · simp only [Int32.toInt_toInt64, Int64.reduceToInt] at h31
        refine r_ldc hX dX8_set_34 kc_X8_84 (RR.pc (b := 36) rfl ?_)
        exact r_iret hX hZ dX8_set_36 ⟨_, rfl, (by unfold setF; first | (rw [ix_none h5]; exact ⟨rfl, sr_self.symm⟩) | (rw [ix_some ha (by omega)]; dsimp only; by_cases hq : (1 ≤ what.toInt ∧ what.toInt ≤ 4); rotate_left; (obtain ⟨q1, q2, q3, q4⟩ := w14n hq; rw [if_neg q1, if_neg q2, if_neg q3, if_neg q4]; exact ⟨rfl, sr_self.symm⟩); first | exact absurd hq h17 | (rcases w14 hq with rfl | rfl | rfl | rfl; (rw [if_pos rfl, if_neg (show ¬ (0 ≤ v.toInt ∧ v.toInt ≤ 9) from h31)]; exact ⟨rfl, sr_self.symm⟩); (rw [if_neg (by decide), if_pos rfl, if_neg (show ¬ (0 ≤ v.toInt ∧ v.toInt ≤ 59) from h31)]; exact ⟨rfl, sr_self.symm⟩); (rw [if_neg (by decide), if_neg (by decide), if_pos rfl, if_neg (show ¬ (0 ≤ v.toInt ∧ v.toInt ≤ 9999) from h31)]; exact ⟨rfl, sr_self.symm⟩); (rw [if_neg (by decide), if_neg (by decide), if_neg (by decide), if_pos rfl, if_neg (show ¬ (0 ≤ v.toInt ∧ v.toInt ≤ 50) from h31)]; exact ⟨rfl, sr_self.symm⟩))))⟩
def mayR (what v : Int32) : Prop := (what = 0 ∧ (0 ≤ v.toInt ∧ v.toInt ≤ 99)) ∨ (what = 1 ∧ (0 ≤ v.toInt ∧ v.toInt ≤ 100)) ∨ (what = 2 ∧ (-3 ≤ v.toInt ∧ v.toInt ≤ 3)) ∨ (what = 3 ∧ (0 ≤ v.toInt ∧ v.toInt ≤ 9))
theorem ruleF_bad {w : Nat → Int32} {what v : Int32} (h : ¬ mayR what v) : ruleF w what v = (vBAD, w) := by
  unfold ruleF
  unfold mayR at h
  split
  next e => rw [if_neg (fun c => h (Or.inl ⟨e, c⟩))]
  next =>
    split
    next e => rw [if_neg (fun c => h (Or.inr (Or.inl ⟨e, c⟩)))]
    next =>
      split
      next e => rw [if_neg (fun c => h (Or.inr (Or.inr (Or.inl ⟨e, c⟩))))]
      next =>
        split
        next e => rw [if_neg (fun c => h (Or.inr (Or.inr (Or.inr ⟨e, c⟩))))]
        next => rfl
theorem ruleF_ok {w : Nat → Int32} {what v : Int32} (h : mayR what v) : ∃ b : Nat, b < 4 ∧ what = nI b ∧ ruleF w what v = (w (7 + b), upd w (7 + b) v) := by
  unfold ruleF
  rcases h with ⟨e, c⟩ | ⟨e, c⟩ | ⟨e, c⟩ | ⟨e, c⟩
  · subst e; exact ⟨0, by decide, rfl, by rw [if_pos rfl, if_pos c]⟩
  · subst e; exact ⟨1, by decide, rfl, by rw [if_neg (by decide), if_pos rfl, if_pos c]⟩
  · subst e; exact ⟨2, by decide, rfl, by rw [if_neg (by decide), if_neg (by decide), if_pos rfl, if_pos c]⟩
  · subst e; exact ⟨3, by decide, rfl, by rw [if_neg (by decide), if_neg (by decide), if_neg (by decide), if_pos rfl, if_pos c]⟩
set_option maxHeartbeats 4000000 in
set_option maxRecDepth 100000 in
theorem c_X8_rule {G : GM} {σ : SG} {what v : Int32} : CI G yX8_rule cX8_rule 4 (some .int) 1 [rf G 109, .int what, .int v] σ (fun r s => r = (ruleF (σ 20) what v).1 ∧ s = sr σ 20 (ruleF (σ 20) what v).2) := by
  refine Con.of cd_X8_rule (Nat.le_of_ble_eq_true rfl) ?_
  intro X hX hZ
  have hX : Fx X G RX8 cX8_rule 4 1 := hX
  show RR X G 4 0 (ll [(0, rf G 109), (1, .int what), (2, .int v)]) [] σ
  have bad : ¬ mayR what v → RR X G 4 73 (ll [(0, rf G 109), (1, .int what), (2, .int v)]) [] σ := by
    intro h
    refine r_iconst (v := 0) hX dX8_rule_73 (by decide) (RR.pc (b := 74) rfl ?_)
    refine r_istore_n hX dX8_rule_74 (by decide) (RR.pc (b := 75) rfl ?_)
    refine r_iload_n (i := 0) hX dX8_rule_75 rfl (RR.pc (b := 76) rfl ?_)
    refine r_if_eq (tgt := 91) hX dX8_rule_76 rfl (fun h76 => ?_) (fun h76 => absurd h76 (fun z => z rfl))
    refine r_ldc hX dX8_rule_91 kc_X8_84 (RR.pc (b := 93) rfl ?_)
    exact r_iret hX hZ dX8_rule_93 ⟨_, rfl, by rw [ruleF_bad h]; exact ⟨rfl, sr_self.symm⟩⟩
  have ok : mayR what v → RR X G 4 69 (ll [(0, rf G 109), (1, .int what), (2, .int v)]) [] σ := by
    intro h
    obtain ⟨b, hb, e, q⟩ := ruleF_ok (w := σ 20) h
    refine r_iconst (v := 1) hX dX8_rule_69 (by decide) (RR.pc (b := 70) rfl ?_)
    refine r_goto (tgt := 74) hX dX8_rule_70 rfl ?_
    refine r_istore_n hX dX8_rule_74 (by decide) (RR.pc (b := 75) rfl ?_)
    refine r_iload_n (i := 0) hX dX8_rule_75 rfl (RR.pc (b := 76) rfl ?_)
    refine r_if_eq (tgt := 91) hX dX8_rule_76 rfl (fun h76 => absurd h76 (by decide)) (fun h76 => RR.pc (b := 79) rfl ?_)
    refine r_aload_n hX dX8_rule_79 rfl ⟨_, rfl⟩ (RR.pc (b := 80) rfl ?_)
    refine r_bipush (v := 7) hX dX8_rule_80 (by decide) (RR.pc (b := 82) rfl ?_)
    refine r_iload_n (i := 0) hX dX8_rule_82 rfl (RR.pc (b := 83) rfl ?_)
    refine r_iadd hX dX8_rule_83 (RR.pc (b := 84) rfl ?_)
    refine r_iload_n (i := 0) hX dX8_rule_84 rfl (RR.pc (b := 85) rfl ?_)
    refine r_callVie hX dX8_rule_85 ml_X8_122 cd_X8_becomes iv_X8_becomes (c_X8_becomes (n := 7 + b) (by rw [e]; exact nI_add 7 b) (by omega)) (by decide) (by first | rfl | assumption) rfl rfl rfl rfl (Nat.le_of_ble_eq_true rfl) (RR.pc (b := 88) rfl ?_)
    refine r_goto (tgt := 93) hX dX8_rule_88 rfl ?_
    exact r_iret hX hZ dX8_rule_93 ⟨_, rfl, by rw [q]; exact ⟨rfl, rfl⟩⟩
  refine r_iload_n (i := 0) hX dX8_rule_0 rfl (RR.pc (b := 1) rfl ?_)
  refine r_if_ne (tgt := 16) hX dX8_rule_1 rfl (fun h1 => ?_) (fun h1 => RR.pc (b := 4) rfl ?_)
  · refine r_iload_n (i := 0) hX dX8_rule_16 rfl (RR.pc (b := 17) rfl ?_)
    refine r_iconst (v := 1) hX dX8_rule_17 (by decide) (RR.pc (b := 18) rfl ?_)
    refine r_icmp_ne (tgt := 33) hX dX8_rule_18 rfl (fun h18 => ?_) (fun h18 => RR.pc (b := 21) rfl ?_)
    · refine r_iload_n (i := 0) hX dX8_rule_33 rfl (RR.pc (b := 34) rfl ?_)
      refine r_iconst (v := 2) hX dX8_rule_34 (by decide) (RR.pc (b := 35) rfl ?_)
      refine r_icmp_ne (tgt := 52) hX dX8_rule_35 rfl (fun h35 => ?_) (fun h35 => RR.pc (b := 38) rfl ?_)
      · refine r_iload_n (i := 0) hX dX8_rule_52 rfl (RR.pc (b := 53) rfl ?_)
        refine r_iconst (v := 3) hX dX8_rule_53 (by decide) (RR.pc (b := 54) rfl ?_)
        refine r_icmp_ne (tgt := 73) hX dX8_rule_54 rfl (fun h54 => ?_) (fun h54 => RR.pc (b := 57) rfl ?_)
        · exact RR.cut (bad (by rintro (⟨e, c⟩ | ⟨e, c⟩ | ⟨e, c⟩ | ⟨e, c⟩); (first | exact h1 e | exact h13 c); (first | exact h18 e | exact h30 c); (first | exact h35 e | exact h49 c); (first | exact h54 e | exact h66 c))) (List.forall_mem_cons.mpr ⟨rfl, List.forall_mem_cons.mpr ⟨rfl, List.forall_mem_cons.mpr ⟨rfl, fun _ h => absurd h List.not_mem_nil⟩⟩⟩)
        · refine r_iload_n (i := 0) hX dX8_rule_57 rfl (RR.pc (b := 58) rfl ?_)
          refine r_i2l hX dX8_rule_58 (RR.pc (b := 59) rfl ?_)
          refine r_lconst (v := 0) hX dX8_rule_59 rfl (RR.pc (b := 60) rfl ?_)
          refine r_ldc2 hX dX8_rule_60 k2_X8_78 (RR.pc (b := 63) rfl ?_)
          refine r_callSie hX dX8_rule_63 ml_X8_65 cd_X8_isIn st_X8_isIn c_X8_isIn (by decide) rfl rfl (Nat.le_of_ble_eq_true rfl) (RR.pc (b := 66) rfl ?_)
          refine r_if_eq_b (tgt := 73) hX dX8_rule_66 rfl (fun h66 => ?_) (fun h66 => RR.pc (b := 69) rfl ?_)
          · simp only [Int32.toInt_toInt64, Int64.reduceToInt] at h66
            exact RR.cut (bad (by rintro (⟨e, c⟩ | ⟨e, c⟩ | ⟨e, c⟩ | ⟨e, c⟩); (first | exact h1 e | exact h13 c); (first | exact h18 e | exact h30 c); (first | exact h35 e | exact h49 c); (first | exact h54 e | exact h66 c))) (List.forall_mem_cons.mpr ⟨rfl, List.forall_mem_cons.mpr ⟨rfl, List.forall_mem_cons.mpr ⟨rfl, fun _ h => absurd h List.not_mem_nil⟩⟩⟩)
          · simp only [Int32.toInt_toInt64, Int64.reduceToInt] at h66
            exact RR.cut (ok (by unfold mayR; first | exact Or.inl ⟨h1, h13⟩ | exact Or.inr (Or.inl ⟨h18, h30⟩) | exact Or.inr (Or.inr (Or.inl ⟨h35, h49⟩)) | exact Or.inr (Or.inr (Or.inr ⟨h54, h66⟩)))) (List.forall_mem_cons.mpr ⟨rfl, List.forall_mem_cons.mpr ⟨rfl, List.forall_mem_cons.mpr ⟨rfl, fun _ h => absurd h List.not_mem_nil⟩⟩⟩)
      · refine r_iload_n (i := 0) hX dX8_rule_38 rfl (RR.pc (b := 39) rfl ?_)
        refine r_i2l hX dX8_rule_39 (RR.pc (b := 40) rfl ?_)
        refine r_ldc2 hX dX8_rule_40 k2_X8_134 (RR.pc (b := 43) rfl ?_)
        refine r_ldc2 hX dX8_rule_43 k2_X8_136 (RR.pc (b := 46) rfl ?_)
        refine r_callSie hX dX8_rule_46 ml_X8_65 cd_X8_isIn st_X8_isIn c_X8_isIn (by decide) rfl rfl (Nat.le_of_ble_eq_true rfl) (RR.pc (b := 49) rfl ?_)
        refine r_if_ne_b (tgt := 69) hX dX8_rule_49 rfl (fun h49 => ?_) (fun h49 => RR.pc (b := 52) rfl ?_)
        · simp only [Int32.toInt_toInt64, Int64.reduceToInt] at h49
          exact RR.cut (ok (by unfold mayR; first | exact Or.inl ⟨h1, h13⟩ | exact Or.inr (Or.inl ⟨h18, h30⟩) | exact Or.inr (Or.inr (Or.inl ⟨h35, h49⟩)) | exact Or.inr (Or.inr (Or.inr ⟨h54, h66⟩)))) (List.forall_mem_cons.mpr ⟨rfl, List.forall_mem_cons.mpr ⟨rfl, List.forall_mem_cons.mpr ⟨rfl, fun _ h => absurd h List.not_mem_nil⟩⟩⟩)
        · simp only [Int32.toInt_toInt64, Int64.reduceToInt] at h49
          refine r_iload_n (i := 0) hX dX8_rule_52 rfl (RR.pc (b := 53) rfl ?_)
          refine r_iconst (v := 3) hX dX8_rule_53 (by decide) (RR.pc (b := 54) rfl ?_)
          refine r_icmp_ne (tgt := 73) hX dX8_rule_54 rfl (fun h54 => ?_) (fun h54 => RR.pc (b := 57) rfl ?_)
          · exact RR.cut (bad (by rintro (⟨e, c⟩ | ⟨e, c⟩ | ⟨e, c⟩ | ⟨e, c⟩); (first | exact h1 e | exact h13 c); (first | exact h18 e | exact h30 c); (first | exact h35 e | exact h49 c); (first | exact h54 e | exact h66 c))) (List.forall_mem_cons.mpr ⟨rfl, List.forall_mem_cons.mpr ⟨rfl, List.forall_mem_cons.mpr ⟨rfl, fun _ h => absurd h List.not_mem_nil⟩⟩⟩)
          · refine r_iload_n (i := 0) hX dX8_rule_57 rfl (RR.pc (b := 58) rfl ?_)
            refine r_i2l hX dX8_rule_58 (RR.pc (b := 59) rfl ?_)
            refine r_lconst (v := 0) hX dX8_rule_59 rfl (RR.pc (b := 60) rfl ?_)
            refine r_ldc2 hX dX8_rule_60 k2_X8_78 (RR.pc (b := 63) rfl ?_)
            refine r_callSie hX dX8_rule_63 ml_X8_65 cd_X8_isIn st_X8_isIn c_X8_isIn (by decide) rfl rfl (Nat.le_of_ble_eq_true rfl) (RR.pc (b := 66) rfl ?_)
            refine r_if_eq_b (tgt := 73) hX dX8_rule_66 rfl (fun h66 => ?_) (fun h66 => RR.pc (b := 69) rfl ?_)
            · simp only [Int32.toInt_toInt64, Int64.reduceToInt] at h66
              exact RR.cut (bad (by rintro (⟨e, c⟩ | ⟨e, c⟩ | ⟨e, c⟩ | ⟨e, c⟩); (first | exact h1 e | exact h13 c); (first | exact h18 e | exact h30 c); (first | exact h35 e | exact h49 c); (first | exact h54 e | exact h66 c))) (List.forall_mem_cons.mpr ⟨rfl, List.forall_mem_cons.mpr ⟨rfl, List.forall_mem_cons.mpr ⟨rfl, fun _ h => absurd h List.not_mem_nil⟩⟩⟩)
            · simp only [Int32.toInt_toInt64, Int64.reduceToInt] at h66
              exact RR.cut (ok (by unfold mayR; first | exact Or.inl ⟨h1, h13⟩ | exact Or.inr (Or.inl ⟨h18, h30⟩) | exact Or.inr (Or.inr (Or.inl ⟨h35, h49⟩)) | exact Or.inr (Or.inr (Or.inr ⟨h54, h66⟩)))) (List.forall_mem_cons.mpr ⟨rfl, List.forall_mem_cons.mpr ⟨rfl, List.forall_mem_cons.mpr ⟨rfl, fun _ h => absurd h List.not_mem_nil⟩⟩⟩)
    · refine r_iload_n (i := 0) hX dX8_rule_21 rfl (RR.pc (b := 22) rfl ?_)
      refine r_i2l hX dX8_rule_22 (RR.pc (b := 23) rfl ?_)
      refine r_lconst (v := 0) hX dX8_rule_23 rfl (RR.pc (b := 24) rfl ?_)
      refine r_ldc2 hX dX8_rule_24 k2_X8_132 (RR.pc (b := 27) rfl ?_)
      refine r_callSie hX dX8_rule_27 ml_X8_65 cd_X8_isIn st_X8_isIn c_X8_isIn (by decide) rfl rfl (Nat.le_of_ble_eq_true rfl) (RR.pc (b := 30) rfl ?_)
      refine r_if_ne_b (tgt := 69) hX dX8_rule_30 rfl (fun h30 => ?_) (fun h30 => RR.pc (b := 33) rfl ?_)
      · simp only [Int32.toInt_toInt64, Int64.reduceToInt] at h30
        exact RR.cut (ok (by unfold mayR; first | exact Or.inl ⟨h1, h13⟩ | exact Or.inr (Or.inl ⟨h18, h30⟩) | exact Or.inr (Or.inr (Or.inl ⟨h35, h49⟩)) | exact Or.inr (Or.inr (Or.inr ⟨h54, h66⟩)))) (List.forall_mem_cons.mpr ⟨rfl, List.forall_mem_cons.mpr ⟨rfl, List.forall_mem_cons.mpr ⟨rfl, fun _ h => absurd h List.not_mem_nil⟩⟩⟩)
      · simp only [Int32.toInt_toInt64, Int64.reduceToInt] at h30
        refine r_iload_n (i := 0) hX dX8_rule_33 rfl (RR.pc (b := 34) rfl ?_)
        refine r_iconst (v := 2) hX dX8_rule_34 (by decide) (RR.pc (b := 35) rfl ?_)
        refine r_icmp_ne (tgt := 52) hX dX8_rule_35 rfl (fun h35 => ?_) (fun h35 => RR.pc (b := 38) rfl ?_)
        · refine r_iload_n (i := 0) hX dX8_rule_52 rfl (RR.pc (b := 53) rfl ?_)
          refine r_iconst (v := 3) hX dX8_rule_53 (by decide) (RR.pc (b := 54) rfl ?_)
          refine r_icmp_ne (tgt := 73) hX dX8_rule_54 rfl (fun h54 => ?_) (fun h54 => RR.pc (b := 57) rfl ?_)
          · exact RR.cut (bad (by rintro (⟨e, c⟩ | ⟨e, c⟩ | ⟨e, c⟩ | ⟨e, c⟩); (first | exact h1 e | exact h13 c); (first | exact h18 e | exact h30 c); (first | exact h35 e | exact h49 c); (first | exact h54 e | exact h66 c))) (List.forall_mem_cons.mpr ⟨rfl, List.forall_mem_cons.mpr ⟨rfl, List.forall_mem_cons.mpr ⟨rfl, fun _ h => absurd h List.not_mem_nil⟩⟩⟩)
          · refine r_iload_n (i := 0) hX dX8_rule_57 rfl (RR.pc (b := 58) rfl ?_)
            refine r_i2l hX dX8_rule_58 (RR.pc (b := 59) rfl ?_)
            refine r_lconst (v := 0) hX dX8_rule_59 rfl (RR.pc (b := 60) rfl ?_)
            refine r_ldc2 hX dX8_rule_60 k2_X8_78 (RR.pc (b := 63) rfl ?_)
            refine r_callSie hX dX8_rule_63 ml_X8_65 cd_X8_isIn st_X8_isIn c_X8_isIn (by decide) rfl rfl (Nat.le_of_ble_eq_true rfl) (RR.pc (b := 66) rfl ?_)
            refine r_if_eq_b (tgt := 73) hX dX8_rule_66 rfl (fun h66 => ?_) (fun h66 => RR.pc (b := 69) rfl ?_)
            · simp only [Int32.toInt_toInt64, Int64.reduceToInt] at h66
              exact RR.cut (bad (by rintro (⟨e, c⟩ | ⟨e, c⟩ | ⟨e, c⟩ | ⟨e, c⟩); (first | exact h1 e | exact h13 c); (first | exact h18 e | exact h30 c); (first | exact h35 e | exact h49 c); (first | exact h54 e | exact h66 c))) (List.forall_mem_cons.mpr ⟨rfl, List.forall_mem_cons.mpr ⟨rfl, List.forall_mem_cons.mpr ⟨rfl, fun _ h => absurd h List.not_mem_nil⟩⟩⟩)
            · simp only [Int32.toInt_toInt64, Int64.reduceToInt] at h66
              exact RR.cut (ok (by unfold mayR; first | exact Or.inl ⟨h1, h13⟩ | exact Or.inr (Or.inl ⟨h18, h30⟩) | exact Or.inr (Or.inr (Or.inl ⟨h35, h49⟩)) | exact Or.inr (Or.inr (Or.inr ⟨h54, h66⟩)))) (List.forall_mem_cons.mpr ⟨rfl, List.forall_mem_cons.mpr ⟨rfl, List.forall_mem_cons.mpr ⟨rfl, fun _ h => absurd h List.not_mem_nil⟩⟩⟩)
        · refine r_iload_n (i := 0) hX dX8_rule_38 rfl (RR.pc (b := 39) rfl ?_)
          refine r_i2l hX dX8_rule_39 (RR.pc (b := 40) rfl ?_)
          refine r_ldc2 hX dX8_rule_40 k2_X8_134 (RR.pc (b := 43) rfl ?_)
          refine r_ldc2 hX dX8_rule_43 k2_X8_136 (RR.pc (b := 46) rfl ?_)
          refine r_callSie hX dX8_rule_46 ml_X8_65 cd_X8_isIn st_X8_isIn c_X8_isIn (by decide) rfl rfl (Nat.le_of_ble_eq_true rfl) (RR.pc (b := 49) rfl ?_)
          refine r_if_ne_b (tgt := 69) hX dX8_rule_49 rfl (fun h49 => ?_) (fun h49 => RR.pc (b := 52) rfl ?_)
          · simp only [Int32.toInt_toInt64, Int64.reduceToInt] at h49
            exact RR.cut (ok (by unfold mayR; first | exact Or.inl ⟨h1, h13⟩ | exact Or.inr (Or.inl ⟨h18, h30⟩) | exact Or.inr (Or.inr (Or.inl ⟨h35, h49⟩)) | exact Or.inr (Or.inr (Or.inr ⟨h54, h66⟩)))) (List.forall_mem_cons.mpr ⟨rfl, List.forall_mem_cons.mpr ⟨rfl, List.forall_mem_cons.mpr ⟨rfl, fun _ h => absurd h List.not_mem_nil⟩⟩⟩)
          · simp only [Int32.toInt_toInt64, Int64.reduceToInt] at h49
            refine r_iload_n (i := 0) hX dX8_rule_52 rfl (RR.pc (b := 53) rfl ?_)
            refine r_iconst (v := 3) hX dX8_rule_53 (by decide) (RR.pc (b := 54) rfl ?_)
            refine r_icmp_ne (tgt := 73) hX dX8_rule_54 rfl (fun h54 => ?_) (fun h54 => RR.pc (b := 57) rfl ?_)
            · exact RR.cut (bad (by rintro (⟨e, c⟩ | ⟨e, c⟩ | ⟨e, c⟩ | ⟨e, c⟩); (first | exact h1 e | exact h13 c); (first | exact h18 e | exact h30 c); (first | exact h35 e | exact h49 c); (first | exact h54 e | exact h66 c))) (List.forall_mem_cons.mpr ⟨rfl, List.forall_mem_cons.mpr ⟨rfl, List.forall_mem_cons.mpr ⟨rfl, fun _ h => absurd h List.not_mem_nil⟩⟩⟩)
            · refine r_iload_n (i := 0) hX dX8_rule_57 rfl (RR.pc (b := 58) rfl ?_)
              refine r_i2l hX dX8_rule_58 (RR.pc (b := 59) rfl ?_)
              refine r_lconst (v := 0) hX dX8_rule_59 rfl (RR.pc (b := 60) rfl ?_)
              refine r_ldc2 hX dX8_rule_60 k2_X8_78 (RR.pc (b := 63) rfl ?_)
              refine r_callSie hX dX8_rule_63 ml_X8_65 cd_X8_isIn st_X8_isIn c_X8_isIn (by decide) rfl rfl (Nat.le_of_ble_eq_true rfl) (RR.pc (b := 66) rfl ?_)
              refine r_if_eq_b (tgt := 73) hX dX8_rule_66 rfl (fun h66 => ?_) (fun h66 => RR.pc (b := 69) rfl ?_)
              · simp only [Int32.toInt_toInt64, Int64.reduceToInt] at h66
                exact RR.cut (bad (by rintro (⟨e, c⟩ | ⟨e, c⟩ | ⟨e, c⟩ | ⟨e, c⟩); (first | exact h1 e | exact h13 c); (first | exact h18 e | exact h30 c); (first | exact h35 e | exact h49 c); (first | exact h54 e | exact h66 c))) (List.forall_mem_cons.mpr ⟨rfl, List.forall_mem_cons.mpr ⟨rfl, List.forall_mem_cons.mpr ⟨rfl, fun _ h => absurd h List.not_mem_nil⟩⟩⟩)
              · simp only [Int32.toInt_toInt64, Int64.reduceToInt] at h66
                exact RR.cut (ok (by unfold mayR; first | exact Or.inl ⟨h1, h13⟩ | exact Or.inr (Or.inl ⟨h18, h30⟩) | exact Or.inr (Or.inr (Or.inl ⟨h35, h49⟩)) | exact Or.inr (Or.inr (Or.inr ⟨h54, h66⟩)))) (List.forall_mem_cons.mpr ⟨rfl, List.forall_mem_cons.mpr ⟨rfl, List.forall_mem_cons.mpr ⟨rfl, fun _ h => absurd h List.not_mem_nil⟩⟩⟩)
  · refine r_iload_n (i := 0) hX dX8_rule_4 rfl (RR.pc (b := 5) rfl ?_)
    refine r_i2l hX dX8_rule_5 (RR.pc (b := 6) rfl ?_)
    refine r_lconst (v := 0) hX dX8_rule_6 rfl (RR.pc (b := 7) rfl ?_)
    refine r_ldc2 hX dX8_rule_7 k2_X8_130 (RR.pc (b := 10) rfl ?_)
    refine r_callSie hX dX8_rule_10 ml_X8_65 cd_X8_isIn st_X8_isIn c_X8_isIn (by decide) rfl rfl (Nat.le_of_ble_eq_true rfl) (RR.pc (b := 13) rfl ?_)
    refine r_if_ne_b (tgt := 69) hX dX8_rule_13 rfl (fun h13 => ?_) (fun h13 => RR.pc (b := 16) rfl ?_)
    · simp only [Int32.toInt_toInt64, Int64.reduceToInt] at h13
      exact RR.cut (ok (by unfold mayR; first | exact Or.inl ⟨h1, h13⟩ | exact Or.inr (Or.inl ⟨h18, h30⟩) | exact Or.inr (Or.inr (Or.inl ⟨h35, h49⟩)) | exact Or.inr (Or.inr (Or.inr ⟨h54, h66⟩)))) (List.forall_mem_cons.mpr ⟨rfl, List.forall_mem_cons.mpr ⟨rfl, List.forall_mem_cons.mpr ⟨rfl, fun _ h => absurd h List.not_mem_nil⟩⟩⟩)
    · simp only [Int32.toInt_toInt64, Int64.reduceToInt] at h13
      refine r_iload_n (i := 0) hX dX8_rule_16 rfl (RR.pc (b := 17) rfl ?_)
      refine r_iconst (v := 1) hX dX8_rule_17 (by decide) (RR.pc (b := 18) rfl ?_)
      refine r_icmp_ne (tgt := 33) hX dX8_rule_18 rfl (fun h18 => ?_) (fun h18 => RR.pc (b := 21) rfl ?_)
      · refine r_iload_n (i := 0) hX dX8_rule_33 rfl (RR.pc (b := 34) rfl ?_)
        refine r_iconst (v := 2) hX dX8_rule_34 (by decide) (RR.pc (b := 35) rfl ?_)
        refine r_icmp_ne (tgt := 52) hX dX8_rule_35 rfl (fun h35 => ?_) (fun h35 => RR.pc (b := 38) rfl ?_)
        · refine r_iload_n (i := 0) hX dX8_rule_52 rfl (RR.pc (b := 53) rfl ?_)
          refine r_iconst (v := 3) hX dX8_rule_53 (by decide) (RR.pc (b := 54) rfl ?_)
          refine r_icmp_ne (tgt := 73) hX dX8_rule_54 rfl (fun h54 => ?_) (fun h54 => RR.pc (b := 57) rfl ?_)
          · exact RR.cut (bad (by rintro (⟨e, c⟩ | ⟨e, c⟩ | ⟨e, c⟩ | ⟨e, c⟩); (first | exact h1 e | exact h13 c); (first | exact h18 e | exact h30 c); (first | exact h35 e | exact h49 c); (first | exact h54 e | exact h66 c))) (List.forall_mem_cons.mpr ⟨rfl, List.forall_mem_cons.mpr ⟨rfl, List.forall_mem_cons.mpr ⟨rfl, fun _ h => absurd h List.not_mem_nil⟩⟩⟩)
          · refine r_iload_n (i := 0) hX dX8_rule_57 rfl (RR.pc (b := 58) rfl ?_)
            refine r_i2l hX dX8_rule_58 (RR.pc (b := 59) rfl ?_)
            refine r_lconst (v := 0) hX dX8_rule_59 rfl (RR.pc (b := 60) rfl ?_)
            refine r_ldc2 hX dX8_rule_60 k2_X8_78 (RR.pc (b := 63) rfl ?_)
            refine r_callSie hX dX8_rule_63 ml_X8_65 cd_X8_isIn st_X8_isIn c_X8_isIn (by decide) rfl rfl (Nat.le_of_ble_eq_true rfl) (RR.pc (b := 66) rfl ?_)
            refine r_if_eq_b (tgt := 73) hX dX8_rule_66 rfl (fun h66 => ?_) (fun h66 => RR.pc (b := 69) rfl ?_)
            · simp only [Int32.toInt_toInt64, Int64.reduceToInt] at h66
              exact RR.cut (bad (by rintro (⟨e, c⟩ | ⟨e, c⟩ | ⟨e, c⟩ | ⟨e, c⟩); (first | exact h1 e | exact h13 c); (first | exact h18 e | exact h30 c); (first | exact h35 e | exact h49 c); (first | exact h54 e | exact h66 c))) (List.forall_mem_cons.mpr ⟨rfl, List.forall_mem_cons.mpr ⟨rfl, List.forall_mem_cons.mpr ⟨rfl, fun _ h => absurd h List.not_mem_nil⟩⟩⟩)
            · simp only [Int32.toInt_toInt64, Int64.reduceToInt] at h66
              exact RR.cut (ok (by unfold mayR; first | exact Or.inl ⟨h1, h13⟩ | exact Or.inr (Or.inl ⟨h18, h30⟩) | exact Or.inr (Or.inr (Or.inl ⟨h35, h49⟩)) | exact Or.inr (Or.inr (Or.inr ⟨h54, h66⟩)))) (List.forall_mem_cons.mpr ⟨rfl, List.forall_mem_cons.mpr ⟨rfl, List.forall_mem_cons.mpr ⟨rfl, fun _ h => absurd h List.not_mem_nil⟩⟩⟩)
        · refine r_iload_n (i := 0) hX dX8_rule_38 rfl (RR.pc (b := 39) rfl ?_)
          refine r_i2l hX dX8_rule_39 (RR.pc (b := 40) rfl ?_)
          refine r_ldc2 hX dX8_rule_40 k2_X8_134 (RR.pc (b := 43) rfl ?_)
          refine r_ldc2 hX dX8_rule_43 k2_X8_136 (RR.pc (b := 46) rfl ?_)
          refine r_callSie hX dX8_rule_46 ml_X8_65 cd_X8_isIn st_X8_isIn c_X8_isIn (by decide) rfl rfl (Nat.le_of_ble_eq_true rfl) (RR.pc (b := 49) rfl ?_)
          refine r_if_ne_b (tgt := 69) hX dX8_rule_49 rfl (fun h49 => ?_) (fun h49 => RR.pc (b := 52) rfl ?_)
          · simp only [Int32.toInt_toInt64, Int64.reduceToInt] at h49
            exact RR.cut (ok (by unfold mayR; first | exact Or.inl ⟨h1, h13⟩ | exact Or.inr (Or.inl ⟨h18, h30⟩) | exact Or.inr (Or.inr (Or.inl ⟨h35, h49⟩)) | exact Or.inr (Or.inr (Or.inr ⟨h54, h66⟩)))) (List.forall_mem_cons.mpr ⟨rfl, List.forall_mem_cons.mpr ⟨rfl, List.forall_mem_cons.mpr ⟨rfl, fun _ h => absurd h List.not_mem_nil⟩⟩⟩)
          · simp only [Int32.toInt_toInt64, Int64.reduceToInt] at h49
            refine r_iload_n (i := 0) hX dX8_rule_52 rfl (RR.pc (b := 53) rfl ?_)
            refine r_iconst (v := 3) hX dX8_rule_53 (by decide) (RR.pc (b := 54) rfl ?_)
            refine r_icmp_ne (tgt := 73) hX dX8_rule_54 rfl (fun h54 => ?_) (fun h54 => RR.pc (b := 57) rfl ?_)
            · exact RR.cut (bad (by rintro (⟨e, c⟩ | ⟨e, c⟩ | ⟨e, c⟩ | ⟨e, c⟩); (first | exact h1 e | exact h13 c); (first | exact h18 e | exact h30 c); (first | exact h35 e | exact h49 c); (first | exact h54 e | exact h66 c))) (List.forall_mem_cons.mpr ⟨rfl, List.forall_mem_cons.mpr ⟨rfl, List.forall_mem_cons.mpr ⟨rfl, fun _ h => absurd h List.not_mem_nil⟩⟩⟩)
            · refine r_iload_n (i := 0) hX dX8_rule_57 rfl (RR.pc (b := 58) rfl ?_)
              refine r_i2l hX dX8_rule_58 (RR.pc (b := 59) rfl ?_)
              refine r_lconst (v := 0) hX dX8_rule_59 rfl (RR.pc (b := 60) rfl ?_)
              refine r_ldc2 hX dX8_rule_60 k2_X8_78 (RR.pc (b := 63) rfl ?_)
              refine r_callSie hX dX8_rule_63 ml_X8_65 cd_X8_isIn st_X8_isIn c_X8_isIn (by decide) rfl rfl (Nat.le_of_ble_eq_true rfl) (RR.pc (b := 66) rfl ?_)
              refine r_if_eq_b (tgt := 73) hX dX8_rule_66 rfl (fun h66 => ?_) (fun h66 => RR.pc (b := 69) rfl ?_)
              · simp only [Int32.toInt_toInt64, Int64.reduceToInt] at h66
                exact RR.cut (bad (by rintro (⟨e, c⟩ | ⟨e, c⟩ | ⟨e, c⟩ | ⟨e, c⟩); (first | exact h1 e | exact h13 c); (first | exact h18 e | exact h30 c); (first | exact h35 e | exact h49 c); (first | exact h54 e | exact h66 c))) (List.forall_mem_cons.mpr ⟨rfl, List.forall_mem_cons.mpr ⟨rfl, List.forall_mem_cons.mpr ⟨rfl, fun _ h => absurd h List.not_mem_nil⟩⟩⟩)
              · simp only [Int32.toInt_toInt64, Int64.reduceToInt] at h66
                exact RR.cut (ok (by unfold mayR; first | exact Or.inl ⟨h1, h13⟩ | exact Or.inr (Or.inl ⟨h18, h30⟩) | exact Or.inr (Or.inr (Or.inl ⟨h35, h49⟩)) | exact Or.inr (Or.inr (Or.inr ⟨h54, h66⟩)))) (List.forall_mem_cons.mpr ⟨rfl, List.forall_mem_cons.mpr ⟨rfl, List.forall_mem_cons.mpr ⟨rfl, fun _ h => absurd h List.not_mem_nil⟩⟩⟩)
      · refine r_iload_n (i := 0) hX dX8_rule_21 rfl (RR.pc (b := 22) rfl ?_)
        refine r_i2l hX dX8_rule_22 (RR.pc (b := 23) rfl ?_)
        refine r_lconst (v := 0) hX dX8_rule_23 rfl (RR.pc (b := 24) rfl ?_)
        refine r_ldc2 hX dX8_rule_24 k2_X8_132 (RR.pc (b := 27) rfl ?_)
        refine r_callSie hX dX8_rule_27 ml_X8_65 cd_X8_isIn st_X8_isIn c_X8_isIn (by decide) rfl rfl (Nat.le_of_ble_eq_true rfl) (RR.pc (b := 30) rfl ?_)
        refine r_if_ne_b (tgt := 69) hX dX8_rule_30 rfl (fun h30 => ?_) (fun h30 => RR.pc (b := 33) rfl ?_)
        · simp only [Int32.toInt_toInt64, Int64.reduceToInt] at h30
          exact RR.cut (ok (by unfold mayR; first | exact Or.inl ⟨h1, h13⟩ | exact Or.inr (Or.inl ⟨h18, h30⟩) | exact Or.inr (Or.inr (Or.inl ⟨h35, h49⟩)) | exact Or.inr (Or.inr (Or.inr ⟨h54, h66⟩)))) (List.forall_mem_cons.mpr ⟨rfl, List.forall_mem_cons.mpr ⟨rfl, List.forall_mem_cons.mpr ⟨rfl, fun _ h => absurd h List.not_mem_nil⟩⟩⟩)
        · simp only [Int32.toInt_toInt64, Int64.reduceToInt] at h30
          refine r_iload_n (i := 0) hX dX8_rule_33 rfl (RR.pc (b := 34) rfl ?_)
          refine r_iconst (v := 2) hX dX8_rule_34 (by decide) (RR.pc (b := 35) rfl ?_)
          refine r_icmp_ne (tgt := 52) hX dX8_rule_35 rfl (fun h35 => ?_) (fun h35 => RR.pc (b := 38) rfl ?_)
          · refine r_iload_n (i := 0) hX dX8_rule_52 rfl (RR.pc (b := 53) rfl ?_)
            refine r_iconst (v := 3) hX dX8_rule_53 (by decide) (RR.pc (b := 54) rfl ?_)
            refine r_icmp_ne (tgt := 73) hX dX8_rule_54 rfl (fun h54 => ?_) (fun h54 => RR.pc (b := 57) rfl ?_)
            · exact RR.cut (bad (by rintro (⟨e, c⟩ | ⟨e, c⟩ | ⟨e, c⟩ | ⟨e, c⟩); (first | exact h1 e | exact h13 c); (first | exact h18 e | exact h30 c); (first | exact h35 e | exact h49 c); (first | exact h54 e | exact h66 c))) (List.forall_mem_cons.mpr ⟨rfl, List.forall_mem_cons.mpr ⟨rfl, List.forall_mem_cons.mpr ⟨rfl, fun _ h => absurd h List.not_mem_nil⟩⟩⟩)
            · refine r_iload_n (i := 0) hX dX8_rule_57 rfl (RR.pc (b := 58) rfl ?_)
              refine r_i2l hX dX8_rule_58 (RR.pc (b := 59) rfl ?_)
              refine r_lconst (v := 0) hX dX8_rule_59 rfl (RR.pc (b := 60) rfl ?_)
              refine r_ldc2 hX dX8_rule_60 k2_X8_78 (RR.pc (b := 63) rfl ?_)
              refine r_callSie hX dX8_rule_63 ml_X8_65 cd_X8_isIn st_X8_isIn c_X8_isIn (by decide) rfl rfl (Nat.le_of_ble_eq_true rfl) (RR.pc (b := 66) rfl ?_)
              refine r_if_eq_b (tgt := 73) hX dX8_rule_66 rfl (fun h66 => ?_) (fun h66 => RR.pc (b := 69) rfl ?_)
              · simp only [Int32.toInt_toInt64, Int64.reduceToInt] at h66
                exact RR.cut (bad (by rintro (⟨e, c⟩ | ⟨e, c⟩ | ⟨e, c⟩ | ⟨e, c⟩); (first | exact h1 e | exact h13 c); (first | exact h18 e | exact h30 c); (first | exact h35 e | exact h49 c); (first | exact h54 e | exact h66 c))) (List.forall_mem_cons.mpr ⟨rfl, List.forall_mem_cons.mpr ⟨rfl, List.forall_mem_cons.mpr ⟨rfl, fun _ h => absurd h List.not_mem_nil⟩⟩⟩)
              · simp only [Int32.toInt_toInt64, Int64.reduceToInt] at h66
                exact RR.cut (ok (by unfold mayR; first | exact Or.inl ⟨h1, h13⟩ | exact Or.inr (Or.inl ⟨h18, h30⟩) | exact Or.inr (Or.inr (Or.inl ⟨h35, h49⟩)) | exact Or.inr (Or.inr (Or.inr ⟨h54, h66⟩)))) (List.forall_mem_cons.mpr ⟨rfl, List.forall_mem_cons.mpr ⟨rfl, List.forall_mem_cons.mpr ⟨rfl, fun _ h => absurd h List.not_mem_nil⟩⟩⟩)
          · refine r_iload_n (i := 0) hX dX8_rule_38 rfl (RR.pc (b := 39) rfl ?_)
            refine r_i2l hX dX8_rule_39 (RR.pc (b := 40) rfl ?_)
            refine r_ldc2 hX dX8_rule_40 k2_X8_134 (RR.pc (b := 43) rfl ?_)
            refine r_ldc2 hX dX8_rule_43 k2_X8_136 (RR.pc (b := 46) rfl ?_)
            refine r_callSie hX dX8_rule_46 ml_X8_65 cd_X8_isIn st_X8_isIn c_X8_isIn (by decide) rfl rfl (Nat.le_of_ble_eq_true rfl) (RR.pc (b := 49) rfl ?_)
            refine r_if_ne_b (tgt := 69) hX dX8_rule_49 rfl (fun h49 => ?_) (fun h49 => RR.pc (b := 52) rfl ?_)
            · simp only [Int32.toInt_toInt64, Int64.reduceToInt] at h49
              exact RR.cut (ok (by unfold mayR; first | exact Or.inl ⟨h1, h13⟩ | exact Or.inr (Or.inl ⟨h18, h30⟩) | exact Or.inr (Or.inr (Or.inl ⟨h35, h49⟩)) | exact Or.inr (Or.inr (Or.inr ⟨h54, h66⟩)))) (List.forall_mem_cons.mpr ⟨rfl, List.forall_mem_cons.mpr ⟨rfl, List.forall_mem_cons.mpr ⟨rfl, fun _ h => absurd h List.not_mem_nil⟩⟩⟩)
            · simp only [Int32.toInt_toInt64, Int64.reduceToInt] at h49
              refine r_iload_n (i := 0) hX dX8_rule_52 rfl (RR.pc (b := 53) rfl ?_)
              refine r_iconst (v := 3) hX dX8_rule_53 (by decide) (RR.pc (b := 54) rfl ?_)
              refine r_icmp_ne (tgt := 73) hX dX8_rule_54 rfl (fun h54 => ?_) (fun h54 => RR.pc (b := 57) rfl ?_)
              · exact RR.cut (bad (by rintro (⟨e, c⟩ | ⟨e, c⟩ | ⟨e, c⟩ | ⟨e, c⟩); (first | exact h1 e | exact h13 c); (first | exact h18 e | exact h30 c); (first | exact h35 e | exact h49 c); (first | exact h54 e | exact h66 c))) (List.forall_mem_cons.mpr ⟨rfl, List.forall_mem_cons.mpr ⟨rfl, List.forall_mem_cons.mpr ⟨rfl, fun _ h => absurd h List.not_mem_nil⟩⟩⟩)
              · refine r_iload_n (i := 0) hX dX8_rule_57 rfl (RR.pc (b := 58) rfl ?_)
                refine r_i2l hX dX8_rule_58 (RR.pc (b := 59) rfl ?_)
                refine r_lconst (v := 0) hX dX8_rule_59 rfl (RR.pc (b := 60) rfl ?_)
                refine r_ldc2 hX dX8_rule_60 k2_X8_78 (RR.pc (b := 63) rfl ?_)
                refine r_callSie hX dX8_rule_63 ml_X8_65 cd_X8_isIn st_X8_isIn c_X8_isIn (by decide) rfl rfl (Nat.le_of_ble_eq_true rfl) (RR.pc (b := 66) rfl ?_)
                refine r_if_eq_b (tgt := 73) hX dX8_rule_66 rfl (fun h66 => ?_) (fun h66 => RR.pc (b := 69) rfl ?_)
                · simp only [Int32.toInt_toInt64, Int64.reduceToInt] at h66
                  exact RR.cut (bad (by rintro (⟨e, c⟩ | ⟨e, c⟩ | ⟨e, c⟩ | ⟨e, c⟩); (first | exact h1 e | exact h13 c); (first | exact h18 e | exact h30 c); (first | exact h35 e | exact h49 c); (first | exact h54 e | exact h66 c))) (List.forall_mem_cons.mpr ⟨rfl, List.forall_mem_cons.mpr ⟨rfl, List.forall_mem_cons.mpr ⟨rfl, fun _ h => absurd h List.not_mem_nil⟩⟩⟩)
                · simp only [Int32.toInt_toInt64, Int64.reduceToInt] at h66
                  exact RR.cut (ok (by unfold mayR; first | exact Or.inl ⟨h1, h13⟩ | exact Or.inr (Or.inl ⟨h18, h30⟩) | exact Or.inr (Or.inr (Or.inl ⟨h35, h49⟩)) | exact Or.inr (Or.inr (Or.inr ⟨h54, h66⟩)))) (List.forall_mem_cons.mpr ⟨rfl, List.forall_mem_cons.mpr ⟨rfl, List.forall_mem_cons.mpr ⟨rfl, fun _ h => absurd h List.not_mem_nil⟩⟩⟩)
set_option maxHeartbeats 4000000 in
set_option maxRecDepth 100000 in
theorem c_X8_yard {G : GM} {σ : SG} {y what : Int32} : CI G yX8_yard cX8_yard 3 (some .int) 2 [rf G 109, .int y, .int what] σ (fun r s => r = yardF (σ 20) y what ∧ s = σ) := by
  refine Con.of cd_X8_yard (Nat.le_of_ble_eq_true rfl) ?_
  intro X hX hZ
  have hX : Fx X G RX8 cX8_yard 3 2 := hX
  show RR X G 3 0 (ll [(0, rf G 109), (1, .int y), (2, .int what)]) [] σ
  refine r_iload_n (i := 0) hX dX8_yard_0 rfl (RR.pc (b := 1) rfl ?_)
  refine r_callSie hX dX8_yard_1 ml_X8_138 cd_X8_isYard st_X8_isYard c_X8_isYard (by decide) rfl rfl (Nat.le_of_ble_eq_true rfl) (RR.pc (b := 4) rfl ?_)
  refine r_if_eq_b (tgt := 17) hX dX8_yard_4 rfl (fun h4 => ?_) (fun h4 => RR.pc (b := 7) rfl ?_)
  · refine r_ldc hX dX8_yard_17 kc_X8_84 (RR.pc (b := 19) rfl ?_)
    exact r_iret hX hZ dX8_yard_19 ⟨_, rfl, ⟨by unfold yardF; first | (rw [ix_none (by omega)]) | (rw [ix_some ha (by omega)]; dsimp only; first | (rw [if_neg (w01n h14).1, if_neg (w01n h14).2]) | (rw [if_pos h25]) | (rw [if_neg h25, if_pos ((w01 h14).resolve_left h25)])), rfl⟩⟩
  · obtain ⟨a, ha, rfl⟩ := ix_of (n := 60) (by omega : 0 ≤ y.toInt ∧ y.toInt < 60) (by omega)
    refine r_iload_n (i := 0) hX dX8_yard_7 rfl (RR.pc (b := 8) rfl ?_)
    refine r_i2l hX dX8_yard_8 (RR.pc (b := 9) rfl ?_)
    refine r_lconst (v := 0) hX dX8_yard_9 rfl (RR.pc (b := 10) rfl ?_)
    refine r_lconst (v := 1) hX dX8_yard_10 rfl (RR.pc (b := 11) rfl ?_)
    refine r_callSie hX dX8_yard_11 ml_X8_65 cd_X8_isIn st_X8_isIn c_X8_isIn (by decide) rfl rfl (Nat.le_of_ble_eq_true rfl) (RR.pc (b := 14) rfl ?_)
    refine r_if_ne_b (tgt := 20) hX dX8_yard_14 rfl (fun h14 => ?_) (fun h14 => RR.pc (b := 17) rfl ?_)
    · simp only [Int32.toInt_toInt64, Int64.reduceToInt] at h14
      refine r_aload_n hX dX8_yard_20 rfl ⟨_, rfl⟩ (RR.pc (b := 21) rfl ?_)
      refine r_getr hX dX8_yard_21 fl_X8_7 (by first | rfl | assumption) rfl (RR.pc (b := 24) rfl ?_)
      refine r_iload_n (i := 0) hX dX8_yard_24 rfl (RR.pc (b := 25) rfl ?_)
      refine r_if_ne (tgt := 33) hX dX8_yard_25 rfl (fun h25 => ?_) (fun h25 => RR.pc (b := 28) rfl ?_)
      · refine r_bipush (v := 71) hX dX8_yard_33 (by decide) (RR.pc (b := 35) rfl ?_)
        refine r_iload_n (i := 0) hX dX8_yard_35 rfl (RR.pc (b := 36) rfl ?_)
        refine r_iadd hX dX8_yard_36 (RR.pc (b := 37) rfl ?_)
        refine r_iald hX dX8_yard_37 (by first | rfl | assumption) (by first | exact nI_add 11 a | exact nI_add 71 a) (by omega) (by decide) (by first | exact Nat.zero_add _ | rfl) (RR.pc (b := 38) rfl ?_)
        exact r_iret hX hZ dX8_yard_38 ⟨_, rfl, ⟨by unfold yardF; first | (rw [ix_none (by omega)]) | (rw [ix_some ha (by omega)]; dsimp only; first | (rw [if_neg (w01n h14).1, if_neg (w01n h14).2]) | (rw [if_pos h25]) | (rw [if_neg h25, if_pos ((w01 h14).resolve_left h25)])), rfl⟩⟩
      · refine r_bipush (v := 11) hX dX8_yard_28 (by decide) (RR.pc (b := 30) rfl ?_)
        refine r_goto (tgt := 35) hX dX8_yard_30 rfl ?_
        refine r_iload_n (i := 0) hX dX8_yard_35 rfl (RR.pc (b := 36) rfl ?_)
        refine r_iadd hX dX8_yard_36 (RR.pc (b := 37) rfl ?_)
        refine r_iald hX dX8_yard_37 (by first | rfl | assumption) (by first | exact nI_add 11 a | exact nI_add 71 a) (by omega) (by decide) (by first | exact Nat.zero_add _ | rfl) (RR.pc (b := 38) rfl ?_)
        exact r_iret hX hZ dX8_yard_38 ⟨_, rfl, ⟨by unfold yardF; first | (rw [ix_none (by omega)]) | (rw [ix_some ha (by omega)]; dsimp only; first | (rw [if_neg (w01n h14).1, if_neg (w01n h14).2]) | (rw [if_pos h25]) | (rw [if_neg h25, if_pos ((w01 h14).resolve_left h25)])), rfl⟩⟩
    · simp only [Int32.toInt_toInt64, Int64.reduceToInt] at h14
      refine r_ldc hX dX8_yard_17 kc_X8_84 (RR.pc (b := 19) rfl ?_)
      exact r_iret hX hZ dX8_yard_19 ⟨_, rfl, ⟨by unfold yardF; first | (rw [ix_none (by omega)]) | (rw [ix_some ha (by omega)]; dsimp only; first | (rw [if_neg (w01n h14).1, if_neg (w01n h14).2]) | (rw [if_pos h25]) | (rw [if_neg h25, if_pos ((w01 h14).resolve_left h25)])), rfl⟩⟩
set_option maxHeartbeats 4000000 in
set_option maxRecDepth 100000 in
theorem c_X8_sweep {G : GM} {σ : SG} {y : Int32} : CI G yX8_sweep cX8_sweep 2 (some .int) 2 [rf G 109, .int y] σ (fun r s => r = (sweepF (σ 20) y).1 ∧ s = sr σ 20 (sweepF (σ 20) y).2) := by
  refine Con.of cd_X8_sweep (Nat.le_of_ble_eq_true rfl) ?_
  intro X hX hZ
  have hX : Fx X G RX8 cX8_sweep 2 2 := hX
  show RR X G 2 0 (ll [(0, rf G 109), (1, .int y)]) [] σ
  refine r_iload_n (i := 0) hX dX8_sweep_0 rfl (RR.pc (b := 1) rfl ?_)
  refine r_callSie hX dX8_sweep_1 ml_X8_138 cd_X8_isYard st_X8_isYard c_X8_isYard (by decide) rfl rfl (Nat.le_of_ble_eq_true rfl) (RR.pc (b := 4) rfl ?_)
  refine r_if_eq_b (tgt := 19) hX dX8_sweep_4 rfl (fun h4 => ?_) (fun h4 => RR.pc (b := 7) rfl ?_)
  · refine r_ldc hX dX8_sweep_19 kc_X8_84 (RR.pc (b := 21) rfl ?_)
    exact r_iret hX hZ dX8_sweep_21 ⟨_, rfl, by unfold sweepF; first | (rw [ix_none (by omega)]; exact ⟨rfl, sr_self.symm⟩) | (rw [ix_some ha (by omega)]; exact ⟨rfl, rfl⟩)⟩
  · obtain ⟨a, ha, rfl⟩ := ix_of (n := 60) (by omega : 0 ≤ y.toInt ∧ y.toInt < 60) (by omega)
    refine r_aload_n hX dX8_sweep_7 rfl ⟨_, rfl⟩ (RR.pc (b := 8) rfl ?_)
    refine r_bipush (v := 11) hX dX8_sweep_8 (by decide) (RR.pc (b := 10) rfl ?_)
    refine r_iload_n (i := 0) hX dX8_sweep_10 rfl (RR.pc (b := 11) rfl ?_)
    refine r_iadd hX dX8_sweep_11 (RR.pc (b := 12) rfl ?_)
    refine r_iconst (v := 0) hX dX8_sweep_12 (by decide) (RR.pc (b := 13) rfl ?_)
    refine r_callVie hX dX8_sweep_13 ml_X8_122 cd_X8_becomes iv_X8_becomes (c_X8_becomes (n := 11 + a) (nI_add 11 a) (by omega)) (by decide) (by first | rfl | assumption) rfl rfl rfl rfl (Nat.le_of_ble_eq_true rfl) (RR.pc (b := 16) rfl ?_)
    refine r_goto (tgt := 21) hX dX8_sweep_16 rfl ?_
    exact r_iret hX hZ dX8_sweep_21 ⟨_, rfl, by unfold sweepF; first | (rw [ix_none (by omega)]; exact ⟨rfl, sr_self.symm⟩) | (rw [ix_some ha (by omega)]; exact ⟨rfl, rfl⟩)⟩
set_option maxHeartbeats 4000000 in
set_option maxRecDepth 100000 in
theorem c_X8_rain {G : GM} {σ : SG} : CI G yX8_rain cX8_rain 4 (some .int) 0 [rf G 109] σ (fun r s => r = rainS (σ 20) 60 ∧ s = sr σ 20 (rainW (σ 20) 60)) := by
  refine Con.of cd_X8_rain (Nat.le_of_ble_eq_true rfl) ?_
  intro X hX hZ
  have hX : Fx X G RX8 cX8_rain 4 0 := hX
  show RR X G 4 0 (ll [(0, rf G 109)]) [] σ
  have loop := loopK 60 (fun k => RR X G 4 4 (ll [(0, rf G 109), (1, .int (rainS (σ 20) k)), (2, .int (nI k))]) [] (sr σ 20 (rainW (σ 20) k))) (by
    intro k hk ih
    refine r_iload_n (i := 0) hX dX8_rain_4 rfl (RR.pc (b := 5) rfl ?_)
    refine r_bipush (v := 60) hX dX8_rain_5 (by decide) (RR.pc (b := 7) rfl ?_)
    refine r_icmp_ge (tgt := 59) hX dX8_rain_7 rfl (fun h7 => ?_) (fun h7 => RR.pc (b := 10) rfl ?_)
    · have hk2 : k = 60 := by rw [show (60 : Int32) = nI 60 from rfl, nI_leI (by omega) (by omega)] at h7; omega
      subst hk2
      refine r_iload_n (i := 0) hX dX8_rain_59 rfl (RR.pc (b := 60) rfl ?_)
      exact r_iret hX hZ dX8_rain_60 ⟨_, rfl, ⟨rfl, rfl⟩⟩
    · have hk2 : k < 60 := by rw [show (60 : Int32) = nI 60 from rfl, nI_leI (by omega) (by omega)] at h7; omega
      refine r_aload_n hX dX8_rain_10 rfl ⟨_, rfl⟩ (RR.pc (b := 11) rfl ?_)
      refine r_getr hX dX8_rain_11 fl_X8_7 (by first | rfl | assumption) rfl (RR.pc (b := 14) rfl ?_)
      refine r_bipush (v := 11) hX dX8_rain_14 (by decide) (RR.pc (b := 16) rfl ?_)
      refine r_iload_n (i := 0) hX dX8_rain_16 rfl (RR.pc (b := 17) rfl ?_)
      refine r_iadd hX dX8_rain_17 (RR.pc (b := 18) rfl ?_)
      refine r_iald hX dX8_rain_18 (by first | rfl | assumption) (nI_add 11 k) (by omega) (by decide) (by first | exact Nat.zero_add _ | rfl) (RR.pc (b := 19) rfl ?_)
      rw [sr_eq]
      refine r_bipush (v := 10) hX dX8_rain_19 (by decide) (RR.pc (b := 21) rfl ?_)
      refine r_idiv hX dX8_rain_21 (by decide) (RR.pc (b := 22) rfl ?_)
      refine r_istore_n hX dX8_rain_22 (by decide) (RR.pc (b := 23) rfl ?_)
      refine r_aload_n hX dX8_rain_23 rfl ⟨_, rfl⟩ (RR.pc (b := 24) rfl ?_)
      refine r_getr hX dX8_rain_24 fl_X8_7 (by first | rfl | assumption) rfl (RR.pc (b := 27) rfl ?_)
      refine r_bipush (v := 11) hX dX8_rain_27 (by decide) (RR.pc (b := 29) rfl ?_)
      refine r_iload_n (i := 0) hX dX8_rain_29 rfl (RR.pc (b := 30) rfl ?_)
      refine r_iadd hX dX8_rain_30 (RR.pc (b := 31) rfl ?_)
      refine r_dup2_11 hX dX8_rain_31 rfl rfl (RR.pc (b := 32) rfl ?_)
      refine r_iald hX dX8_rain_32 (by first | rfl | assumption) (nI_add 11 k) (by omega) (by decide) (by first | exact Nat.zero_add _ | rfl) (RR.pc (b := 33) rfl ?_)
      refine r_iload_n (i := 0) hX dX8_rain_33 rfl (RR.pc (b := 34) rfl ?_)
      refine r_isub hX dX8_rain_34 (RR.pc (b := 35) rfl ?_)
      refine r_iast hX dX8_rain_35 (by first | rfl | assumption) (nI_add 11 k) (by omega) (by decide) (by first | exact Nat.zero_add _ | rfl) (RR.pc (b := 36) rfl ?_)
      refine r_aload_n hX dX8_rain_36 rfl ⟨_, rfl⟩ (RR.pc (b := 37) rfl ?_)
      refine r_getr hX dX8_rain_37 fl_X8_7 (by first | rfl | assumption) rfl (RR.pc (b := 40) rfl ?_)
      refine r_bipush (v := 71) hX dX8_rain_40 (by decide) (RR.pc (b := 42) rfl ?_)
      refine r_iload_n (i := 0) hX dX8_rain_42 rfl (RR.pc (b := 43) rfl ?_)
      refine r_iadd hX dX8_rain_43 (RR.pc (b := 44) rfl ?_)
      refine r_dup2_11 hX dX8_rain_44 rfl rfl (RR.pc (b := 45) rfl ?_)
      refine r_iald hX dX8_rain_45 (by first | rfl | assumption) (nI_add 71 k) (by omega) (by decide) (by first | exact Nat.zero_add _ | rfl) (RR.pc (b := 46) rfl ?_)
      refine r_iload_n (i := 0) hX dX8_rain_46 rfl (RR.pc (b := 47) rfl ?_)
      refine r_iadd hX dX8_rain_47 (RR.pc (b := 48) rfl ?_)
      refine r_iast hX dX8_rain_48 (by first | rfl | assumption) (nI_add 71 k) (by omega) (by decide) (by first | exact Nat.zero_add _ | rfl) (RR.pc (b := 49) rfl ?_)
      refine r_iload_n (i := 0) hX dX8_rain_49 rfl (RR.pc (b := 50) rfl ?_)
      refine r_iload_n (i := 0) hX dX8_rain_50 rfl (RR.pc (b := 51) rfl ?_)
      refine r_iadd hX dX8_rain_51 (RR.pc (b := 52) rfl ?_)
      refine r_istore_n hX dX8_rain_52 (by decide) (RR.pc (b := 53) rfl ?_)
      refine r_iinc hX dX8_rain_53 rfl (by decide) (nI_1 k) (RR.pc (b := 56) rfl ?_)
      refine r_goto (tgt := 4) hX dX8_rain_56 rfl ?_
      refine RR.eqs ?_ (RR.cut (ih hk2) (List.forall_mem_cons.mpr ⟨rfl, List.forall_mem_cons.mpr ⟨rfl, List.forall_mem_cons.mpr ⟨rfl, fun _ h => absurd h List.not_mem_nil⟩⟩⟩))
      simp only [su_sr, sr_eq]
      rw [pk_un (show 71 + k ≠ 11 + k by omega)]
      rfl
    )
  refine r_iconst (v := 0) hX dX8_rain_0 (by decide) (RR.pc (b := 1) rfl ?_)
  refine r_istore_n hX dX8_rain_1 (by decide) (RR.pc (b := 2) rfl ?_)
  refine r_iconst (v := 0) hX dX8_rain_2 (by decide) (RR.pc (b := 3) rfl ?_)
  refine r_istore_n hX dX8_rain_3 (by decide) (RR.pc (b := 4) rfl ?_)
  exact RR.eqs (sr_self (r := 20)).symm (RR.cut (loop 0 (by omega)) (List.forall_mem_cons.mpr ⟨rfl, List.forall_mem_cons.mpr ⟨rfl, List.forall_mem_cons.mpr ⟨rfl, fun _ h => absurd h List.not_mem_nil⟩⟩⟩))
set_option maxHeartbeats 4000000 in
set_option maxRecDepth 100000 in
theorem c_X8_seed {G : GM} {σ : SG} {v : Int32} : CI G yX8_seed cX8_seed 2 (some .int) 1 [rf G 109, .int v] σ (fun r s => r = σ 20 6 ∧ s = su σ 20 6 v) := by
  refine Con.of cd_X8_seed (Nat.le_of_ble_eq_true rfl) ?_
  intro X hX hZ
  have hX : Fx X G RX8 cX8_seed 2 1 := hX
  show RR X G 2 0 (ll [(0, rf G 109), (1, .int v)]) [] σ
  refine r_aload_n hX dX8_seed_0 rfl ⟨_, rfl⟩ (RR.pc (b := 1) rfl ?_)
  refine r_bipush (v := 6) hX dX8_seed_1 (by decide) (RR.pc (b := 3) rfl ?_)
  refine r_iload_n (i := 0) hX dX8_seed_3 rfl (RR.pc (b := 4) rfl ?_)
  refine r_callVie hX dX8_seed_4 ml_X8_122 cd_X8_becomes iv_X8_becomes (c_X8_becomes (n := 6) rfl (by decide)) (by decide) (by first | rfl | assumption) rfl rfl rfl rfl (Nat.le_of_ble_eq_true rfl) (RR.pc (b := 7) rfl ?_)
  exact r_iret hX hZ dX8_seed_7 ⟨_, rfl, ⟨rfl, rfl⟩⟩
set_option maxHeartbeats 4000000 in
set_option maxRecDepth 100000 in
theorem c_X8_allOf {G : GM} {σ : SG} {o : Nat} (ho : o + 60 < 3171) : CI G yX8_allOf cX8_allOf 4 (some .int) 0 [rf G 109, .int (nI o)] σ (fun r s => r = sumW (σ 20) o 60 ∧ s = σ) := by
  refine Con.of cd_X8_allOf (Nat.le_of_ble_eq_true rfl) ?_
  intro X hX hZ
  have hX : Fx X G RX8 cX8_allOf 4 0 := hX
  show RR X G 4 0 (ll [(0, rf G 109), (1, .int (nI o))]) [] σ
  have loop := loopK 60 (fun k => RR X G 4 4 (ll [(0, rf G 109), (1, .int (nI o)), (2, .int (sumW (σ 20) o k)), (3, .int (nI k))]) [] σ) (by
    intro k hk ih
    refine r_iload_n (i := 0) hX dX8_allOf_4 rfl (RR.pc (b := 5) rfl ?_)
    refine r_bipush (v := 60) hX dX8_allOf_5 (by decide) (RR.pc (b := 7) rfl ?_)
    refine r_icmp_ge (tgt := 27) hX dX8_allOf_7 rfl (fun h7 => ?_) (fun h7 => RR.pc (b := 10) rfl ?_)
    · have hk2 : k = 60 := by rw [show (60 : Int32) = nI 60 from rfl, nI_leI (by omega) (by omega)] at h7; omega
      subst hk2
      refine r_iload_n (i := 0) hX dX8_allOf_27 rfl (RR.pc (b := 28) rfl ?_)
      exact r_iret hX hZ dX8_allOf_28 ⟨_, rfl, ⟨rfl, rfl⟩⟩
    · have hk2 : k < 60 := by rw [show (60 : Int32) = nI 60 from rfl, nI_leI (by omega) (by omega)] at h7; omega
      refine r_iload_n (i := 0) hX dX8_allOf_10 rfl (RR.pc (b := 11) rfl ?_)
      refine r_aload_n hX dX8_allOf_11 rfl ⟨_, rfl⟩ (RR.pc (b := 12) rfl ?_)
      refine r_getr hX dX8_allOf_12 fl_X8_7 (by first | rfl | assumption) rfl (RR.pc (b := 15) rfl ?_)
      refine r_iload_n (i := 0) hX dX8_allOf_15 rfl (RR.pc (b := 16) rfl ?_)
      refine r_iload_n (i := 0) hX dX8_allOf_16 rfl (RR.pc (b := 17) rfl ?_)
      refine r_iadd hX dX8_allOf_17 (RR.pc (b := 18) rfl ?_)
      refine r_iald hX dX8_allOf_18 (by first | rfl | assumption) (nI_add o k) (by omega) (by decide) (by first | exact Nat.zero_add _ | rfl) (RR.pc (b := 19) rfl ?_)
      refine r_iadd hX dX8_allOf_19 (RR.pc (b := 20) rfl ?_)
      refine r_istore_n hX dX8_allOf_20 (by decide) (RR.pc (b := 21) rfl ?_)
      refine r_iinc hX dX8_allOf_21 rfl (by decide) (nI_1 k) (RR.pc (b := 24) rfl ?_)
      refine r_goto (tgt := 4) hX dX8_allOf_24 rfl ?_
      exact RR.cut (ih hk2) (List.forall_mem_cons.mpr ⟨rfl, List.forall_mem_cons.mpr ⟨rfl, List.forall_mem_cons.mpr ⟨rfl, List.forall_mem_cons.mpr ⟨rfl, fun _ h => absurd h List.not_mem_nil⟩⟩⟩⟩)
    )
  refine r_iconst (v := 0) hX dX8_allOf_0 (by decide) (RR.pc (b := 1) rfl ?_)
  refine r_istore_n hX dX8_allOf_1 (by decide) (RR.pc (b := 2) rfl ?_)
  refine r_iconst (v := 0) hX dX8_allOf_2 (by decide) (RR.pc (b := 3) rfl ?_)
  refine r_istore_n hX dX8_allOf_3 (by decide) (RR.pc (b := 4) rfl ?_)
  exact RR.cut (loop 0 (by omega)) (List.forall_mem_cons.mpr ⟨rfl, List.forall_mem_cons.mpr ⟨rfl, List.forall_mem_cons.mpr ⟨rfl, List.forall_mem_cons.mpr ⟨rfl, fun _ h => absurd h List.not_mem_nil⟩⟩⟩⟩)
set_option maxHeartbeats 4000000 in
set_option maxRecDepth 100000 in
theorem c_X8_inSacks {G : GM} {σ : SG} {n : Nat} (hN : σ 20 0 = nI n) (h8 : n ≤ 8) : CI G yX8_inSacks cX8_inSacks 3 (some .int) 1 [rf G 109] σ (fun r s => r = sackW (σ 20) n ∧ s = σ) := by
  refine Con.of cd_X8_inSacks (Nat.le_of_ble_eq_true rfl) ?_
  intro X hX hZ
  have hX : Fx X G RX8 cX8_inSacks 3 1 := hX
  show RR X G 3 0 (ll [(0, rf G 109)]) [] σ
  have loop := loopK n (fun k => RR X G 3 4 (ll [(0, rf G 109), (1, .int (sackW (σ 20) k)), (2, .int (nI k))]) [] σ) (by
    intro k hk ih
    refine r_iload_n (i := 0) hX dX8_inSacks_4 rfl (RR.pc (b := 5) rfl ?_)
    refine r_aload_n hX dX8_inSacks_5 rfl ⟨_, rfl⟩ (RR.pc (b := 6) rfl ?_)
    refine r_getr hX dX8_inSacks_6 fl_X8_7 (by first | rfl | assumption) rfl (RR.pc (b := 9) rfl ?_)
    refine r_iconst (v := 0) hX dX8_inSacks_9 (by decide) (RR.pc (b := 10) rfl ?_)
    refine r_iald hX dX8_inSacks_10 (by first | rfl | assumption) (by first | rfl | assumption) (by first | decide | assumption | omega) (by decide) (by first | exact Nat.zero_add _ | rfl) (RR.pc (b := 11) rfl ?_)
    rw [hN]
    refine r_icmp_ge (tgt := 29) hX dX8_inSacks_11 rfl (fun h11 => ?_) (fun h11 => RR.pc (b := 14) rfl ?_)
    · have hk2 : k = n := by rw [nI_leI (by omega) (by omega)] at h11; omega
      subst hk2
      refine r_iload_n (i := 0) hX dX8_inSacks_29 rfl (RR.pc (b := 30) rfl ?_)
      exact r_iret hX hZ dX8_inSacks_30 ⟨_, rfl, ⟨rfl, rfl⟩⟩
    · have hk2 : k < n := by rw [nI_leI (by omega) (by omega)] at h11; omega
      refine r_iload_n (i := 0) hX dX8_inSacks_14 rfl (RR.pc (b := 15) rfl ?_)
      refine r_aload_n hX dX8_inSacks_15 rfl ⟨_, rfl⟩ (RR.pc (b := 16) rfl ?_)
      refine r_iload_n (i := 0) hX dX8_inSacks_16 rfl (RR.pc (b := 17) rfl ?_)
      refine r_iconst (v := 3) hX dX8_inSacks_17 (by decide) (RR.pc (b := 18) rfl ?_)
      refine r_callVie hX dX8_inSacks_18 ml_X8_90 cd_X8_of iv_X8_of (c_X8_of (a := k) (b := 3) (q := 131 + 5 * k + 3) rfl rfl rfl (by omega)) (by decide) (by first | rfl | assumption) rfl rfl rfl rfl (Nat.le_of_ble_eq_true rfl) (RR.pc (b := 21) rfl ?_)
      refine r_iadd hX dX8_inSacks_21 (RR.pc (b := 22) rfl ?_)
      refine r_istore_n hX dX8_inSacks_22 (by decide) (RR.pc (b := 23) rfl ?_)
      refine r_iinc hX dX8_inSacks_23 rfl (by decide) (nI_1 k) (RR.pc (b := 26) rfl ?_)
      refine r_goto (tgt := 4) hX dX8_inSacks_26 rfl ?_
      exact RR.cut (ih hk2) (List.forall_mem_cons.mpr ⟨rfl, List.forall_mem_cons.mpr ⟨rfl, List.forall_mem_cons.mpr ⟨rfl, fun _ h => absurd h List.not_mem_nil⟩⟩⟩)
    )
  refine r_iconst (v := 0) hX dX8_inSacks_0 (by decide) (RR.pc (b := 1) rfl ?_)
  refine r_istore_n hX dX8_inSacks_1 (by decide) (RR.pc (b := 2) rfl ?_)
  refine r_iconst (v := 0) hX dX8_inSacks_2 (by decide) (RR.pc (b := 3) rfl ?_)
  refine r_istore_n hX dX8_inSacks_3 (by decide) (RR.pc (b := 4) rfl ?_)
  exact RR.cut (loop 0 (by omega)) (List.forall_mem_cons.mpr ⟨rfl, List.forall_mem_cons.mpr ⟨rfl, List.forall_mem_cons.mpr ⟨rfl, fun _ h => absurd h List.not_mem_nil⟩⟩⟩)
set_option maxHeartbeats 4000000 in
set_option maxRecDepth 100000 in
theorem c_X8_trail {G : GM} {σ : SG} : CI G yX8_trail cX8_trail 4 (some .int) 0 [rf G 109] σ (fun r s => r = trM (σ 20) 60 ∧ s = σ) := by
  refine Con.of cd_X8_trail (Nat.le_of_ble_eq_true rfl) ?_
  intro X hX hZ
  have hX : Fx X G RX8 cX8_trail 4 0 := hX
  show RR X G 4 0 (ll [(0, rf G 109)]) [] σ
  have loop := loopK 60 (fun k => RR X G 4 6 (ll [(0, rf G 109), (1, .int (trM (σ 20) k)), (2, .int (trL (σ 20) k)), (3, .int (nI k))]) [] σ) (by
    intro k hk ih
    refine r_iload_n (i := 0) hX dX8_trail_6 rfl (RR.pc (b := 7) rfl ?_)
    refine r_bipush (v := 60) hX dX8_trail_7 (by decide) (RR.pc (b := 9) rfl ?_)
    refine r_icmp_ge (tgt := 49) hX dX8_trail_9 rfl (fun h9 => ?_) (fun h9 => RR.pc (b := 12) rfl ?_)
    · have hk2 : k = 60 := by rw [show (60 : Int32) = nI 60 from rfl, nI_leI (by omega) (by omega)] at h9; omega
      subst hk2
      refine r_iload_n (i := 0) hX dX8_trail_49 rfl (RR.pc (b := 50) rfl ?_)
      exact r_iret hX hZ dX8_trail_50 ⟨_, rfl, ⟨rfl, rfl⟩⟩
    · have hk2 : k < 60 := by rw [show (60 : Int32) = nI 60 from rfl, nI_leI (by omega) (by omega)] at h9; omega
      refine r_aload_n hX dX8_trail_12 rfl ⟨_, rfl⟩ (RR.pc (b := 13) rfl ?_)
      refine r_getr hX dX8_trail_13 fl_X8_7 (by first | rfl | assumption) rfl (RR.pc (b := 16) rfl ?_)
      refine r_bipush (v := 11) hX dX8_trail_16 (by decide) (RR.pc (b := 18) rfl ?_)
      refine r_iload_n (i := 0) hX dX8_trail_18 rfl (RR.pc (b := 19) rfl ?_)
      refine r_iadd hX dX8_trail_19 (RR.pc (b := 20) rfl ?_)
      refine r_iald hX dX8_trail_20 (by first | rfl | assumption) (nI_add 11 k) (by omega) (by decide) (by first | exact Nat.zero_add _ | rfl) (RR.pc (b := 21) rfl ?_)
      refine r_dia1 31 (trL (σ 20) (k + 1)) (fun hj21 => ?_) ?_
      · refine r_if_le (tgt := 30) hX dX8_trail_21 rfl (fun h21 => ?_) (fun h21 => RR.pc (b := 24) rfl ?_)
        · refine r_iconst (v := 0) hX dX8_trail_30 (by decide) (RR.pc (b := 31) rfl ?_)
          exact RR.eqt (congrArg (fun q => Value.int q :: _) (if_pos h21).symm) hj21
        · refine r_iload_n (i := 0) hX dX8_trail_24 rfl (RR.pc (b := 25) rfl ?_)
          refine r_iconst (v := 1) hX dX8_trail_25 (by decide) (RR.pc (b := 26) rfl ?_)
          refine r_iadd hX dX8_trail_26 (RR.pc (b := 27) rfl ?_)
          refine r_goto (tgt := 31) hX dX8_trail_27 rfl ?_
          exact RR.eqt (congrArg (fun q => Value.int q :: _) (if_neg h21).symm) hj21
      refine r_istore_n hX dX8_trail_31 (by decide) (RR.pc (b := 32) rfl ?_)
      refine r_iload_n (i := 0) hX dX8_trail_32 rfl (RR.pc (b := 33) rfl ?_)
      refine r_iload_n (i := 0) hX dX8_trail_33 rfl (RR.pc (b := 34) rfl ?_)
      refine r_dia2 42 (trM (σ 20) (k + 1)) (fun hj34 => ?_) ?_
      · refine r_icmp_le (tgt := 41) hX dX8_trail_34 rfl (fun h34 => ?_) (fun h34 => RR.pc (b := 37) rfl ?_)
        · refine r_iload_n (i := 0) hX dX8_trail_41 rfl (RR.pc (b := 42) rfl ?_)
          exact RR.eqt (congrArg (fun q => Value.int q :: _) (if_pos h34).symm) hj34
        · refine r_iload_n (i := 0) hX dX8_trail_37 rfl (RR.pc (b := 38) rfl ?_)
          refine r_goto (tgt := 42) hX dX8_trail_38 rfl ?_
          exact RR.eqt (congrArg (fun q => Value.int q :: _) (if_neg h34).symm) hj34
      refine r_istore_n hX dX8_trail_42 (by decide) (RR.pc (b := 43) rfl ?_)
      refine r_iinc hX dX8_trail_43 rfl (by decide) (nI_1 k) (RR.pc (b := 46) rfl ?_)
      refine r_goto (tgt := 6) hX dX8_trail_46 rfl ?_
      exact RR.cut (ih hk2) (List.forall_mem_cons.mpr ⟨rfl, List.forall_mem_cons.mpr ⟨rfl, List.forall_mem_cons.mpr ⟨rfl, List.forall_mem_cons.mpr ⟨rfl, fun _ h => absurd h List.not_mem_nil⟩⟩⟩⟩)
    )
  refine r_iconst (v := 0) hX dX8_trail_0 (by decide) (RR.pc (b := 1) rfl ?_)
  refine r_istore_n hX dX8_trail_1 (by decide) (RR.pc (b := 2) rfl ?_)
  refine r_iconst (v := 0) hX dX8_trail_2 (by decide) (RR.pc (b := 3) rfl ?_)
  refine r_istore_n hX dX8_trail_3 (by decide) (RR.pc (b := 4) rfl ?_)
  refine r_iconst (v := 0) hX dX8_trail_4 (by decide) (RR.pc (b := 5) rfl ?_)
  refine r_istore_n hX dX8_trail_5 (by decide) (RR.pc (b := 6) rfl ?_)
  exact RR.cut (loop 0 (by omega)) (List.forall_mem_cons.mpr ⟨rfl, List.forall_mem_cons.mpr ⟨rfl, List.forall_mem_cons.mpr ⟨rfl, List.forall_mem_cons.mpr ⟨rfl, fun _ h => absurd h List.not_mem_nil⟩⟩⟩⟩)
set_option maxHeartbeats 4000000 in
set_option maxRecDepth 100000 in
theorem c_X8_way {G : GM} {σ : SG} {n : Nat} {what : Int32} (hN : σ 20 0 = nI n) (h8 : n ≤ 8) : CI G yX8_way cX8_way 2 (some .int) 2 [rf G 109, .int what] σ (fun r s => r = wayF (σ 20) n what ∧ s = σ) := by
  refine Con.of cd_X8_way (Nat.le_of_ble_eq_true rfl) ?_
  intro X hX hZ
  have hX : Fx X G RX8 cX8_way 2 2 := hX
  show RR X G 2 0 (ll [(0, rf G 109), (1, .int what)]) [] σ
  refine r_iload_n (i := 0) hX dX8_way_0 rfl (RR.pc (b := 1) rfl ?_)
  by_cases h1_0 : what = 0
  · refine r_tableIn (tgt := 44) hX dX8_way_1 (by rw [h1_0]; decide) (by rw [h1_0]; decide) (by rw [h1_0]; rfl) rfl ?_
    refine r_aload_n hX dX8_way_44 rfl ⟨_, rfl⟩ (RR.pc (b := 45) rfl ?_)
    refine r_bipush (v := 11) hX dX8_way_45 (by decide) (RR.pc (b := 47) rfl ?_)
    refine r_callVie hX dX8_way_47 ml_X8_157 cd_X8_allOf iv_X8_allOf (c_X8_allOf (o := 11) (by decide)) (by decide) (by first | rfl | assumption) rfl rfl rfl rfl (Nat.le_of_ble_eq_true rfl) (RR.pc (b := 50) rfl ?_)
    exact r_iret hX hZ dX8_way_50 ⟨_, rfl, ⟨by unfold wayF; simp_all, rfl⟩⟩
  by_cases h1_1 : what = 1
  · refine r_tableIn (tgt := 51) hX dX8_way_1 (by rw [h1_1]; decide) (by rw [h1_1]; decide) (by rw [h1_1]; rfl) rfl ?_
    refine r_aload_n hX dX8_way_51 rfl ⟨_, rfl⟩ (RR.pc (b := 52) rfl ?_)
    refine r_bipush (v := 71) hX dX8_way_52 (by decide) (RR.pc (b := 54) rfl ?_)
    refine r_callVie hX dX8_way_54 ml_X8_157 cd_X8_allOf iv_X8_allOf (c_X8_allOf (o := 71) (by decide)) (by decide) (by first | rfl | assumption) rfl rfl rfl rfl (Nat.le_of_ble_eq_true rfl) (RR.pc (b := 57) rfl ?_)
    exact r_iret hX hZ dX8_way_57 ⟨_, rfl, ⟨by unfold wayF; simp_all, rfl⟩⟩
  by_cases h1_2 : what = 2
  · refine r_tableIn (tgt := 58) hX dX8_way_1 (by rw [h1_2]; decide) (by rw [h1_2]; decide) (by rw [h1_2]; rfl) rfl ?_
    refine r_aload_n hX dX8_way_58 rfl ⟨_, rfl⟩ (RR.pc (b := 59) rfl ?_)
    refine r_getr hX dX8_way_59 fl_X8_7 (by first | rfl | assumption) rfl (RR.pc (b := 62) rfl ?_)
    refine r_iconst (v := 3) hX dX8_way_62 (by decide) (RR.pc (b := 63) rfl ?_)
    refine r_iald hX dX8_way_63 (by first | rfl | assumption) (by first | rfl | assumption) (by first | decide | assumption | omega) (by decide) (by first | exact Nat.zero_add _ | rfl) (RR.pc (b := 64) rfl ?_)
    exact r_iret hX hZ dX8_way_64 ⟨_, rfl, ⟨by unfold wayF; simp_all, rfl⟩⟩
  by_cases h1_3 : what = 3
  · refine r_tableIn (tgt := 65) hX dX8_way_1 (by rw [h1_3]; decide) (by rw [h1_3]; decide) (by rw [h1_3]; rfl) rfl ?_
    refine r_aload_n hX dX8_way_65 rfl ⟨_, rfl⟩ (RR.pc (b := 66) rfl ?_)
    refine r_getr hX dX8_way_66 fl_X8_7 (by first | rfl | assumption) rfl (RR.pc (b := 69) rfl ?_)
    refine r_iconst (v := 4) hX dX8_way_69 (by decide) (RR.pc (b := 70) rfl ?_)
    refine r_iald hX dX8_way_70 (by first | rfl | assumption) (by first | rfl | assumption) (by first | decide | assumption | omega) (by decide) (by first | exact Nat.zero_add _ | rfl) (RR.pc (b := 71) rfl ?_)
    exact r_iret hX hZ dX8_way_71 ⟨_, rfl, ⟨by unfold wayF; simp_all, rfl⟩⟩
  by_cases h1_4 : what = 4
  · refine r_tableIn (tgt := 72) hX dX8_way_1 (by rw [h1_4]; decide) (by rw [h1_4]; decide) (by rw [h1_4]; rfl) rfl ?_
    refine r_aload_n hX dX8_way_72 rfl ⟨_, rfl⟩ (RR.pc (b := 73) rfl ?_)
    refine r_getr hX dX8_way_73 fl_X8_7 (by first | rfl | assumption) rfl (RR.pc (b := 76) rfl ?_)
    refine r_iconst (v := 5) hX dX8_way_76 (by decide) (RR.pc (b := 77) rfl ?_)
    refine r_iald hX dX8_way_77 (by first | rfl | assumption) (by first | rfl | assumption) (by first | decide | assumption | omega) (by decide) (by first | exact Nat.zero_add _ | rfl) (RR.pc (b := 78) rfl ?_)
    exact r_iret hX hZ dX8_way_78 ⟨_, rfl, ⟨by unfold wayF; simp_all, rfl⟩⟩
  by_cases h1_5 : what = 5
  · refine r_tableIn (tgt := 79) hX dX8_way_1 (by rw [h1_5]; decide) (by rw [h1_5]; decide) (by rw [h1_5]; rfl) rfl ?_
    refine r_aload_n hX dX8_way_79 rfl ⟨_, rfl⟩ (RR.pc (b := 80) rfl ?_)
    refine r_callVie hX dX8_way_80 ml_X8_160 cd_X8_inSacks iv_X8_inSacks (c_X8_inSacks hN h8) (by decide) (by first | rfl | assumption) rfl rfl rfl rfl (Nat.le_of_ble_eq_true rfl) (RR.pc (b := 83) rfl ?_)
    exact r_iret hX hZ dX8_way_83 ⟨_, rfl, ⟨by unfold wayF; simp_all, rfl⟩⟩
  by_cases h1_6 : what = 6
  · refine r_tableIn (tgt := 84) hX dX8_way_1 (by rw [h1_6]; decide) (by rw [h1_6]; decide) (by rw [h1_6]; rfl) rfl ?_
    refine r_aload_n hX dX8_way_84 rfl ⟨_, rfl⟩ (RR.pc (b := 85) rfl ?_)
    refine r_callVie hX dX8_way_85 ml_X8_163 cd_X8_trail iv_X8_trail c_X8_trail (by decide) (by first | rfl | assumption) rfl rfl rfl rfl (Nat.le_of_ble_eq_true rfl) (RR.pc (b := 88) rfl ?_)
    exact r_iret hX hZ dX8_way_88 ⟨_, rfl, ⟨by unfold wayF; simp_all, rfl⟩⟩
  refine r_tableOut (tgt := 89) hX dX8_way_1 (by have n0 : (what).toInt ≠ 0 := ne_toInt h1_0; have n1 : (what).toInt ≠ 1 := ne_toInt h1_1; have n2 : (what).toInt ≠ 2 := ne_toInt h1_2; have n3 : (what).toInt ≠ 3 := ne_toInt h1_3; have n4 : (what).toInt ≠ 4 := ne_toInt h1_4; have n5 : (what).toInt ≠ 5 := ne_toInt h1_5; have n6 : (what).toInt ≠ 6 := ne_toInt h1_6; omega) rfl ?_
  refine r_ldc hX dX8_way_89 kc_X8_84 (RR.pc (b := 91) rfl ?_)
  exact r_iret hX hZ dX8_way_91 ⟨_, rfl, ⟨by unfold wayF; simp_all, rfl⟩⟩
set_option maxHeartbeats 4000000 in
set_option maxRecDepth 100000 in
theorem c_X8_minutes {G : GM} {σ : SG} {Ts : Nat → Tx} {nt n m : Nat} {q : Int32} (hT : RT (σ 20) Ts nt) (hW : WO (σ 20) n m) (hm : m ≤ 9999) : CI G yX8_minutes cX8_minutes 4 (some .int) 5 [rf G 109, .int q] σ (fun r s => r = (minutesF (lkV Ts nt) (σ 20) n m q).1 ∧ s 20 = (minutesF (lkV Ts nt) (σ 20) n m q).2 ∧ same [20, 33, 34] σ s) := by
  refine Con.of cd_X8_minutes (Nat.le_of_ble_eq_true rfl) ?_
  intro X hX hZ
  have hX : Fx X G RX8 cX8_minutes 4 5 := hX
  show RR X G 4 0 (ll [(0, rf G 109), (1, .int q)]) [] σ
  have hV : VO (lkV Ts nt) := lkV_VO
  refine r_iload_n (i := 0) hX dX8_minutes_0 rfl (RR.pc (b := 1) rfl ?_)
  refine r_i2l hX dX8_minutes_1 (RR.pc (b := 2) rfl ?_)
  refine r_lconst (v := 1) hX dX8_minutes_2 rfl (RR.pc (b := 3) rfl ?_)
  refine r_ldc2 hX dX8_minutes_3 k2_X8_132 (RR.pc (b := 6) rfl ?_)
  refine r_callSie hX dX8_minutes_6 ml_X8_65 cd_X8_isIn st_X8_isIn c_X8_isIn (by decide) rfl rfl (Nat.le_of_ble_eq_true rfl) (RR.pc (b := 9) rfl ?_)
  refine r_if_ne_b (tgt := 15) hX dX8_minutes_9 rfl (fun h9 => ?_) (fun h9 => RR.pc (b := 12) rfl ?_)
  · simp only [Int32.toInt_toInt64, Int64.reduceToInt] at h9
    obtain ⟨c, hc, rfl⟩ := ix_of (n := 101) (k := q) ⟨by omega, by omega⟩ (by omega)
    rw [nI_toInt (by omega)] at h9
    have e : minutesF (lkV Ts nt) (σ 20) n m (nI c) = (minN (lkV Ts nt) n (σ 20) (min c (9999 - m)) 3 - σ 20 3, minN (lkV Ts nt) n (σ 20) (min c (9999 - m))) := by
      unfold minutesF
      rw [nI_toInt (by omega), if_pos h9, nI_clamp (by omega)]
    rw [e] at hZ
    have fin : ∀ σ1 : SG, σ1 20 = minN (lkV Ts nt) n (σ 20) (min c (9999 - m)) → same [20, 33, 34] σ σ1 → RR X G 4 51 (ll [(0, rf G 109), (2, .int (σ 20 3))]) [] σ1 := by
      intro σ1 e1 hs
      refine r_aload_n hX dX8_minutes_51 rfl ⟨_, rfl⟩ (RR.pc (b := 52) rfl ?_)
      refine r_getr hX dX8_minutes_52 fl_X8_7 (by first | rfl | assumption) rfl (RR.pc (b := 55) rfl ?_)
      refine r_iconst (v := 3) hX dX8_minutes_55 (by decide) (RR.pc (b := 56) rfl ?_)
      refine r_iald hX dX8_minutes_56 (by first | rfl | assumption) (by first | rfl | assumption) (by first | decide | assumption | omega) (by decide) (by first | exact Nat.zero_add _ | rfl) (RR.pc (b := 57) rfl ?_)
      refine r_iload_n (i := 0) hX dX8_minutes_57 rfl (RR.pc (b := 58) rfl ?_)
      refine r_isub hX dX8_minutes_58 (RR.pc (b := 59) rfl ?_)
      exact r_iret hX hZ dX8_minutes_59 ⟨_, rfl, ⟨by rw [e1], e1, hs⟩⟩
    have loop := loopK (min c (9999 - m)) (fun k => ∀ (σ1 : SG), σ1 20 = minN (lkV Ts nt) n (σ 20) k → same [20, 33, 34] σ σ1 → RR X G 4 24 (ll [(0, rf G 109), (1, .int (nI c)), (2, .int (σ 20 3)), (3, .int (nI k))]) [] σ1) (by
      intro k hk ih σ1 e1 hs
      have hW1 : WO (σ1 20) n (m + k) := by rw [e1]; exact minN_WO hV hW k
      have hT1 : RT (σ1 20) Ts nt := hT.congr (by rw [e1]; exact minN_out hV hW (by omega) k) (fun i hi => by rw [e1]; exact minN_out hV hW (by omega) k)
      refine r_iload_n (i := 0) hX dX8_minutes_24 rfl (RR.pc (b := 25) rfl ?_)
      refine r_iload_n (i := 0) hX dX8_minutes_25 rfl (RR.pc (b := 26) rfl ?_)
      refine r_icmp_ge (tgt := 51) hX dX8_minutes_26 rfl (fun h26 => ?_) (fun h26 => RR.pc (b := 29) rfl ?_)
      · refine RR.cut (fin σ1 ?_ hs) (List.forall_mem_cons.mpr ⟨rfl, List.forall_mem_cons.mpr ⟨rfl, fun _ h => absurd h List.not_mem_nil⟩⟩)
        have : k = min c (9999 - m) := by
          first | (rw [nI_leI (by omega) (by omega)] at h26; omega) | (rw [show (9999 : Int32) = nI 9999 from rfl, nI_leI (by omega) (by omega)] at h38; omega)
        rw [← this]; exact e1
      · have hk2 : k < c := by rw [nI_leI (by omega) (by omega)] at h26; omega
        refine r_aload_n hX dX8_minutes_29 rfl ⟨_, rfl⟩ (RR.pc (b := 30) rfl ?_)
        refine r_getr hX dX8_minutes_30 fl_X8_7 (by first | rfl | assumption) rfl (RR.pc (b := 33) rfl ?_)
        refine r_iconst (v := 2) hX dX8_minutes_33 (by decide) (RR.pc (b := 34) rfl ?_)
        refine r_iald hX dX8_minutes_34 (by first | rfl | assumption) (by first | rfl | assumption) (by first | decide | assumption | omega) (by decide) (by first | exact Nat.zero_add _ | rfl) (RR.pc (b := 35) rfl ?_)
        rw [hW1.2.2.2.1]
        refine r_sipush (v := 9999) hX dX8_minutes_35 (by decide) (RR.pc (b := 38) rfl ?_)
        refine r_icmp_ge (tgt := 51) hX dX8_minutes_38 rfl (fun h38 => ?_) (fun h38 => RR.pc (b := 41) rfl ?_)
        · refine RR.cut (fin σ1 ?_ hs) (List.forall_mem_cons.mpr ⟨rfl, List.forall_mem_cons.mpr ⟨rfl, fun _ h => absurd h List.not_mem_nil⟩⟩)
          have : k = min c (9999 - m) := by
            first | (rw [nI_leI (by omega) (by omega)] at h26; omega) | (rw [show (9999 : Int32) = nI 9999 from rfl, nI_leI (by omega) (by omega)] at h38; omega)
          rw [← this]; exact e1
        · have hk3 : m + k < 9999 := by rw [show (9999 : Int32) = nI 9999 from rfl, nI_leI (by omega) (by omega)] at h38; omega
          refine r_aload_n hX dX8_minutes_41 rfl ⟨_, rfl⟩ (RR.pc (b := 42) rfl ?_)
          refine r_callVv hX dX8_minutes_42 ml_X8_154 cd_X8_goesOn iv_X8_goesOn (c_X8_goesOn hT1 hW1 (by omega)) (by decide) (by first | rfl | assumption) rfl rfl rfl rfl (Nat.le_of_ble_eq_true rfl) (fun s_42 e_42 => RR.pc (b := 45) rfl ?_)
          obtain ⟨e8, hs8⟩ := e_42
          refine r_iinc hX dX8_minutes_45 rfl (by decide) (nI_1 k) (RR.pc (b := 48) rfl ?_)
          refine r_goto (tgt := 24) hX dX8_minutes_48 rfl ?_
          exact RR.cut (ih (by omega) _ (by rw [e8, e1]; rfl) (hs.tr hs8)) (List.forall_mem_cons.mpr ⟨rfl, List.forall_mem_cons.mpr ⟨rfl, List.forall_mem_cons.mpr ⟨rfl, List.forall_mem_cons.mpr ⟨rfl, fun _ h => absurd h List.not_mem_nil⟩⟩⟩⟩)
      )
    refine r_aload_n hX dX8_minutes_15 rfl ⟨_, rfl⟩ (RR.pc (b := 16) rfl ?_)
    refine r_getr hX dX8_minutes_16 fl_X8_7 (by first | rfl | assumption) rfl (RR.pc (b := 19) rfl ?_)
    refine r_iconst (v := 3) hX dX8_minutes_19 (by decide) (RR.pc (b := 20) rfl ?_)
    refine r_iald hX dX8_minutes_20 (by first | rfl | assumption) (by first | rfl | assumption) (by first | decide | assumption | omega) (by decide) (by first | exact Nat.zero_add _ | rfl) (RR.pc (b := 21) rfl ?_)
    refine r_istore_n hX dX8_minutes_21 (by decide) (RR.pc (b := 22) rfl ?_)
    refine r_iconst (v := 0) hX dX8_minutes_22 (by decide) (RR.pc (b := 23) rfl ?_)
    refine r_istore_n hX dX8_minutes_23 (by decide) (RR.pc (b := 24) rfl ?_)
    exact RR.cut (loop 0 (by omega) σ rfl same.rf) (List.forall_mem_cons.mpr ⟨rfl, List.forall_mem_cons.mpr ⟨rfl, List.forall_mem_cons.mpr ⟨rfl, List.forall_mem_cons.mpr ⟨rfl, fun _ h => absurd h List.not_mem_nil⟩⟩⟩⟩)
  · simp only [Int32.toInt_toInt64, Int64.reduceToInt] at h9
    refine r_ldc hX dX8_minutes_12 kc_X8_84 (RR.pc (b := 14) rfl ?_)
    exact r_iret hX hZ dX8_minutes_14 ⟨_, rfl, by unfold minutesF; rw [if_neg h9]; exact ⟨rfl, rfl, same.rf⟩⟩
set_option maxHeartbeats 4000000 in
set_option maxRecDepth 100000 in
theorem c_X8_deal {G : GM} {σ : SG} {n : Nat} {q : Int32} (hN : σ 20 0 = nI n) (h8 : n ≤ 8) : CI G yX8_deal cX8_deal 6 (some .int) 2 [rf G 109, .int q] σ (fun r s => r = (dealF (σ 20) n q).1 ∧ s = sr σ 20 (dealF (σ 20) n q).2) := by
  refine Con.of cd_X8_deal (Nat.le_of_ble_eq_true rfl) ?_
  intro X hX hZ
  have hX : Fx X G RX8 cX8_deal 6 2 := hX
  show RR X G 6 0 (ll [(0, rf G 109), (1, .int q)]) [] σ
  refine r_iload_n (i := 0) hX dX8_deal_0 rfl (RR.pc (b := 1) rfl ?_)
  refine r_i2l hX dX8_deal_1 (RR.pc (b := 2) rfl ?_)
  refine r_lconst (v := 1) hX dX8_deal_2 rfl (RR.pc (b := 3) rfl ?_)
  refine r_ldc2 hX dX8_deal_3 k2_X8_141 (RR.pc (b := 6) rfl ?_)
  refine r_callSie hX dX8_deal_6 ml_X8_65 cd_X8_isIn st_X8_isIn c_X8_isIn (by decide) rfl rfl (Nat.le_of_ble_eq_true rfl) (RR.pc (b := 9) rfl ?_)
  refine r_if_ne_b (tgt := 15) hX dX8_deal_9 rfl (fun h9 => ?_) (fun h9 => RR.pc (b := 12) rfl ?_)
  · simp only [Int32.toInt_toInt64, Int64.reduceToInt] at h9
    obtain ⟨c, hc, rfl⟩ := ix_of (n := 9) (k := q) ⟨by omega, by omega⟩ (by omega)
    rw [nI_toInt (by omega)] at h9
    have e : dealF (σ 20) n (nI c) = (nI (min c (8 - n)), dealW (σ 20) n (min c (8 - n))) := by
      unfold dealF
      rw [nI_toInt (by omega), if_pos h9, nI_clamp (by omega)]
    rw [e] at hZ
    have dW0 : ∀ k, dealW (σ 20) n k 0 = nI (n + k) := by
      intro k
      cases k with
      | zero => exact hN
      | succ k => unfold dealW; rw [addM_0]; rfl
    have loop := loopK (min c (8 - n)) (fun k => RR X G 6 17 (ll [(0, rf G 109), (1, .int (nI c)), (2, .int (nI k))]) [] (sr σ 20 (dealW (σ 20) n k))) (by
      intro k hk ih
      have d1 := dn_lt (dz (dealW (σ 20) n k 6))
      have d2 := dn_lt (dz (dz (dealW (σ 20) n k 6)))
      have d3 := dn_lt (dz (dz (dz (dealW (σ 20) n k 6))))
      have d4 := dn_lt (dz (dz (dz (dz (dealW (σ 20) n k 6)))))
      refine r_iload_n (i := 0) hX dX8_deal_17 rfl (RR.pc (b := 18) rfl ?_)
      refine r_iload_n (i := 0) hX dX8_deal_18 rfl (RR.pc (b := 19) rfl ?_)
      refine r_icmp_ge (tgt := 84) hX dX8_deal_19 rfl (fun h19 => ?_) (fun h19 => RR.pc (b := 22) rfl ?_)
      · have hk2 : k = min c (8 - n) := by
          first | (rw [nI_leI (by omega) (by omega)] at h19; omega) | (rw [show (8 : Int32) = nI 8 from rfl, nI_leI (by omega) (by omega)] at h30; omega)
        subst hk2
        refine r_iload_n (i := 0) hX dX8_deal_84 rfl (RR.pc (b := 85) rfl ?_)
        exact r_iret hX hZ dX8_deal_85 ⟨_, rfl, ⟨rfl, rfl⟩⟩
      · have hk2 : k < c := by rw [nI_leI (by omega) (by omega)] at h19; omega
        refine r_aload_n hX dX8_deal_22 rfl ⟨_, rfl⟩ (RR.pc (b := 23) rfl ?_)
        refine r_getr hX dX8_deal_23 fl_X8_7 (by first | rfl | assumption) rfl (RR.pc (b := 26) rfl ?_)
        refine r_iconst (v := 0) hX dX8_deal_26 (by decide) (RR.pc (b := 27) rfl ?_)
        refine r_iald hX dX8_deal_27 (by first | rfl | assumption) (by first | rfl | assumption) (by first | decide | assumption | omega) (by decide) (by first | exact Nat.zero_add _ | rfl) (RR.pc (b := 28) rfl ?_)
        rw [sr_eq, dW0 k]
        refine r_bipush (v := 8) hX dX8_deal_28 (by decide) (RR.pc (b := 30) rfl ?_)
        refine r_icmp_ge (tgt := 84) hX dX8_deal_30 rfl (fun h30 => ?_) (fun h30 => RR.pc (b := 33) rfl ?_)
        · have hk2 : k = min c (8 - n) := by
            first | (rw [nI_leI (by omega) (by omega)] at h19; omega) | (rw [show (8 : Int32) = nI 8 from rfl, nI_leI (by omega) (by omega)] at h30; omega)
          subst hk2
          refine r_iload_n (i := 0) hX dX8_deal_84 rfl (RR.pc (b := 85) rfl ?_)
          exact r_iret hX hZ dX8_deal_85 ⟨_, rfl, ⟨rfl, rfl⟩⟩
        · have hk3 : n + k < 8 := by rw [show (8 : Int32) = nI 8 from rfl, nI_leI (by omega) (by omega)] at h30; omega
          refine r_aload_n hX dX8_deal_33 rfl ⟨_, rfl⟩ (RR.pc (b := 34) rfl ?_)
          refine r_callVie hX dX8_deal_34 ml_X8_143 cd_X8_drawn iv_X8_drawn c_X8_drawn (by decide) (by first | rfl | assumption) rfl rfl rfl rfl (Nat.le_of_ble_eq_true rfl) (RR.pc (b := 37) rfl ?_)
          simp only [su_sr, sr_eq]
          refine r_bipush (v := 6) hX dX8_deal_37 (by decide) (RR.pc (b := 39) rfl ?_)
          refine r_irem hX dX8_deal_39 (by decide) (RR.pc (b := 40) rfl ?_)
          rw [rem_lit (by omega) (by decide) (by decide)]
          refine r_istore_n hX dX8_deal_40 (by decide) (RR.pc (b := 41) rfl ?_)
          refine r_iconst (v := 1) hX dX8_deal_41 (by decide) (RR.pc (b := 42) rfl ?_)
          refine r_aload_n hX dX8_deal_42 rfl ⟨_, rfl⟩ (RR.pc (b := 43) rfl ?_)
          refine r_callVie hX dX8_deal_43 ml_X8_143 cd_X8_drawn iv_X8_drawn c_X8_drawn (by decide) (by first | rfl | assumption) rfl rfl rfl rfl (Nat.le_of_ble_eq_true rfl) (RR.pc (b := 46) rfl ?_)
          simp only [su_sr, sr_eq, pk_us]
          refine r_bipush (v := 9) hX dX8_deal_46 (by decide) (RR.pc (b := 48) rfl ?_)
          refine r_irem hX dX8_deal_48 (by decide) (RR.pc (b := 49) rfl ?_)
          rw [rem_lit (by omega) (by decide) (by decide), show (1 : Int32) = nI 1 from rfl]
          refine r_iadd hX dX8_deal_49 (RR.pc (b := 50) rfl ?_)
          rw [nI_add]
          refine r_istore hX dX8_deal_50 (by decide) (RR.pc (b := 52) rfl ?_)
          refine r_aload_n hX dX8_deal_52 rfl ⟨_, rfl⟩ (RR.pc (b := 53) rfl ?_)
          refine r_callVie hX dX8_deal_53 ml_X8_143 cd_X8_drawn iv_X8_drawn c_X8_drawn (by decide) (by first | rfl | assumption) rfl rfl rfl rfl (Nat.le_of_ble_eq_true rfl) (RR.pc (b := 56) rfl ?_)
          simp only [su_sr, sr_eq, pk_us]
          refine r_sipush (v := 1000) hX dX8_deal_56 (by decide) (RR.pc (b := 59) rfl ?_)
          refine r_irem hX dX8_deal_59 (by decide) (RR.pc (b := 60) rfl ?_)
          rw [rem_lit (by omega) (by decide) (by decide)]
          refine r_istore hX dX8_deal_60 (by decide) (RR.pc (b := 62) rfl ?_)
          refine r_aload_n hX dX8_deal_62 rfl ⟨_, rfl⟩ (RR.pc (b := 63) rfl ?_)
          refine r_iload_n (i := 0) hX dX8_deal_63 rfl (RR.pc (b := 64) rfl ?_)
          refine r_iload hX dX8_deal_64 rfl (RR.pc (b := 66) rfl ?_)
          refine r_iload hX dX8_deal_66 rfl (RR.pc (b := 68) rfl ?_)
          refine r_aload_n hX dX8_deal_68 rfl ⟨_, rfl⟩ (RR.pc (b := 69) rfl ?_)
          refine r_callVie hX dX8_deal_69 ml_X8_143 cd_X8_drawn iv_X8_drawn c_X8_drawn (by decide) (by first | rfl | assumption) rfl rfl rfl rfl (Nat.le_of_ble_eq_true rfl) (RR.pc (b := 72) rfl ?_)
          simp only [su_sr, sr_eq, pk_us]
          refine r_bipush (v := 30) hX dX8_deal_72 (by decide) (RR.pc (b := 74) rfl ?_)
          refine r_irem hX dX8_deal_74 (by decide) (RR.pc (b := 75) rfl ?_)
          rw [rem_lit (by omega) (by decide) (by decide)]
          refine r_callVve hX dX8_deal_75 ml_X8_86 cd_X8_comes iv_X8_comes (c_X8_comes (n := n + k) (by rw [sr_eq]; rw [pk_un (by decide), pk_un (by decide), pk_un (by decide), pk_un (by decide)]; exact dW0 k) hk3) (by decide) (by first | rfl | assumption) rfl rfl rfl rfl (Nat.le_of_ble_eq_true rfl) (RR.pc (b := 78) rfl ?_)
          refine r_iinc hX dX8_deal_78 rfl (by decide) (nI_1 k) (RR.pc (b := 81) rfl ?_)
          refine r_goto (tgt := 17) hX dX8_deal_81 rfl ?_
          refine RR.eqs ?_ (RR.cut (ih (by omega)) (List.forall_mem_cons.mpr ⟨rfl, List.forall_mem_cons.mpr ⟨rfl, List.forall_mem_cons.mpr ⟨rfl, fun _ h => absurd h List.not_mem_nil⟩⟩⟩))
          rw [sr_sr, sr_eq, upd_upd, upd_upd, upd_upd]
          rfl
      )
    refine r_iconst (v := 0) hX dX8_deal_15 (by decide) (RR.pc (b := 16) rfl ?_)
    refine r_istore_n hX dX8_deal_16 (by decide) (RR.pc (b := 17) rfl ?_)
    exact RR.eqs (sr_self (r := 20)).symm (RR.cut (loop 0 (by omega)) (List.forall_mem_cons.mpr ⟨rfl, List.forall_mem_cons.mpr ⟨rfl, List.forall_mem_cons.mpr ⟨rfl, fun _ h => absurd h List.not_mem_nil⟩⟩⟩))
  · simp only [Int32.toInt_toInt64, Int64.reduceToInt] at h9
    refine r_ldc hX dX8_deal_12 kc_X8_84 (RR.pc (b := 14) rfl ?_)
    exact r_iret hX hZ dX8_deal_14 ⟨_, rfl, by unfold dealF; rw [if_neg h9]; exact ⟨rfl, sr_self.symm⟩⟩
