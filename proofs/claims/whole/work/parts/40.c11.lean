/-! the class: rows, images, tape -/
set_option maxHeartbeats 4000000 in
set_option maxRecDepth 100000 in
theorem c_X7_tell {G : GM} {σ : SG} {v : Int32} {k : Nat} (hk : σ 9 61 = nI k) (h60 : k ≤ 60) : CI G yX7_tell cX7_tell 2 (some .int) 0 [rf G 0, .int v] σ (fun r s => (k = 60 → r = vFULL ∧ s = σ) ∧ (k < 60 → r = nI (k + 1) ∧ s = su (su σ 9 k v) 9 61 (nI (k + 1)))) := by
  refine Con.of cd_X7_tell (Nat.le_of_ble_eq_true rfl) ?_
  intro X hX hZ
  have hX : Fx X G RX7 cX7_tell 2 0 := hX
  show RR X G 2 0 (ll [(0, rf G 0), (1, .int v)]) [] σ
  refine r_aload_n hX dX7_tell_0 rfl ⟨_, rfl⟩ (RR.pc (b := 1) rfl ?_)
  refine r_geti hX dX7_tell_1 fl_X7_310 (by first | rfl | assumption) rfl (RR.pc (b := 4) rfl ?_)
  refine r_bipush (v := 60) hX dX7_tell_4 (by decide) (RR.pc (b := 6) rfl ?_)
  rw [hk, show (60 : Int32) = nI 60 from rfl]
  refine r_icmp_lt (tgt := 12) hX dX7_tell_6 rfl (fun h6 => ?_) (fun h6 => RR.pc (b := 9) rfl ?_)
  · have hn : k < 60 := by rw [nI_ltI (by omega) (by omega)] at h6; omega
    refine r_aload_n hX dX7_tell_12 rfl ⟨_, rfl⟩ (RR.pc (b := 13) rfl ?_)
    refine r_getr hX dX7_tell_13 fl_X7_63 (by first | rfl | assumption) rfl (RR.pc (b := 16) rfl ?_)
    refine r_aload_n hX dX7_tell_16 rfl ⟨_, rfl⟩ (RR.pc (b := 17) rfl ?_)
    refine r_geti hX dX7_tell_17 fl_X7_310 (by first | rfl | assumption) rfl (RR.pc (b := 20) rfl ?_)
    rw [hk]
    refine r_iload_n (i := 0) hX dX7_tell_20 rfl (RR.pc (b := 21) rfl ?_)
    refine r_iast hX dX7_tell_21 (by first | rfl | assumption) rfl (by omega) (by first | decide | omega) (by first | exact Nat.zero_add _ | rfl) (RR.pc (b := 22) rfl ?_)
    refine r_aload_n hX dX7_tell_22 rfl ⟨_, rfl⟩ (RR.pc (b := 23) rfl ?_)
    refine r_dup hX dX7_tell_23 rfl (RR.pc (b := 24) rfl ?_)
    refine r_geti hX dX7_tell_24 fl_X7_310 (by first | rfl | assumption) rfl (RR.pc (b := 27) rfl ?_)
    rw [su_eq, pk_un (by omega), hk]
    refine r_iconst (v := 1) hX dX7_tell_27 (by decide) (RR.pc (b := 28) rfl ?_)
    refine r_iadd hX dX7_tell_28 (RR.pc (b := 29) rfl ?_)
    rw [nI_1]
    refine r_puti hX dX7_tell_29 fl_X7_310 (by first | rfl | assumption) rfl ft_7_10 (RR.pc (b := 32) rfl ?_)
    refine r_aload_n hX dX7_tell_32 rfl ⟨_, rfl⟩ (RR.pc (b := 33) rfl ?_)
    refine r_geti hX dX7_tell_33 fl_X7_310 (by first | rfl | assumption) rfl (RR.pc (b := 36) rfl ?_)
    rw [su_eq, pk_us]
    exact r_iret hX hZ dX7_tell_36 ⟨_, rfl, ⟨fun h => absurd h (by omega), fun _ => ⟨rfl, rfl⟩⟩⟩
  · have hn : k = 60 := by rw [nI_ltI (by omega) (by omega)] at h6; omega
    refine r_ldc hX dX7_tell_9 kc_X7_80 (RR.pc (b := 11) rfl ?_)
    exact r_iret hX hZ dX7_tell_11 ⟨_, rfl, ⟨fun _ => ⟨rfl, rfl⟩, fun h => absurd hn (by omega)⟩⟩
set_option maxHeartbeats 4000000 in
set_option maxRecDepth 100000 in
theorem c_X7_keep {G : GM} {σ : SG} {n : Nat} (hN : σ 0 0 = nI n) (h8 : n ≤ 8) : CI G yX7_keep cX7_keep 1 (some .int) 2 [rf G 0] σ (fun r s => r = σ 0 0 ∧ s = su (sr σ 1 (becW (σ 1) (σ 0) n)) 9 60 1) := by
  refine Con.of cd_X7_keep (Nat.le_of_ble_eq_true rfl) ?_
  intro X hX hZ
  have hX : Fx X G RX7 cX7_keep 1 2 := hX
  show RR X G 1 0 (ll [(0, rf G 0)]) [] σ
  refine r_aload_n hX dX7_keep_0 rfl ⟨_, rfl⟩ (RR.pc (b := 1) rfl ?_)
  refine r_getr hX dX7_keep_1 fl_X7_43 (by first | rfl | assumption) rfl (RR.pc (b := 4) rfl ?_)
  refine r_aload_n hX dX7_keep_4 rfl ⟨_, rfl⟩ (RR.pc (b := 5) rfl ?_)
  refine r_getr hX dX7_keep_5 fl_X7_39 (by first | rfl | assumption) rfl (RR.pc (b := 8) rfl ?_)
  refine r_callVve hX dX7_keep_8 ml_X7_191 cd_X6_become iv_X6_become (c_X6_become (w := 1) (u := 0) (n := n) (by decide) (by decide) (by decide) hN h8) (by decide) (by first | rfl | assumption) rfl rfl rfl rfl (Nat.le_of_ble_eq_true rfl) (RR.pc (b := 11) rfl ?_)
  refine r_aload_n hX dX7_keep_11 rfl ⟨_, rfl⟩ (RR.pc (b := 12) rfl ?_)
  refine r_iconst (v := 1) hX dX7_keep_12 (by decide) (RR.pc (b := 13) rfl ?_)
  refine r_put hX dX7_keep_13 fl_X7_313 (by first | rfl | assumption) rfl ft_7_9 rfl rfl (RR.pc (b := 16) rfl ?_)
  refine r_aload_n hX dX7_keep_16 rfl ⟨_, rfl⟩ (RR.pc (b := 17) rfl ?_)
  refine r_getr hX dX7_keep_17 fl_X7_39 (by first | rfl | assumption) rfl (RR.pc (b := 20) rfl ?_)
  refine r_geti hX dX7_keep_20 fl_X7_76 (by first | rfl | assumption) rfl (RR.pc (b := 23) rfl ?_)
  rw [su_ne (by decide), sr_ne (by decide)]
  exact r_iret hX hZ dX7_keep_23 ⟨_, rfl, ⟨rfl, rfl⟩⟩
set_option maxHeartbeats 4000000 in
set_option maxRecDepth 100000 in
theorem c_X7_back {G : GM} {σ : SG} {n : Nat} (hN : ¬ σ 9 60 = 0 → σ 1 0 = nI n ∧ n ≤ 8) : CI G yX7_back cX7_back 1 (some .int) 2 [rf G 0] σ (fun r s => (σ 9 60 = 0 → r = vNO ∧ s = σ) ∧ (¬ σ 9 60 = 0 → r = σ 1 0 ∧ s = sr σ 0 (becW (σ 0) (σ 1) n))) := by
  refine Con.of cd_X7_back (Nat.le_of_ble_eq_true rfl) ?_
  intro X hX hZ
  have hX : Fx X G RX7 cX7_back 1 2 := hX
  show RR X G 1 0 (ll [(0, rf G 0)]) [] σ
  refine r_aload_n hX dX7_back_0 rfl ⟨_, rfl⟩ (RR.pc (b := 1) rfl ?_)
  refine r_geti hX dX7_back_1 fl_X7_313 (by first | rfl | assumption) rfl (RR.pc (b := 4) rfl ?_)
  refine r_if_ne (tgt := 11) hX dX7_back_4 rfl (fun h4 => ?_) (fun h4 => RR.pc (b := 7) rfl ?_)
  · refine r_aload_n hX dX7_back_11 rfl ⟨_, rfl⟩ (RR.pc (b := 12) rfl ?_)
    refine r_getr hX dX7_back_12 fl_X7_39 (by first | rfl | assumption) rfl (RR.pc (b := 15) rfl ?_)
    refine r_aload_n hX dX7_back_15 rfl ⟨_, rfl⟩ (RR.pc (b := 16) rfl ?_)
    refine r_getr hX dX7_back_16 fl_X7_43 (by first | rfl | assumption) rfl (RR.pc (b := 19) rfl ?_)
    refine r_callVve hX dX7_back_19 ml_X7_191 cd_X6_become iv_X6_become (c_X6_become (w := 0) (u := 1) (n := n) (by decide) (by decide) (by decide) (hN h4).1 (hN h4).2) (by decide) (by first | rfl | assumption) rfl rfl rfl rfl (Nat.le_of_ble_eq_true rfl) (RR.pc (b := 22) rfl ?_)
    refine r_aload_n hX dX7_back_22 rfl ⟨_, rfl⟩ (RR.pc (b := 23) rfl ?_)
    refine r_getr hX dX7_back_23 fl_X7_39 (by first | rfl | assumption) rfl (RR.pc (b := 26) rfl ?_)
    refine r_geti hX dX7_back_26 fl_X7_76 (by first | rfl | assumption) rfl (RR.pc (b := 29) rfl ?_)
    rw [sr_eq, ← becW_ag (g := σ 0) (f := σ 1) (n := n) 0 (by omega)]
    exact r_iret hX hZ dX7_back_29 ⟨_, rfl, ⟨fun h => absurd h h4, fun _ => ⟨rfl, rfl⟩⟩⟩
  · refine r_ldcw hX dX7_back_7 kc_X7_309 (RR.pc (b := 10) rfl ?_)
    exact r_iret hX hZ dX7_back_10 ⟨_, rfl, ⟨fun _ => ⟨rfl, rfl⟩, fun h => absurd h4 h⟩⟩
set_option maxHeartbeats 4000000 in
set_option maxRecDepth 100000 in
theorem c_X7_count {G : GM} {σ : SG} {what : Int32} : CI G yX7_count cX7_count 2 (some .int) 0 [rf G 0, .int what] σ (fun r s => r = countF (σ 0) (σ 9 61) (σ 5 96) what ∧ s = σ) := by
  refine Con.of cd_X7_count (Nat.le_of_ble_eq_true rfl) ?_
  intro X hX hZ
  have hX : Fx X G RX7 cX7_count 2 0 := hX
  show RR X G 2 0 (ll [(0, rf G 0), (1, .int what)]) [] σ
  refine r_iload_n (i := 0) hX dX7_count_0 rfl (RR.pc (b := 1) rfl ?_)
  by_cases h1_0 : what = 0
  · refine r_tableIn (tgt := 56) hX dX7_count_1 (by rw [h1_0]; decide) (by rw [h1_0]; decide) (by rw [h1_0]; rfl) rfl ?_
    refine r_aload_n hX dX7_count_56 rfl ⟨_, rfl⟩ (RR.pc (b := 57) rfl ?_)
    refine r_getr hX dX7_count_57 fl_X7_39 (by first | rfl | assumption) rfl (RR.pc (b := 60) rfl ?_)
    refine r_geti hX dX7_count_60 fl_X7_76 (by first | rfl | assumption) rfl (RR.pc (b := 63) rfl ?_)
    exact r_iret hX hZ dX7_count_63 ⟨_, rfl, ⟨by unfold countF; simp_all, rfl⟩⟩
  by_cases h1_1 : what = 1
  · refine r_tableIn (tgt := 64) hX dX7_count_1 (by rw [h1_1]; decide) (by rw [h1_1]; decide) (by rw [h1_1]; rfl) rfl ?_
    refine r_aload_n hX dX7_count_64 rfl ⟨_, rfl⟩ (RR.pc (b := 65) rfl ?_)
    refine r_getr hX dX7_count_65 fl_X7_39 (by first | rfl | assumption) rfl (RR.pc (b := 68) rfl ?_)
    refine r_geti hX dX7_count_68 fl_X7_317 (by first | rfl | assumption) rfl (RR.pc (b := 71) rfl ?_)
    exact r_iret hX hZ dX7_count_71 ⟨_, rfl, ⟨by unfold countF; simp_all, rfl⟩⟩
  by_cases h1_2 : what = 2
  · refine r_tableIn (tgt := 72) hX dX7_count_1 (by rw [h1_2]; decide) (by rw [h1_2]; decide) (by rw [h1_2]; rfl) rfl ?_
    refine r_aload_n hX dX7_count_72 rfl ⟨_, rfl⟩ (RR.pc (b := 73) rfl ?_)
    refine r_getr hX dX7_count_73 fl_X7_39 (by first | rfl | assumption) rfl (RR.pc (b := 76) rfl ?_)
    refine r_getr hX dX7_count_76 fl_X7_134 (by first | rfl | assumption) rfl (RR.pc (b := 79) rfl ?_)
    refine r_iconst (v := 0) hX dX7_count_79 (by decide) (RR.pc (b := 80) rfl ?_)
    refine r_iald hX dX7_count_80 (by first | rfl | assumption) (j := 0) rfl (by decide) (by first | decide | omega) (by first | exact Nat.zero_add _ | rfl) (RR.pc (b := 81) rfl ?_)
    exact r_iret hX hZ dX7_count_81 ⟨_, rfl, ⟨by unfold countF; simp_all, rfl⟩⟩
  by_cases h1_3 : what = 3
  · refine r_tableIn (tgt := 82) hX dX7_count_1 (by rw [h1_3]; decide) (by rw [h1_3]; decide) (by rw [h1_3]; rfl) rfl ?_
    refine r_aload_n hX dX7_count_82 rfl ⟨_, rfl⟩ (RR.pc (b := 83) rfl ?_)
    refine r_getr hX dX7_count_83 fl_X7_39 (by first | rfl | assumption) rfl (RR.pc (b := 86) rfl ?_)
    refine r_getr hX dX7_count_86 fl_X7_134 (by first | rfl | assumption) rfl (RR.pc (b := 89) rfl ?_)
    refine r_iconst (v := 1) hX dX7_count_89 (by decide) (RR.pc (b := 90) rfl ?_)
    refine r_iald hX dX7_count_90 (by first | rfl | assumption) (j := 1) rfl (by decide) (by first | decide | omega) (by first | exact Nat.zero_add _ | rfl) (RR.pc (b := 91) rfl ?_)
    exact r_iret hX hZ dX7_count_91 ⟨_, rfl, ⟨by unfold countF; simp_all, rfl⟩⟩
  by_cases h1_4 : what = 4
  · refine r_tableIn (tgt := 92) hX dX7_count_1 (by rw [h1_4]; decide) (by rw [h1_4]; decide) (by rw [h1_4]; rfl) rfl ?_
    refine r_aload_n hX dX7_count_92 rfl ⟨_, rfl⟩ (RR.pc (b := 93) rfl ?_)
    refine r_getr hX dX7_count_93 fl_X7_39 (by first | rfl | assumption) rfl (RR.pc (b := 96) rfl ?_)
    refine r_getr hX dX7_count_96 fl_X7_134 (by first | rfl | assumption) rfl (RR.pc (b := 99) rfl ?_)
    refine r_iconst (v := 2) hX dX7_count_99 (by decide) (RR.pc (b := 100) rfl ?_)
    refine r_iald hX dX7_count_100 (by first | rfl | assumption) (j := 2) rfl (by decide) (by first | decide | omega) (by first | exact Nat.zero_add _ | rfl) (RR.pc (b := 101) rfl ?_)
    exact r_iret hX hZ dX7_count_101 ⟨_, rfl, ⟨by unfold countF; simp_all, rfl⟩⟩
  by_cases h1_5 : what = 5
  · refine r_tableIn (tgt := 102) hX dX7_count_1 (by rw [h1_5]; decide) (by rw [h1_5]; decide) (by rw [h1_5]; rfl) rfl ?_
    refine r_aload_n hX dX7_count_102 rfl ⟨_, rfl⟩ (RR.pc (b := 103) rfl ?_)
    refine r_getr hX dX7_count_103 fl_X7_39 (by first | rfl | assumption) rfl (RR.pc (b := 106) rfl ?_)
    refine r_getr hX dX7_count_106 fl_X7_134 (by first | rfl | assumption) rfl (RR.pc (b := 109) rfl ?_)
    refine r_iconst (v := 3) hX dX7_count_109 (by decide) (RR.pc (b := 110) rfl ?_)
    refine r_iald hX dX7_count_110 (by first | rfl | assumption) (j := 3) rfl (by decide) (by first | decide | omega) (by first | exact Nat.zero_add _ | rfl) (RR.pc (b := 111) rfl ?_)
    exact r_iret hX hZ dX7_count_111 ⟨_, rfl, ⟨by unfold countF; simp_all, rfl⟩⟩
  by_cases h1_6 : what = 6
  · refine r_tableIn (tgt := 112) hX dX7_count_1 (by rw [h1_6]; decide) (by rw [h1_6]; decide) (by rw [h1_6]; rfl) rfl ?_
    refine r_aload_n hX dX7_count_112 rfl ⟨_, rfl⟩ (RR.pc (b := 113) rfl ?_)
    refine r_getr hX dX7_count_113 fl_X7_39 (by first | rfl | assumption) rfl (RR.pc (b := 116) rfl ?_)
    refine r_geti hX dX7_count_116 fl_X7_233 (by first | rfl | assumption) rfl (RR.pc (b := 119) rfl ?_)
    exact r_iret hX hZ dX7_count_119 ⟨_, rfl, ⟨by unfold countF; simp_all, rfl⟩⟩
  by_cases h1_7 : what = 7
  · refine r_tableIn (tgt := 120) hX dX7_count_1 (by rw [h1_7]; decide) (by rw [h1_7]; decide) (by rw [h1_7]; rfl) rfl ?_
    refine r_aload_n hX dX7_count_120 rfl ⟨_, rfl⟩ (RR.pc (b := 121) rfl ?_)
    refine r_geti hX dX7_count_121 fl_X7_310 (by first | rfl | assumption) rfl (RR.pc (b := 124) rfl ?_)
    exact r_iret hX hZ dX7_count_124 ⟨_, rfl, ⟨by unfold countF; simp_all, rfl⟩⟩
  by_cases h1_8 : what = 8
  · refine r_tableIn (tgt := 125) hX dX7_count_1 (by rw [h1_8]; decide) (by rw [h1_8]; decide) (by rw [h1_8]; rfl) rfl ?_
    refine r_aload_n hX dX7_count_125 rfl ⟨_, rfl⟩ (RR.pc (b := 126) rfl ?_)
    refine r_getr hX dX7_count_126 fl_X7_21 (by first | rfl | assumption) rfl (RR.pc (b := 129) rfl ?_)
    refine r_geti hX dX7_count_129 fl_X7_221 (by first | rfl | assumption) rfl (RR.pc (b := 132) rfl ?_)
    exact r_iret hX hZ dX7_count_132 ⟨_, rfl, ⟨by unfold countF; simp_all, rfl⟩⟩
  by_cases h1_9 : what = 9
  · refine r_tableIn (tgt := 133) hX dX7_count_1 (by rw [h1_9]; decide) (by rw [h1_9]; decide) (by rw [h1_9]; rfl) rfl ?_
    refine r_aload_n hX dX7_count_133 rfl ⟨_, rfl⟩ (RR.pc (b := 134) rfl ?_)
    refine r_getr hX dX7_count_134 fl_X7_39 (by first | rfl | assumption) rfl (RR.pc (b := 137) rfl ?_)
    refine r_geti hX dX7_count_137 fl_X7_162 (by first | rfl | assumption) rfl (RR.pc (b := 140) rfl ?_)
    exact r_iret hX hZ dX7_count_140 ⟨_, rfl, ⟨by unfold countF; simp_all, rfl⟩⟩
  refine r_tableOut (tgt := 141) hX dX7_count_1 (by have n0 : (what).toInt ≠ 0 := ne_toInt h1_0; have n1 : (what).toInt ≠ 1 := ne_toInt h1_1; have n2 : (what).toInt ≠ 2 := ne_toInt h1_2; have n3 : (what).toInt ≠ 3 := ne_toInt h1_3; have n4 : (what).toInt ≠ 4 := ne_toInt h1_4; have n5 : (what).toInt ≠ 5 := ne_toInt h1_5; have n6 : (what).toInt ≠ 6 := ne_toInt h1_6; have n7 : (what).toInt ≠ 7 := ne_toInt h1_7; have n8 : (what).toInt ≠ 8 := ne_toInt h1_8; have n9 : (what).toInt ≠ 9 := ne_toInt h1_9; omega) rfl ?_
  refine r_ldc hX dX7_count_141 kc_X7_75 (RR.pc (b := 143) rfl ?_)
  exact r_iret hX hZ dX7_count_143 ⟨_, rfl, ⟨by unfold countF; simp_all, rfl⟩⟩
set_option maxHeartbeats 4000000 in
set_option maxRecDepth 100000 in
theorem c_X7_trim {G : GM} {σ : SG} {v : Int32} {k : Nat} (hk : σ 5 96 = nI k) (h60 : k ≤ 96) : CI G yX7_trim cX7_trim 2 (some .int) 1 [rf G 0, .int v] σ (fun r s => (¬ (0 ≤ v.toInt ∧ v.toInt ≤ k) → r = vBAD ∧ s = σ) ∧ (0 ≤ v.toInt ∧ v.toInt ≤ k → r = v ∧ s = su σ 5 96 v)) := by
  refine Con.of cd_X7_trim (Nat.le_of_ble_eq_true rfl) ?_
  intro X hX hZ
  have hX : Fx X G RX7 cX7_trim 2 1 := hX
  show RR X G 2 0 (ll [(0, rf G 0), (1, .int v)]) [] σ
  refine r_iload_n (i := 0) hX dX7_trim_0 rfl (RR.pc (b := 1) rfl ?_)
  refine r_iconst (v := 0) hX dX7_trim_1 (by decide) (RR.pc (b := 2) rfl ?_)
  refine r_aload_n hX dX7_trim_2 rfl ⟨_, rfl⟩ (RR.pc (b := 3) rfl ?_)
  refine r_getr hX dX7_trim_3 fl_X7_21 (by first | rfl | assumption) rfl (RR.pc (b := 6) rfl ?_)
  refine r_geti hX dX7_trim_6 fl_X7_221 (by first | rfl | assumption) rfl (RR.pc (b := 9) rfl ?_)
  rw [hk]
  refine r_callSie hX dX7_trim_9 ml_X7_71 cd_X7_within st_X7_within c_X7_within (by decide) rfl rfl (Nat.le_of_ble_eq_true rfl) (RR.pc (b := 12) rfl ?_)
  refine r_if_ne_b (tgt := 18) hX dX7_trim_12 rfl (fun h12 => ?_) (fun h12 => RR.pc (b := 15) rfl ?_)
  · try simp only [Int32.reduceToInt] at h12
    rw [nI_toInt (by omega)] at h12
    refine r_aload_n hX dX7_trim_18 rfl ⟨_, rfl⟩ (RR.pc (b := 19) rfl ?_)
    refine r_getr hX dX7_trim_19 fl_X7_21 (by first | rfl | assumption) rfl (RR.pc (b := 22) rfl ?_)
    refine r_iload_n (i := 0) hX dX7_trim_22 rfl (RR.pc (b := 23) rfl ?_)
    refine r_puti hX dX7_trim_23 fl_X7_221 (by first | rfl | assumption) rfl ft_3_1 (RR.pc (b := 26) rfl ?_)
    refine r_iload_n (i := 0) hX dX7_trim_26 rfl (RR.pc (b := 27) rfl ?_)
    exact r_iret hX hZ dX7_trim_27 ⟨_, rfl, ⟨fun h => absurd h12 h, fun _ => ⟨rfl, rfl⟩⟩⟩
  · try simp only [Int32.reduceToInt] at h12
    rw [nI_toInt (by omega)] at h12
    refine r_ldc hX dX7_trim_15 kc_X7_75 (RR.pc (b := 17) rfl ?_)
    exact r_iret hX hZ dX7_trim_17 ⟨_, rfl, ⟨fun _ => ⟨rfl, rfl⟩, fun h => absurd h h12⟩⟩
set_option maxHeartbeats 4000000 in
set_option maxRecDepth 100000 in
theorem c_X7_why {G : GM} {σ : SG} {Ts : Nat → Tx} {nt : Nat} {k : Int32} (hT : CT (σ 3) (σ 0) Ts nt) : CI G yX7_why cX7_why 2 (some .int) 1 [rf G 0, .int k] σ (fun r s => r = whyF Ts nt k ∧ s = σ) := by
  refine Con.of cd_X7_why (Nat.le_of_ble_eq_true rfl) ?_
  intro X hX hZ
  have hX : Fx X G RX7 cX7_why 2 1 := hX
  show RR X G 2 0 (ll [(0, rf G 0), (1, .int k)]) [] σ
  refine r_iload_n (i := 0) hX dX7_why_0 rfl (RR.pc (b := 1) rfl ?_)
  refine r_iconst (v := 0) hX dX7_why_1 (by decide) (RR.pc (b := 2) rfl ?_)
  refine r_iconst (v := 2) hX dX7_why_2 (by decide) (RR.pc (b := 3) rfl ?_)
  refine r_callSie hX dX7_why_3 ml_X7_71 cd_X7_within st_X7_within c_X7_within (by decide) rfl rfl (Nat.le_of_ble_eq_true rfl) (RR.pc (b := 6) rfl ?_)
  refine r_if_eq_b (tgt := 21) hX dX7_why_6 rfl (fun h6 => ?_) (fun h6 => RR.pc (b := 9) rfl ?_)
  · try simp only [Int32.reduceToInt] at h6
    refine r_ldc hX dX7_why_21 kc_X7_75 (RR.pc (b := 23) rfl ?_)
    exact r_iret hX hZ dX7_why_23 ⟨_, rfl, ⟨by unfold whyF; first | rw [if_neg h6] | (rw [if_pos h6]; unfold cntN; rfl), rfl⟩⟩
  · try simp only [Int32.reduceToInt] at h6
    obtain ⟨a, ha, rfl⟩ := ix_of (n := 3) (k := k) ⟨by omega, by omega⟩ (by omega)
    refine r_aload_n hX dX7_why_9 rfl ⟨_, rfl⟩ (RR.pc (b := 10) rfl ?_)
    refine r_getr hX dX7_why_10 fl_X7_39 (by first | rfl | assumption) rfl (RR.pc (b := 13) rfl ?_)
    refine r_getr hX dX7_why_13 fl_X7_243 (by first | rfl | assumption) rfl (RR.pc (b := 16) rfl ?_)
    refine r_iload_n (i := 0) hX dX7_why_16 rfl (RR.pc (b := 17) rfl ?_)
    refine r_iald hX dX7_why_17 (by first | rfl | assumption) rfl (by omega) (by first | decide | omega) (by first | exact Nat.zero_add _ | rfl) (RR.pc (b := 18) rfl ?_)
    rw [hT.2.2.1 a ha]
    refine r_goto (tgt := 23) hX dX7_why_18 rfl ?_
    exact r_iret hX hZ dX7_why_23 ⟨_, rfl, ⟨by unfold whyF; first | rw [if_neg h6] | (rw [if_pos h6]; unfold cntN; rfl), rfl⟩⟩
set_option maxHeartbeats 4000000 in
set_option maxRecDepth 100000 in
theorem c_X7_textTold {G : GM} {σ : SG} {Ts : Nat → Tx} {nt : Nat} {t what : Int32} (hT : CT (σ 3) (σ 0) Ts nt) : CI G yX7_textTold cX7_textTold 3 (some .int) 1 [rf G 0, .int t, .int what] σ (fun r s => r = ttF Ts nt t what ∧ s = σ) := by
  refine Con.of cd_X7_textTold (Nat.le_of_ble_eq_true rfl) ?_
  intro X hX hZ
  have hX : Fx X G RX7 cX7_textTold 3 1 := hX
  show RR X G 3 0 (ll [(0, rf G 0), (1, .int t), (2, .int what)]) [] σ
  have h14 := hT.2.1
  refine r_iload_n (i := 0) hX dX7_textTold_0 rfl (RR.pc (b := 1) rfl ?_)
  refine r_iconst (v := 0) hX dX7_textTold_1 (by decide) (RR.pc (b := 2) rfl ?_)
  refine r_aload_n hX dX7_textTold_2 rfl ⟨_, rfl⟩ (RR.pc (b := 3) rfl ?_)
  refine r_getr hX dX7_textTold_3 fl_X7_39 (by first | rfl | assumption) rfl (RR.pc (b := 6) rfl ?_)
  refine r_geti hX dX7_textTold_6 fl_X7_233 (by first | rfl | assumption) rfl (RR.pc (b := 9) rfl ?_)
  rw [hT.1]
  refine r_iconst (v := 1) hX dX7_textTold_9 (by decide) (RR.pc (b := 10) rfl ?_)
  refine r_isub hX dX7_textTold_10 (RR.pc (b := 11) rfl ?_)
  refine r_callSie hX dX7_textTold_11 ml_X7_71 cd_X7_within st_X7_within c_X7_within (by decide) rfl rfl (Nat.le_of_ble_eq_true rfl) (RR.pc (b := 14) rfl ?_)
  refine r_if_eq_b (tgt := 26) hX dX7_textTold_14 rfl (fun h14 => ?_) (fun h14 => RR.pc (b := 17) rfl ?_)
  · try simp only [Int32.reduceToInt] at h14
    refine r_ldc hX dX7_textTold_26 kc_X7_75 (RR.pc (b := 28) rfl ?_)
    exact r_iret hX hZ dX7_textTold_28 ⟨_, rfl, ⟨by unfold ttF; first | (rw [ix_some ha (by omega)]; dsimp only; rw [if_neg (w01n h23).1, if_neg (w01n h23).2]) | (rw [sub1_toInt (by omega)] at h14; rw [ix_none (by omega)]), rfl⟩⟩
  · try simp only [Int32.reduceToInt] at h14
    rw [sub1_toInt (by omega)] at h14
    obtain ⟨a, ha, rfl⟩ := ix_of (n := nt) (k := t) ⟨by omega, by omega⟩ (by omega)
    obtain ⟨m1, m2⟩ := layT (t := a) (by omega)
    obtain ⟨hTC, hok⟩ := hT.2.2.2 a ha
    refine r_iload_n (i := 0) hX dX7_textTold_17 rfl (RR.pc (b := 18) rfl ?_)
    refine r_iconst (v := 0) hX dX7_textTold_18 (by decide) (RR.pc (b := 19) rfl ?_)
    refine r_iconst (v := 1) hX dX7_textTold_19 (by decide) (RR.pc (b := 20) rfl ?_)
    refine r_callSie hX dX7_textTold_20 ml_X7_71 cd_X7_within st_X7_within c_X7_within (by decide) rfl rfl (Nat.le_of_ble_eq_true rfl) (RR.pc (b := 23) rfl ?_)
    refine r_if_ne_b (tgt := 29) hX dX7_textTold_23 rfl (fun h23 => ?_) (fun h23 => RR.pc (b := 26) rfl ?_)
    · try simp only [Int32.reduceToInt] at h23
      refine r_iload_n (i := 0) hX dX7_textTold_29 rfl (RR.pc (b := 30) rfl ?_)
      refine r_if_ne (tgt := 45) hX dX7_textTold_30 rfl (fun h30 => ?_) (fun h30 => RR.pc (b := 33) rfl ?_)
      · refine r_aload_n hX dX7_textTold_45 rfl ⟨_, rfl⟩ (RR.pc (b := 46) rfl ?_)
        refine r_getr hX dX7_textTold_46 fl_X7_11 (by first | rfl | assumption) rfl (RR.pc (b := 49) rfl ?_)
        refine r_iload_n (i := 0) hX dX7_textTold_49 rfl (RR.pc (b := 50) rfl ?_)
        refine r_aald hX dX7_textTold_50 (by first | rfl | assumption) ⟨_, rfl⟩ rfl (by omega) (by decide) (RR.pc (b := 51) rfl ?_)
        refine r_geti hX dX7_textTold_51 fl_X7_249 (by first | rfl | assumption) rfl (RR.pc (b := 54) rfl ?_)
        exact r_iret hX hZ dX7_textTold_54 ⟨_, rfl, ⟨by unfold ttF; rw [ix_some ha (by omega)]; dsimp only; first | (rw [if_pos h30]; exact hTC.2.1) | (rw [if_neg h30, if_pos ((w01 h23).resolve_left h30)]; exact hTC.2.2.1), rfl⟩⟩
      · refine r_aload_n hX dX7_textTold_33 rfl ⟨_, rfl⟩ (RR.pc (b := 34) rfl ?_)
        refine r_getr hX dX7_textTold_34 fl_X7_11 (by first | rfl | assumption) rfl (RR.pc (b := 37) rfl ?_)
        refine r_iload_n (i := 0) hX dX7_textTold_37 rfl (RR.pc (b := 38) rfl ?_)
        refine r_aald hX dX7_textTold_38 (by first | rfl | assumption) ⟨_, rfl⟩ rfl (by omega) (by decide) (RR.pc (b := 39) rfl ?_)
        refine r_geti hX dX7_textTold_39 fl_X7_246 (by first | rfl | assumption) rfl (RR.pc (b := 42) rfl ?_)
        refine r_goto (tgt := 54) hX dX7_textTold_42 rfl ?_
        exact r_iret hX hZ dX7_textTold_54 ⟨_, rfl, ⟨by unfold ttF; rw [ix_some ha (by omega)]; dsimp only; first | (rw [if_pos h30]; exact hTC.2.1) | (rw [if_neg h30, if_pos ((w01 h23).resolve_left h30)]; exact hTC.2.2.1), rfl⟩⟩
    · try simp only [Int32.reduceToInt] at h23
      refine r_ldc hX dX7_textTold_26 kc_X7_75 (RR.pc (b := 28) rfl ?_)
      exact r_iret hX hZ dX7_textTold_28 ⟨_, rfl, ⟨by unfold ttF; first | (rw [ix_some ha (by omega)]; dsimp only; rw [if_neg (w01n h23).1, if_neg (w01n h23).2]) | (rw [sub1_toInt (by omega)] at h14; rw [ix_none (by omega)]), rfl⟩⟩
/-- the bytes of a number -/
def bytC (v : Int32) (j : Nat) : Int32 := (v.toUInt32 >>> (((24 : Int32) - 8 * nI j).toUInt32 &&& Int32.toUInt32 31)).toInt32 &&& 255
theorem shJ : ∀ j, j < 4 → ¬ ((24 : Int32) - 8 * nI j < 0) ∧ (24 : Int32) - 8 * nI j + Int32.ofInt (-8) = 24 - 8 * nI (j + 1) := by decide +kernel
def adL (f : Nat → Int32) (k : Nat) (v : Int32) : Nat → (Nat → Int32)
  | 0 => f
  | j + 1 => upd (upd (adL f k v j) (k + j) (bytC v j)) 96 (nI (k + j + 1))
theorem adL_at {f : Nat → Int32} {k i : Nat} {v : Int32} (hi : i ≠ 96) : ∀ {j : Nat}, adL f k v j i = if k ≤ i ∧ i < k + j then bytC v (i - k) else f i := by
  intro j
  induction j with
  | zero => rw [if_neg (by omega)]; rfl
  | succ j ih =>
    unfold adL
    rw [pk_un hi]
    by_cases e : i = k + j
    · subst e
      rw [pk_us, if_pos (by omega), Nat.add_sub_cancel_left]
    · rw [pk_un e, ih]
      by_cases h : k ≤ i ∧ i < k + j
      · rw [if_pos h, if_pos (by omega)]
      · rw [if_neg h, if_neg (by omega)]
theorem adL_sz {f : Nat → Int32} {k : Nat} {v : Int32} (hf : f 96 = nI k) : ∀ {j : Nat}, adL f k v j 96 = nI (k + j) := by
  intro j
  cases j with
  | zero => exact hf
  | succ j => exact pk_us
set_option maxHeartbeats 4000000 in
set_option maxRecDepth 100000 in
theorem c_X3_addBytesOf {G : GM} {σ : SG} {v : Int32} {k : Nat} (hk : σ 5 96 = nI k) (h96 : k + 4 ≤ 96) : CU G yX3_addBytesOf cX3_addBytesOf 3 none 0 [rf G 31, .int v] σ (fun s => s = sr σ 5 (adL (σ 5) k v 4)) := by
  refine Con.of cd_X3_addBytesOf (Nat.le_of_ble_eq_true rfl) ?_
  intro X hX hZ
  have hX : Fx X G RX3 cX3_addBytesOf 3 0 := hX
  show RR X G 3 0 (ll [(0, rf G 31), (1, .int v)]) [] σ
  have loop := loopK 4 (fun j => RR X G 3 3 (ll [(0, rf G 31), (1, .int v), (2, .int ((24 : Int32) - 8 * nI j))]) [] (sr σ 5 (adL (σ 5) k v j))) (by
    intro j hj ih
    have esz : adL (σ 5) k v j 96 = nI (k + j) := adL_sz hk
    by_cases hj2 : j = 4
    · subst hj2
      refine r_iload_n (i := 0) hX dX3_addBytesOf_3 rfl (RR.pc (b := 4) rfl ?_)
      refine r_if_lt (tgt := 48) hX dX3_addBytesOf_4 rfl (fun h4 => ?_) (fun h4 => absurd h4 (show ¬ ¬ ((24 : Int32) - 8 * nI 4 < 0) by decide))
      exact r_vret hX hZ dX3_addBytesOf_48 ⟨rfl, rfl⟩
    · have sj := shJ j (by omega)
      refine r_iload_n (i := 0) hX dX3_addBytesOf_3 rfl (RR.pc (b := 4) rfl ?_)
      refine r_if_lt (tgt := 48) hX dX3_addBytesOf_4 rfl (fun h => absurd h sj.1) (fun _ => RR.pc (b := 7) rfl ?_)
      refine r_aload_n hX dX3_addBytesOf_7 rfl ⟨_, rfl⟩ (RR.pc (b := 8) rfl ?_)
      refine r_geti hX dX3_addBytesOf_8 fl_X3_15 (by first | rfl | assumption) rfl (RR.pc (b := 11) rfl ?_)
      refine r_bipush (v := 96) hX dX3_addBytesOf_11 (by decide) (RR.pc (b := 13) rfl ?_)
      rw [sr_eq, esz]
      refine r_icmp_ge (tgt := 48) hX dX3_addBytesOf_13 rfl (fun h => absurd h (nI_ge (b := 96) (by omega) (by omega))) (fun _ => RR.pc (b := 16) rfl ?_)
      refine r_aload_n hX dX3_addBytesOf_16 rfl ⟨_, rfl⟩ (RR.pc (b := 17) rfl ?_)
      refine r_getr hX dX3_addBytesOf_17 fl_X3_9 (by first | rfl | assumption) rfl (RR.pc (b := 20) rfl ?_)
      refine r_aload_n hX dX3_addBytesOf_20 rfl ⟨_, rfl⟩ (RR.pc (b := 21) rfl ?_)
      refine r_geti hX dX3_addBytesOf_21 fl_X3_15 (by first | rfl | assumption) rfl (RR.pc (b := 24) rfl ?_)
      rw [sr_eq, esz]
      refine r_iload_n (i := 0) hX dX3_addBytesOf_24 rfl (RR.pc (b := 25) rfl ?_)
      refine r_iload_n (i := 0) hX dX3_addBytesOf_25 rfl (RR.pc (b := 26) rfl ?_)
      refine r_iushr hX dX3_addBytesOf_26 rfl (RR.pc (b := 27) rfl ?_)
      refine r_sipush (v := 255) hX dX3_addBytesOf_27 (by decide) (RR.pc (b := 30) rfl ?_)
      refine r_iand hX dX3_addBytesOf_30 (RR.pc (b := 31) rfl ?_)
      refine r_iast hX dX3_addBytesOf_31 (by first | rfl | assumption) rfl (by omega) (by first | decide | omega) (by first | exact Nat.zero_add _ | rfl) (RR.pc (b := 32) rfl ?_)
      refine r_aload_n hX dX3_addBytesOf_32 rfl ⟨_, rfl⟩ (RR.pc (b := 33) rfl ?_)
      refine r_dup hX dX3_addBytesOf_33 rfl (RR.pc (b := 34) rfl ?_)
      refine r_geti hX dX3_addBytesOf_34 fl_X3_15 (by first | rfl | assumption) rfl (RR.pc (b := 37) rfl ?_)
      rw [su_sr, sr_eq, pk_un (show (96 : Nat) ≠ k + j by omega), esz]
      refine r_iconst (v := 1) hX dX3_addBytesOf_37 (by decide) (RR.pc (b := 38) rfl ?_)
      refine r_iadd hX dX3_addBytesOf_38 (RR.pc (b := 39) rfl ?_)
      rw [nI_1]
      refine r_puti hX dX3_addBytesOf_39 fl_X3_15 (by first | rfl | assumption) rfl ft_3_1 (RR.pc (b := 42) rfl ?_)
      refine r_iinc hX dX3_addBytesOf_42 rfl (by decide) sj.2 (RR.pc (b := 45) rfl ?_)
      refine r_goto (tgt := 3) hX dX3_addBytesOf_45 rfl ?_
      refine RR.eqs ?_ (RR.cut (ih (by omega)) (List.forall_mem_cons.mpr ⟨rfl, List.forall_mem_cons.mpr ⟨rfl, List.forall_mem_cons.mpr ⟨rfl, fun _ h => absurd h List.not_mem_nil⟩⟩⟩))
      rw [su_sr]
      rfl
    )
  refine r_bipush (v := 24) hX dX3_addBytesOf_0 (by decide) (RR.pc (b := 2) rfl ?_)
  refine r_istore_n hX dX3_addBytesOf_2 (by decide) (RR.pc (b := 3) rfl ?_)
  exact RR.eqs (sr_self (r := 5)).symm (RR.cut (loop 0 (by omega)) (List.forall_mem_cons.mpr ⟨rfl, List.forall_mem_cons.mpr ⟨rfl, List.forall_mem_cons.mpr ⟨rfl, fun _ h => absurd h List.not_mem_nil⟩⟩⟩))
theorem shK : ∀ j, j < 4 → ((24 : Int32) - 8 * nI j).toUInt32 &&& Int32.toUInt32 31 = UInt32.ofNat (24 - 8 * j) ∧ nI (24 - 8 * j) &&& 31 = nI (24 - 8 * j) := by decide +kernel
theorem byt_eq {v : Int32} {j : Nat} (hj : j < 4) : bytC v j = (v >>> (nI (24 - 8 * j) &&& 31)) &&& 255 := by
  obtain ⟨s1, s2⟩ := shK j hj
  unfold bytC
  rw [s1, s2]
  apply Int32.toBitVec_inj.mp
  rw [Int32.toBitVec_and, Int32.toBitVec_and, UInt32.toBitVec_toInt32, UInt32.toBitVec_shiftRight, Int32.toBitVec_shiftRight]
  apply BitVec.eq_of_getLsbD_eq
  intro i hi
  have e1 : ((UInt32.ofNat (24 - 8 * j)).toBitVec % 32) = BitVec.ofNat 32 (24 - 8 * j) := by
    rcases (show j = 0 ∨ j = 1 ∨ j = 2 ∨ j = 3 by omega) with rfl | rfl | rfl | rfl <;> decide
  have e2 : ((nI (24 - 8 * j)).toBitVec.smod 32) = BitVec.ofNat 32 (24 - 8 * j) := by
    rcases (show j = 0 ∨ j = 1 ∨ j = 2 ∨ j = 3 by omega) with rfl | rfl | rfl | rfl <;> decide
  have e3 : (BitVec.ofNat 32 (24 - 8 * j)).toNat = 24 - 8 * j := by
    rw [BitVec.toNat_ofNat]
    omega
  have e4 : (255 : Int32).toBitVec = 255#32 := by decide
  rw [e1, e2, e4, BitVec.getLsbD_and, BitVec.getLsbD_and, BitVec.ushiftRight_eq', BitVec.getLsbD_ushiftRight, BitVec.sshiftRight_eq', BitVec.getLsbD_sshiftRight, e3]
  by_cases h8 : i < 8
  · rw [show decide (32 ≤ i) = false from decide_eq_false (by omega), if_pos (by omega)]
    simp
  · have : (255#32).getLsbD i = false := by
      have h : ∀ i, i < 32 → ¬ i < 8 → (255#32).getLsbD i = false := by decide
      exact h i hi h8
    rw [this, Bool.and_false, Bool.and_false]
theorem fedL_at {f : Nat → Int32} {a b c : Int32} {k i : Nat} : ∀ {j : Nat}, fedL f a b c k j i = if k ≤ i ∧ i < k + j then fedB a b c (i - k) else f i := by
  intro j
  induction j with
  | zero => rw [if_neg (by omega)]; rfl
  | succ j ih =>
    unfold fedL
    by_cases e : i = k + j
    · subst e
      rw [pk_us, if_pos (by omega), Nat.add_sub_cancel_left]
    · rw [pk_un e, ih]
      by_cases h : k ≤ i ∧ i < k + j
      · rw [if_pos h, if_pos (by omega)]
      · rw [if_neg h, if_neg (by omega)]
theorem adL3 {f : Nat → Int32} {a b c : Int32} {k i : Nat} (hi : i < 96) : adL (adL (adL f k a 4) (k + 4) b 4) (k + 8) c 4 i = fedL f a b c k 12 i := by
  rw [adL_at (by omega), adL_at (by omega), adL_at (by omega), fedL_at]
  by_cases h : k ≤ i ∧ i < k + 12
  · rw [if_pos h]
    unfold fedB
    by_cases h3 : k + 8 ≤ i
    · rw [if_pos (by omega), if_neg (by omega), if_neg (by omega), byt_eq (by omega), show (i - k) % 4 = i - (k + 8) by omega]
    · rw [if_neg (by omega)]
      by_cases h2 : k + 4 ≤ i
      · rw [if_pos (by omega), if_neg (by omega), if_pos (by omega), byt_eq (by omega), show (i - k) % 4 = i - (k + 4) by omega]
      · rw [if_neg (by omega), if_pos (by omega), if_pos (by omega), byt_eq (by omega), show (i - k) % 4 = i - k by omega]
  · rw [if_neg h, if_neg (by omega), if_neg (by omega), if_neg (by omega)]
set_option maxHeartbeats 4000000 in
set_option maxRecDepth 100000 in
theorem c_X7_feed {G : GM} {σ : SG} {a b c : Int32} {k : Nat} (hk : σ 5 96 = nI k) (h96 : k ≤ 96) : CI G yX7_feed cX7_feed 4 (some .int) 1 [rf G 0, .int a, .int b, .int c] σ (fun r s => same [5] σ s ∧ (96 < k + 12 → r = vFULL ∧ s = σ) ∧ (k + 12 ≤ 96 → r = nI (k + 12) ∧ s 5 96 = nI (k + 12) ∧ ∀ i, i < 96 → s 5 i = fedL (σ 5) a b c k 12 i)) := by
  refine Con.of cd_X7_feed (Nat.le_of_ble_eq_true rfl) ?_
  intro X hX hZ
  have hX : Fx X G RX7 cX7_feed 4 1 := hX
  show RR X G 4 0 (ll [(0, rf G 0), (1, .int a), (2, .int b), (3, .int c)]) [] σ
  refine r_aload_n hX dX7_feed_0 rfl ⟨_, rfl⟩ (RR.pc (b := 1) rfl ?_)
  refine r_getr hX dX7_feed_1 fl_X7_21 (by first | rfl | assumption) rfl (RR.pc (b := 4) rfl ?_)
  refine r_geti hX dX7_feed_4 fl_X7_221 (by first | rfl | assumption) rfl (RR.pc (b := 7) rfl ?_)
  rw [hk]
  refine r_bipush (v := 12) hX dX7_feed_7 (by decide) (RR.pc (b := 9) rfl ?_)
  rw [show (12 : Int32) = nI 12 from rfl]
  refine r_iadd hX dX7_feed_9 (RR.pc (b := 10) rfl ?_)
  rw [nI_add]
  refine r_bipush (v := 96) hX dX7_feed_10 (by decide) (RR.pc (b := 12) rfl ?_)
  rw [show (96 : Int32) = nI 96 from rfl]
  refine r_icmp_le (tgt := 18) hX dX7_feed_12 rfl (fun h12 => ?_) (fun h12 => RR.pc (b := 15) rfl ?_)
  · have hc : k + 12 ≤ 96 := by rw [nI_leI (by omega) (by omega)] at h12; omega
    refine r_aload_n hX dX7_feed_18 rfl ⟨_, rfl⟩ (RR.pc (b := 19) rfl ?_)
    refine r_getr hX dX7_feed_19 fl_X7_21 (by first | rfl | assumption) rfl (RR.pc (b := 22) rfl ?_)
    refine r_iload_n (i := 0) hX dX7_feed_22 rfl (RR.pc (b := 23) rfl ?_)
    refine r_callVve hX dX7_feed_23 ml_X7_224 cd_X3_addBytesOf iv_X3_addBytesOf (c_X3_addBytesOf hk (by omega)) (by decide) (by first | rfl | assumption) rfl rfl rfl rfl (Nat.le_of_ble_eq_true rfl) (RR.pc (b := 26) rfl ?_)
    refine r_aload_n hX dX7_feed_26 rfl ⟨_, rfl⟩ (RR.pc (b := 27) rfl ?_)
    refine r_getr hX dX7_feed_27 fl_X7_21 (by first | rfl | assumption) rfl (RR.pc (b := 30) rfl ?_)
    refine r_iload_n (i := 0) hX dX7_feed_30 rfl (RR.pc (b := 31) rfl ?_)
    refine r_callVve hX dX7_feed_31 ml_X7_224 cd_X3_addBytesOf iv_X3_addBytesOf (c_X3_addBytesOf (k := k + 4) (by rw [sr_eq]; exact adL_sz hk) (by omega)) (by decide) (by first | rfl | assumption) rfl rfl rfl rfl (Nat.le_of_ble_eq_true rfl) (RR.pc (b := 34) rfl ?_)
    refine r_aload_n hX dX7_feed_34 rfl ⟨_, rfl⟩ (RR.pc (b := 35) rfl ?_)
    refine r_getr hX dX7_feed_35 fl_X7_21 (by first | rfl | assumption) rfl (RR.pc (b := 38) rfl ?_)
    refine r_iload_n (i := 0) hX dX7_feed_38 rfl (RR.pc (b := 39) rfl ?_)
    refine r_callVve hX dX7_feed_39 ml_X7_224 cd_X3_addBytesOf iv_X3_addBytesOf (c_X3_addBytesOf (k := k + 4 + 4) (by rw [sr_eq]; exact adL_sz (by rw [sr_eq]; exact adL_sz hk)) (by omega)) (by decide) (by first | rfl | assumption) rfl rfl rfl rfl (Nat.le_of_ble_eq_true rfl) (RR.pc (b := 42) rfl ?_)
    refine r_aload_n hX dX7_feed_42 rfl ⟨_, rfl⟩ (RR.pc (b := 43) rfl ?_)
    refine r_getr hX dX7_feed_43 fl_X7_21 (by first | rfl | assumption) rfl (RR.pc (b := 46) rfl ?_)
    refine r_geti hX dX7_feed_46 fl_X7_221 (by first | rfl | assumption) rfl (RR.pc (b := 49) rfl ?_)
    rw [sr_eq, adL_sz (by rw [sr_eq]; exact adL_sz (by rw [sr_eq]; exact adL_sz hk))]
    exact r_iret hX hZ dX7_feed_49 ⟨_, rfl, ⟨((same.rf.sr (by simp)).sr (by simp)).sr (by simp), fun z => absurd hc (by omega), fun _ => ⟨rfl, by rw [sr_eq]; exact adL_sz (by rw [sr_eq]; exact adL_sz (by rw [sr_eq]; exact adL_sz hk)), fun i hi => by rw [sr_eq, sr_eq, sr_eq]; exact adL3 hi⟩⟩⟩
  · have hc : 96 < k + 12 := by rw [nI_leI (by omega) (by omega)] at h12; omega
    refine r_ldc hX dX7_feed_15 kc_X7_80 (RR.pc (b := 17) rfl ?_)
    exact r_iret hX hZ dX7_feed_17 ⟨_, rfl, ⟨same.rf, fun _ => ⟨rfl, rfl⟩, fun z => absurd hc (by omega)⟩⟩
set_option maxHeartbeats 4000000 in
set_option maxRecDepth 100000 in
theorem c_X7_check {G : GM} {σ : SG} {Ts : Nat → Tx} {nt n m many : Nat} {q : Int32} (hI : ¬ σ 9 60 = 0 → CT (σ 3) (σ 1) Ts nt ∧ WO (σ 1) n m ∧ m ≤ 9999) (hk : σ 9 61 = nI many) (h60 : many ≤ 60) : CI G yX7_check cX7_check 6 (some .int) 6 [rf G 0, .int q] σ (fun r s => same [2, 4, 9] σ s ∧ s 9 = upd (σ 9) 61 0 ∧ (¬ (1 ≤ q.toInt ∧ q.toInt ≤ 30) → r = vBAD) ∧ ((1 ≤ q.toInt ∧ q.toInt ≤ 30) → (σ 9 60 = 0 → r = vNO) ∧ (¬ σ 9 60 = 0 → r = chkF (lkV Ts nt) n m (σ 1) (σ 9) many q))) := by
  refine Con.of cd_X7_check (Nat.le_of_ble_eq_true rfl) ?_
  intro X hX hZ
  have hX : Fx X G RX7 cX7_check 6 6 := hX
  show RR X G 6 0 (ll [(0, rf G 0), (1, .int q)]) [] σ
  have hs0 : same [2, 4, 9] σ (su σ 9 61 0) := same.rf.su (by simp)
  have go : ∀ c, c < 31 → q = nI c → ¬ σ 9 60 = 0 → (1 ≤ q.toInt ∧ q.toInt ≤ 30) → RR X G 6 34 (ll [(0, rf G 0), (1, .int q), (2, .int (nI many))]) [] (su σ 9 61 0) := by
    intro c hc e hi hq
    subst e
    obtain ⟨hT, hW, hm⟩ := hI hi
    have hV : VO (lkV Ts nt) := lkV_VO
    have h8 := hW.2.1
    have hF : chkF (lkV Ts nt) n m (σ 1) (σ 9) many (nI c) = chkA (σ 9) (dueF (lkV Ts nt) n (σ 1)) many (2 * min c (9999 - m)) := by unfold chkF; rw [nI_clamp (by omega)]
    rw [hF] at hZ
    have A := minN_ag (becW_ag (g := σ 2)) hV hW
    have hW2 : WO (becW (σ 2) (σ 1) n) n m := hW.ag becW_ag
    have fin : ∀ (τ : SG) (x : Int32), same [2, 4, 9] σ τ → τ 9 = upd (σ 9) 61 0 → x = chkA (σ 9) (dueF (lkV Ts nt) n (σ 1)) many (2 * min c (9999 - m)) → same [2, 4, 9] σ τ ∧ τ 9 = upd (σ 9) 61 0 ∧ (¬ (1 ≤ (nI c).toInt ∧ (nI c).toInt ≤ 30) → x = vBAD) ∧ ((1 ≤ (nI c).toInt ∧ (nI c).toInt ≤ 30) → (σ 9 60 = 0 → x = vNO) ∧ (¬ σ 9 60 = 0 → x = chkA (σ 9) (dueF (lkV Ts nt) n (σ 1)) many (2 * min c (9999 - m)))) :=
      fun τ x h1 h2 h3 => ⟨h1, h2, fun z => absurd hq z, fun _ => ⟨fun z => absurd z hi, fun _ => h3⟩⟩
    generalize hD : 2 * min c (9999 - m) = D at hZ fin
    generalize hdu : dueF (lkV Ts nt) n (σ 1) = du at hZ fin
    have loop := loopK D (fun i => ∀ τ : SG, τ 2 = minN (lkV Ts nt) n (becW (σ 2) (σ 1) n) ((i + 1) / 2) → same [2, 4, 9] σ τ → τ 9 = upd (σ 9) 61 0 → i ≤ many → matN (σ 9) du i = i → RR X G 6 59 (ll [(0, rf G 0), (2, .int (nI many)), (3, .int (nI D)), (4, .int (nI i))]) [] τ) (by
      intro i hiD ih τ e2 hs e9 him hmat
      refine r_iload hX dX7_check_59 rfl (RR.pc (b := 61) rfl ?_)
      refine r_iload_n (i := 0) hX dX7_check_61 rfl (RR.pc (b := 62) rfl ?_)
      refine r_icmp_ge (tgt := 138) hX dX7_check_62 rfl (fun h62 => ?_) (fun h62 => RR.pc (b := 65) rfl ?_)
      · have hi2 : i = D := by rw [nI_leI (by omega) (by omega)] at h62; omega
        subst hi2
        have hmm : matN (σ 9) du (min many i) = i := by rw [show min many i = i by omega]; exact hmat
        refine r_iload_n (i := 0) hX dX7_check_138 rfl (RR.pc (b := 139) rfl ?_)
        refine r_iload_n (i := 0) hX dX7_check_139 rfl (RR.pc (b := 140) rfl ?_)
        refine r_icmp_le (tgt := 149) hX dX7_check_140 rfl (fun h140 => ?_) (fun h140 => RR.pc (b := 143) rfl ?_)
        · have hme : i = many := by rw [nI_leI (by omega) (by omega)] at h140; omega
          refine r_iconst (v := 0) hX dX7_check_149 (by decide) (RR.pc (b := 150) rfl ?_)
          exact r_iret hX hZ dX7_check_150 ⟨_, rfl, fin τ _ hs e9 (by unfold chkA; rw [if_pos ⟨by omega, hmm⟩])⟩
        · have hme : i < many := by rw [nI_leI (by omega) (by omega)] at h140; omega
          refine r_iconst (v := 1) hX dX7_check_143 (by decide) (RR.pc (b := 144) rfl ?_)
          refine r_iload_n (i := 0) hX dX7_check_144 rfl (RR.pc (b := 145) rfl ?_)
          refine r_iadd hX dX7_check_145 (RR.pc (b := 146) rfl ?_)
          refine r_goto (tgt := 150) hX dX7_check_146 rfl ?_
          exact r_iret hX hZ dX7_check_150 ⟨_, rfl, fin τ _ hs e9 (by unfold chkA; rw [if_neg (fun z => by omega), hmm]; exact nI_add 1 i)⟩
      · have hi2 : i < D := by rw [nI_leI (by omega) (by omega)] at h62; omega
        have t107 : ∀ τ : SG, τ 2 = minN (lkV Ts nt) n (becW (σ 2) (σ 1) n) (i / 2 + 1) → same [2, 4, 9] σ τ → τ 9 = upd (σ 9) 61 0 → RR X G 6 107 (ll [(0, rf G 0), (2, .int (nI many)), (3, .int (nI D)), (4, .int (nI i))]) [.int (du i)] τ := by
          intro τ e2 hs e9
          refine r_istore hX dX7_check_107 (by decide) (RR.pc (b := 109) rfl ?_)
          refine r_iload hX dX7_check_109 rfl (RR.pc (b := 111) rfl ?_)
          refine r_iload_n (i := 0) hX dX7_check_111 rfl (RR.pc (b := 112) rfl ?_)
          refine r_icmp_ge (tgt := 127) hX dX7_check_112 rfl (fun h112 => ?_) (fun h112 => RR.pc (b := 115) rfl ?_)
          · refine r_iconst (v := 1) hX dX7_check_127 (by decide) (RR.pc (b := 128) rfl ?_)
            refine r_iload hX dX7_check_128 rfl (RR.pc (b := 130) rfl ?_)
            refine r_iadd hX dX7_check_130 (RR.pc (b := 131) rfl ?_)
            exact r_iret hX hZ dX7_check_131 ⟨_, rfl, fin τ _ hs e9 (by first | (have hme : i = many := (by rw [nI_leI (by omega) (by omega)] at h112; omega); unfold chkA; rw [show min many D = i by omega, hmat, if_neg (fun z => by omega)]; exact nI_add 1 i) | (have hme : i < many := (by rw [nI_leI (by omega) (by omega)] at h112; omega); have hst := matN_stop hmat h124 (min many D) (by omega); unfold chkA; rw [hst, if_neg (fun z => by omega)]; exact nI_add 1 i))⟩
          · refine r_aload_n hX dX7_check_115 rfl ⟨_, rfl⟩ (RR.pc (b := 116) rfl ?_)
            refine r_getr hX dX7_check_116 fl_X7_63 (by first | rfl | assumption) rfl (RR.pc (b := 119) rfl ?_)
            refine r_iload hX dX7_check_119 rfl (RR.pc (b := 121) rfl ?_)
            refine r_iald hX dX7_check_121 (by first | rfl | assumption) rfl (by omega) (by first | decide | omega) (by first | exact Nat.zero_add _ | rfl) (RR.pc (b := 122) rfl ?_)
            rw [e9, pk_un (by omega)]
            refine r_iload hX dX7_check_122 rfl (RR.pc (b := 124) rfl ?_)
            refine r_icmp_eq (tgt := 132) hX dX7_check_124 rfl (fun h124 => ?_) (fun h124 => RR.pc (b := 127) rfl ?_)
            · refine r_iinc hX dX7_check_132 rfl (by decide) (nI_1 i) (RR.pc (b := 135) rfl ?_)
              refine r_goto (tgt := 59) hX dX7_check_135 rfl ?_
              have hme : i < many := (by rw [nI_leI (by omega) (by omega)] at h112; omega)
              exact RR.cut (ih hi2 τ (by rw [e2, show (i + 1 + 1) / 2 = i / 2 + 1 by omega]) hs e9 (by omega) (by rw [matN, if_pos ⟨hmat, h124⟩])) (List.forall_mem_cons.mpr ⟨rfl, List.forall_mem_cons.mpr ⟨rfl, List.forall_mem_cons.mpr ⟨rfl, List.forall_mem_cons.mpr ⟨rfl, fun _ h => absurd h List.not_mem_nil⟩⟩⟩⟩)
            · refine r_iconst (v := 1) hX dX7_check_127 (by decide) (RR.pc (b := 128) rfl ?_)
              refine r_iload hX dX7_check_128 rfl (RR.pc (b := 130) rfl ?_)
              refine r_iadd hX dX7_check_130 (RR.pc (b := 131) rfl ?_)
              exact r_iret hX hZ dX7_check_131 ⟨_, rfl, fin τ _ hs e9 (by first | (have hme : i = many := (by rw [nI_leI (by omega) (by omega)] at h112; omega); unfold chkA; rw [show min many D = i by omega, hmat, if_neg (fun z => by omega)]; exact nI_add 1 i) | (have hme : i < many := (by rw [nI_leI (by omega) (by omega)] at h112; omega); have hst := matN_stop hmat h124 (min many D) (by omega); unfold chkA; rw [hst, if_neg (fun z => by omega)]; exact nI_add 1 i))⟩
        have edu : du i = if i % 2 = 0 then sumW (minN (lkV Ts nt) n (becW (σ 2) (σ 1) n) (i / 2 + 1)) 11 60 else minN (lkV Ts nt) n (becW (σ 2) (σ 1) n) (i / 2 + 1) 4 := by
          rw [← hdu]
          unfold dueF
          rw [sumW_ag (A (i / 2 + 1)) 60 (by omega), A (i / 2 + 1) 4 (by omega)]
        refine r_iload hX dX7_check_65 rfl (RR.pc (b := 67) rfl ?_)
        refine r_iconst (v := 2) hX dX7_check_67 (by decide) (RR.pc (b := 68) rfl ?_)
        refine r_irem hX dX7_check_68 (by decide) (RR.pc (b := 69) rfl ?_)
        rw [rem_lit (by omega) (by decide) (by decide)]
        by_cases par : i % 2 = 0
        · rw [if_pos par] at edu
          rw [par]
          refine r_if_ne (tgt := 80) hX dX7_check_69 rfl (fun h69 => absurd rfl h69) (fun h69 => RR.pc (b := 72) rfl ?_)
          refine r_aload_n hX dX7_check_72 rfl ⟨_, rfl⟩ (RR.pc (b := 73) rfl ?_)
          refine r_getr hX dX7_check_73 fl_X7_46 (by first | rfl | assumption) rfl (RR.pc (b := 76) rfl ?_)
          refine r_iconst (v := 1) hX dX7_check_76 (by decide) (RR.pc (b := 77) rfl ?_)
          refine r_callVv hX dX7_check_77 ml_X7_171 cd_X6_pass iv_X6_pass (c_X6_pass (w := 2) (Ts := Ts) (nt := nt) (n := n) (m := m + i / 2) (q := 1) (by decide) (by rw [hs 3 (by decide), e2, show (i + 1) / 2 = i / 2 by omega]; exact hT.bec.congr (minN_out hV hW2 (by omega) _) (fun j hj => minN_out hV hW2 (by omega) _)) (by rw [e2, show (i + 1) / 2 = i / 2 by omega]; exact minN_WO hV hW2 _) (by omega)) (by decide) (by first | rfl | assumption) rfl rfl rfl rfl (Nat.le_of_ble_eq_true rfl) (fun s_77 e_77 => RR.pc (b := 80) rfl ?_)
          obtain ⟨e77, hs77⟩ := e_77
          refine r_iload hX dX7_check_80 rfl (RR.pc (b := 82) rfl ?_)
          refine r_iconst (v := 2) hX dX7_check_82 (by decide) (RR.pc (b := 83) rfl ?_)
          refine r_irem hX dX7_check_83 (by decide) (RR.pc (b := 84) rfl ?_)
          have f2 : s_77 2 = minN (lkV Ts nt) n (becW (σ 2) (σ 1) n) (i / 2 + 1) := by rw [e77, e2, show (i + 1) / 2 = i / 2 by omega]; rfl
          have f9 : s_77 9 = upd (σ 9) 61 0 := by rw [hs77 9 (by decide)]; exact e9
          have fs : same [2, 4, 9] σ s_77 := hs.tr (hs77.mono (by simp))
          rw [rem_lit (by omega) (by decide) (by decide), par]
          refine r_if_ne (tgt := 100) hX dX7_check_84 rfl (fun h84 => absurd rfl h84) (fun h84 => RR.pc (b := 87) rfl ?_)
          refine r_aload_n hX dX7_check_87 rfl ⟨_, rfl⟩ (RR.pc (b := 88) rfl ?_)
          refine r_getr hX dX7_check_88 fl_X7_46 (by first | rfl | assumption) rfl (RR.pc (b := 91) rfl ?_)
          refine r_getr hX dX7_check_91 fl_X7_140 (by first | rfl | assumption) rfl (RR.pc (b := 94) rfl ?_)
          refine r_callSie hX dX7_check_94 ml_X7_175 cd_X7_sumOf st_X7_sumOf (c_X7_sumOf (k := 74) rfl) (by decide) rfl rfl (Nat.le_of_ble_eq_true rfl) (RR.pc (b := 97) rfl ?_)
          refine r_goto (tgt := 107) hX dX7_check_97 rfl ?_
          refine RR.eqt ?_ (RR.cut (t107 s_77 f2 fs f9) (List.forall_mem_cons.mpr ⟨rfl, List.forall_mem_cons.mpr ⟨rfl, List.forall_mem_cons.mpr ⟨rfl, List.forall_mem_cons.mpr ⟨rfl, fun _ h => absurd h List.not_mem_nil⟩⟩⟩⟩))
          rw [edu, ← f2]
        · rw [if_neg par] at edu
          rw [show i % 2 = 1 by omega]
          refine r_if_ne (tgt := 80) hX dX7_check_69 rfl (fun h69 => ?_) (fun h69 => absurd h69 (by decide))
          have f2 : τ 2 = minN (lkV Ts nt) n (becW (σ 2) (σ 1) n) (i / 2 + 1) := by rw [e2, show (i + 1) / 2 = i / 2 + 1 by omega]
          refine r_iload hX dX7_check_80 rfl (RR.pc (b := 82) rfl ?_)
          refine r_iconst (v := 2) hX dX7_check_82 (by decide) (RR.pc (b := 83) rfl ?_)
          refine r_irem hX dX7_check_83 (by decide) (RR.pc (b := 84) rfl ?_)
          rw [rem_lit (by omega) (by decide) (by decide), show i % 2 = 1 by omega]
          refine r_if_ne (tgt := 100) hX dX7_check_84 rfl (fun h84 => ?_) (fun h84 => absurd h84 (by decide))
          refine r_aload_n hX dX7_check_100 rfl ⟨_, rfl⟩ (RR.pc (b := 101) rfl ?_)
          refine r_getr hX dX7_check_101 fl_X7_46 (by first | rfl | assumption) rfl (RR.pc (b := 104) rfl ?_)
          refine r_geti hX dX7_check_104 fl_X7_179 (by first | rfl | assumption) rfl (RR.pc (b := 107) rfl ?_)
          refine RR.eqt ?_ (RR.cut (t107 τ f2 hs e9) (List.forall_mem_cons.mpr ⟨rfl, List.forall_mem_cons.mpr ⟨rfl, List.forall_mem_cons.mpr ⟨rfl, List.forall_mem_cons.mpr ⟨rfl, fun _ h => absurd h List.not_mem_nil⟩⟩⟩⟩))
          rw [edu, ← f2]
      )
    refine r_aload_n hX dX7_check_34 rfl ⟨_, rfl⟩ (RR.pc (b := 35) rfl ?_)
    refine r_getr hX dX7_check_35 fl_X7_46 (by first | rfl | assumption) rfl (RR.pc (b := 38) rfl ?_)
    refine r_aload_n hX dX7_check_38 rfl ⟨_, rfl⟩ (RR.pc (b := 39) rfl ?_)
    refine r_getr hX dX7_check_39 fl_X7_43 (by first | rfl | assumption) rfl (RR.pc (b := 42) rfl ?_)
    refine r_callVve hX dX7_check_42 ml_X7_191 cd_X6_become iv_X6_become (c_X6_become (w := 2) (u := 1) (n := n) (by decide) (by decide) (by decide) (by rw [su_ne (by decide)]; exact hW.1) h8) (by decide) (by first | rfl | assumption) rfl rfl rfl rfl (Nat.le_of_ble_eq_true rfl) (RR.pc (b := 45) rfl ?_)
    refine r_iconst (v := 2) hX dX7_check_45 (by decide) (RR.pc (b := 46) rfl ?_)
    refine r_aload_n hX dX7_check_46 rfl ⟨_, rfl⟩ (RR.pc (b := 47) rfl ?_)
    refine r_getr hX dX7_check_47 fl_X7_46 (by first | rfl | assumption) rfl (RR.pc (b := 50) rfl ?_)
    refine r_iload_n (i := 0) hX dX7_check_50 rfl (RR.pc (b := 51) rfl ?_)
    refine r_callVie hX dX7_check_51 ml_X7_168 cd_X6_roomFor iv_X6_roomFor (c_X6_roomFor (w := 2) (m := m) (by decide) (by omega) hm (by rw [sr_eq, su_ne (by decide), su_ne (by decide)]; exact hW2.2.2.2.1)) (by decide) (by first | rfl | assumption) rfl rfl rfl rfl (Nat.le_of_ble_eq_true rfl) (RR.pc (b := 54) rfl ?_)
    rw [show (2 : Int32) = nI 2 from rfl]
    refine r_imul hX dX7_check_54 (RR.pc (b := 55) rfl ?_)
    rw [pk_mul, hD]
    refine r_istore_n hX dX7_check_55 (by decide) (RR.pc (b := 56) rfl ?_)
    refine r_iconst (v := 0) hX dX7_check_56 (by decide) (RR.pc (b := 57) rfl ?_)
    refine r_istore hX dX7_check_57 (by decide) (RR.pc (b := 59) rfl ?_)
    refine RR.cut (loop 0 (by omega) _ ?_ (hs0.sr (by simp)) ?_ (by omega) rfl) (List.forall_mem_cons.mpr ⟨rfl, List.forall_mem_cons.mpr ⟨rfl, List.forall_mem_cons.mpr ⟨rfl, List.forall_mem_cons.mpr ⟨rfl, fun _ h => absurd h List.not_mem_nil⟩⟩⟩⟩)
    · rw [sr_eq, su_ne (by decide), su_ne (by decide)]
      rfl
    · rw [sr_ne (by decide), su_eq]
  refine r_aload_n hX dX7_check_0 rfl ⟨_, rfl⟩ (RR.pc (b := 1) rfl ?_)
  refine r_geti hX dX7_check_1 fl_X7_310 (by first | rfl | assumption) rfl (RR.pc (b := 4) rfl ?_)
  rw [hk]
  refine r_istore_n hX dX7_check_4 (by decide) (RR.pc (b := 5) rfl ?_)
  refine r_aload_n hX dX7_check_5 rfl ⟨_, rfl⟩ (RR.pc (b := 6) rfl ?_)
  refine r_iconst (v := 0) hX dX7_check_6 (by decide) (RR.pc (b := 7) rfl ?_)
  refine r_puti hX dX7_check_7 fl_X7_310 (by first | rfl | assumption) rfl ft_7_10 (RR.pc (b := 10) rfl ?_)
  refine r_iload_n (i := 0) hX dX7_check_10 rfl (RR.pc (b := 11) rfl ?_)
  refine r_iconst (v := 1) hX dX7_check_11 (by decide) (RR.pc (b := 12) rfl ?_)
  refine r_bipush (v := 30) hX dX7_check_12 (by decide) (RR.pc (b := 14) rfl ?_)
  refine r_callSie hX dX7_check_14 ml_X7_71 cd_X7_within st_X7_within c_X7_within (by decide) rfl rfl (Nat.le_of_ble_eq_true rfl) (RR.pc (b := 17) rfl ?_)
  refine r_if_ne_b (tgt := 23) hX dX7_check_17 rfl (fun h17 => ?_) (fun h17 => RR.pc (b := 20) rfl ?_)
  · try simp only [Int32.reduceToInt] at h17
    refine r_aload_n hX dX7_check_23 rfl ⟨_, rfl⟩ (RR.pc (b := 24) rfl ?_)
    refine r_geti hX dX7_check_24 fl_X7_313 (by first | rfl | assumption) rfl (RR.pc (b := 27) rfl ?_)
    rw [su_eq, pk_un (by decide)]
    refine r_if_ne (tgt := 34) hX dX7_check_27 rfl (fun h27 => ?_) (fun h27 => RR.pc (b := 30) rfl ?_)
    · obtain ⟨c, hc, e⟩ := ix_of (n := 31) (k := q) ⟨by omega, by omega⟩ (by omega)
      exact RR.cut (go c hc e h27 h17) (List.forall_mem_cons.mpr ⟨rfl, List.forall_mem_cons.mpr ⟨rfl, List.forall_mem_cons.mpr ⟨rfl, fun _ h => absurd h List.not_mem_nil⟩⟩⟩)
    · refine r_ldcw hX dX7_check_30 kc_X7_309 (RR.pc (b := 33) rfl ?_)
      exact r_iret hX hZ dX7_check_33 ⟨_, rfl, ⟨hs0, su_eq, fun z => absurd h17 z, fun _ => ⟨fun _ => rfl, fun z => absurd h27 z⟩⟩⟩
  · try simp only [Int32.reduceToInt] at h17
    refine r_ldc hX dX7_check_20 kc_X7_75 (RR.pc (b := 22) rfl ?_)
    exact r_iret hX hZ dX7_check_22 ⟨_, rfl, ⟨hs0, su_eq, fun _ => rfl, fun z => absurd z h17⟩⟩
