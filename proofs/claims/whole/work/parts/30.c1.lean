/-! the class: helpers, mules -/
set_option maxHeartbeats 4000000 in
set_option maxRecDepth 100000 in
theorem c_X7_within {G : GM} {σ : SG} {v lo hi : Int32} : CI G yX7_within cX7_within 3 (some .boolean) 0 [.int v, .int lo, .int hi] σ (fun r s => r = bz (lo.toInt ≤ v.toInt ∧ v.toInt ≤ hi.toInt) ∧ s = σ) := by
  refine Con.of cd_X7_within (Nat.le_of_ble_eq_true rfl) ?_
  intro X hX hZ
  have hX : Fx X G RX7 cX7_within 3 0 := hX
  show RR X G 3 0 (ll [(0, .int v), (1, .int lo), (2, .int hi)]) [] σ
  refine r_iload_n (i := 0) hX dX7_within_0 rfl (RR.pc (b := 1) rfl ?_)
  refine r_iload_n (i := 0) hX dX7_within_1 rfl (RR.pc (b := 2) rfl ?_)
  refine r_icmp_gt (tgt := 14) hX dX7_within_2 rfl (fun h2 => ?_) (fun h2 => RR.pc (b := 5) rfl ?_)
  · refine r_iconst (v := 0) hX dX7_within_14 (by decide) (RR.pc (b := 15) rfl ?_)
    exact r_zret hX hZ dX7_within_15 (by first | rfl | exact nar_bz _) ⟨_, rfl, ⟨by clear hZ hX; simp only [Int32.lt_iff_toInt_lt] at *; unfold bz; split <;> first | rfl | omega, rfl⟩⟩
  · refine r_iload_n (i := 0) hX dX7_within_5 rfl (RR.pc (b := 6) rfl ?_)
    refine r_iload_n (i := 0) hX dX7_within_6 rfl (RR.pc (b := 7) rfl ?_)
    refine r_icmp_gt (tgt := 14) hX dX7_within_7 rfl (fun h7 => ?_) (fun h7 => RR.pc (b := 10) rfl ?_)
    · refine r_iconst (v := 0) hX dX7_within_14 (by decide) (RR.pc (b := 15) rfl ?_)
      exact r_zret hX hZ dX7_within_15 (by first | rfl | exact nar_bz _) ⟨_, rfl, ⟨by clear hZ hX; simp only [Int32.lt_iff_toInt_lt] at *; unfold bz; split <;> first | rfl | omega, rfl⟩⟩
    · refine r_iconst (v := 1) hX dX7_within_10 (by decide) (RR.pc (b := 11) rfl ?_)
      refine r_goto (tgt := 15) hX dX7_within_11 rfl ?_
      exact r_zret hX hZ dX7_within_15 (by first | rfl | exact nar_bz _) ⟨_, rfl, ⟨by clear hZ hX; simp only [Int32.lt_iff_toInt_lt] at *; unfold bz; split <;> first | rfl | omega, rfl⟩⟩
set_option maxHeartbeats 4000000 in
set_option maxRecDepth 100000 in
theorem c_X7_isKind {G : GM} {σ : SG} {k : Int32} : CI G yX7_isKind cX7_isKind 1 (some .boolean) 1 [.int k] σ (fun r s => r = bz (0 ≤ k.toInt ∧ k.toInt ≤ 5) ∧ s = σ) := by
  refine Con.of cd_X7_isKind (Nat.le_of_ble_eq_true rfl) ?_
  intro X hX hZ
  have hX : Fx X G RX7 cX7_isKind 1 1 := hX
  show RR X G 1 0 (ll [(0, .int k)]) [] σ
  refine r_iload_n (i := 0) hX dX7_isKind_0 rfl (RR.pc (b := 1) rfl ?_)
  refine r_iconst (v := 0) hX dX7_isKind_1 (by decide) (RR.pc (b := 2) rfl ?_)
  refine r_iconst (v := 5) hX dX7_isKind_2 (by decide) (RR.pc (b := 3) rfl ?_)
  refine r_callSie hX dX7_isKind_3 ml_X7_71 cd_X7_within st_X7_within c_X7_within (by decide) rfl rfl (Nat.le_of_ble_eq_true rfl) (RR.pc (b := 6) rfl ?_)
  exact r_zret hX hZ dX7_isKind_6 (by first | rfl | exact nar_bz _) ⟨_, rfl, ⟨bz_congr (by simp only [Int32.reduceToInt]), rfl⟩⟩
set_option maxHeartbeats 4000000 in
set_option maxRecDepth 100000 in
theorem c_X7_isYard {G : GM} {σ : SG} {k : Int32} : CI G yX7_isYard cX7_isYard 1 (some .boolean) 1 [.int k] σ (fun r s => r = bz (0 ≤ k.toInt ∧ k.toInt ≤ 59) ∧ s = σ) := by
  refine Con.of cd_X7_isYard (Nat.le_of_ble_eq_true rfl) ?_
  intro X hX hZ
  have hX : Fx X G RX7 cX7_isYard 1 1 := hX
  show RR X G 1 0 (ll [(0, .int k)]) [] σ
  refine r_iload_n (i := 0) hX dX7_isYard_0 rfl (RR.pc (b := 1) rfl ?_)
  refine r_iconst (v := 0) hX dX7_isYard_1 (by decide) (RR.pc (b := 2) rfl ?_)
  refine r_bipush (v := 59) hX dX7_isYard_2 (by decide) (RR.pc (b := 4) rfl ?_)
  refine r_callSie hX dX7_isYard_4 ml_X7_71 cd_X7_within st_X7_within c_X7_within (by decide) rfl rfl (Nat.le_of_ble_eq_true rfl) (RR.pc (b := 7) rfl ?_)
  exact r_zret hX hZ dX7_isYard_7 (by first | rfl | exact nar_bz _) ⟨_, rfl, ⟨bz_congr (by simp only [Int32.reduceToInt]), rfl⟩⟩
set_option maxHeartbeats 4000000 in
set_option maxRecDepth 100000 in
theorem c_X7_isSheet {G : GM} {σ : SG} {k : Int32} : CI G yX7_isSheet cX7_isSheet 1 (some .boolean) 1 [.int k] σ (fun r s => r = bz (0 ≤ k.toInt ∧ k.toInt ≤ 3) ∧ s = σ) := by
  refine Con.of cd_X7_isSheet (Nat.le_of_ble_eq_true rfl) ?_
  intro X hX hZ
  have hX : Fx X G RX7 cX7_isSheet 1 1 := hX
  show RR X G 1 0 (ll [(0, .int k)]) [] σ
  refine r_iload_n (i := 0) hX dX7_isSheet_0 rfl (RR.pc (b := 1) rfl ?_)
  refine r_iconst (v := 0) hX dX7_isSheet_1 (by decide) (RR.pc (b := 2) rfl ?_)
  refine r_iconst (v := 3) hX dX7_isSheet_2 (by decide) (RR.pc (b := 3) rfl ?_)
  refine r_callSie hX dX7_isSheet_3 ml_X7_71 cd_X7_within st_X7_within c_X7_within (by decide) rfl rfl (Nat.le_of_ble_eq_true rfl) (RR.pc (b := 6) rfl ?_)
  exact r_zret hX hZ dX7_isSheet_6 (by first | rfl | exact nar_bz _) ⟨_, rfl, ⟨bz_congr (by simp only [Int32.reduceToInt]), rfl⟩⟩
set_option maxHeartbeats 4000000 in
set_option maxRecDepth 100000 in
theorem c_X7_isSlot {G : GM} {σ : SG} {k : Int32} : CI G yX7_isSlot cX7_isSlot 1 (some .boolean) 1 [.int k] σ (fun r s => r = bz (0 ≤ k.toInt ∧ k.toInt ≤ 4) ∧ s = σ) := by
  refine Con.of cd_X7_isSlot (Nat.le_of_ble_eq_true rfl) ?_
  intro X hX hZ
  have hX : Fx X G RX7 cX7_isSlot 1 1 := hX
  show RR X G 1 0 (ll [(0, .int k)]) [] σ
  refine r_iload_n (i := 0) hX dX7_isSlot_0 rfl (RR.pc (b := 1) rfl ?_)
  refine r_iconst (v := 0) hX dX7_isSlot_1 (by decide) (RR.pc (b := 2) rfl ?_)
  refine r_iconst (v := 4) hX dX7_isSlot_2 (by decide) (RR.pc (b := 3) rfl ?_)
  refine r_callSie hX dX7_isSlot_3 ml_X7_71 cd_X7_within st_X7_within c_X7_within (by decide) rfl rfl (Nat.le_of_ble_eq_true rfl) (RR.pc (b := 6) rfl ?_)
  exact r_zret hX hZ dX7_isSlot_6 (by first | rfl | exact nar_bz _) ⟨_, rfl, ⟨bz_congr (by simp only [Int32.reduceToInt]), rfl⟩⟩
theorem held_eq {v lo hi : Int32} (h : lo ≤ hi) : (if lo < (if hi < v then hi else v) then (if hi < v then hi else v) else lo) = (if v < lo then lo else if hi < v then hi else v) := by
  simp only [Int32.lt_iff_toInt_lt, Int32.le_iff_toInt_le] at *
  by_cases h1 : hi.toInt < v.toInt
  · rw [if_pos h1]
    by_cases h2 : lo.toInt < hi.toInt
    · rw [if_pos h2, if_neg (by omega)]
    · rw [if_neg h2, if_neg (by omega)]
      exact Int32.toInt_inj.mp (by omega)
  · rw [if_neg h1]
    by_cases h2 : lo.toInt < v.toInt
    · rw [if_pos h2, if_neg (by omega)]
    · rw [if_neg h2]
      by_cases h3 : v.toInt < lo.toInt
      · rw [if_pos h3]
      · rw [if_neg h3]
        exact Int32.toInt_inj.mp (by omega)
set_option maxHeartbeats 4000000 in
set_option maxRecDepth 100000 in
theorem c_X7_held {G : GM} {σ : SG} {v lo hi : Int32} (h : lo ≤ hi) : CI G yX7_held cX7_held 3 (some .int) 1 [.int v, .int lo, .int hi] σ (fun r s => r = (if v < lo then lo else if hi < v then hi else v) ∧ s = σ) := by
  refine Con.of cd_X7_held (Nat.le_of_ble_eq_true rfl) ?_
  intro X hX hZ
  have hX : Fx X G RX7 cX7_held 3 1 := hX
  show RR X G 3 0 (ll [(0, .int v), (1, .int lo), (2, .int hi)]) [] σ
  refine r_iload_n (i := 0) hX dX7_held_0 rfl (RR.pc (b := 1) rfl ?_)
  refine r_iload_n (i := 0) hX dX7_held_1 rfl (RR.pc (b := 2) rfl ?_)
  refine r_iload_n (i := 0) hX dX7_held_2 rfl (RR.pc (b := 3) rfl ?_)
  refine r_min hX (by decide) dX7_held_3 ml_X7_153 (Nat.le_of_ble_eq_true rfl) (RR.pc (b := 6) rfl ?_)
  refine r_max hX (by decide) dX7_held_6 ml_X7_320 (Nat.le_of_ble_eq_true rfl) (RR.pc (b := 9) rfl ?_)
  exact r_iret hX hZ dX7_held_9 ⟨_, rfl, ⟨held_eq h, rfl⟩⟩
/-- where the cells of a world and its mules lie -/
abbrev lyM (r o : Nat) : LC := lO 0 [fI r o, fI r (o + 1), fI r (o + 2), fI r (o + 3), fI r (o + 4)]
theorem layW {w : Nat} (hw : w < 3) : lay (36 + 14 * w) = lO 6 [fR 1, fR (37 + 14 * w), fR (46 + 14 * w), fR (47 + 14 * w), fR (48 + 14 * w), fR (49 + 14 * w), fI w 0, fI w 3, fI w 4, fI w 5, fI w 2, fI w 6, fI w 1] ∧ lay (37 + 14 * w) = lR 1 8 (fun i => 38 + 14 * w + i) ∧ lay (46 + 14 * w) = lI 60 w 11 ∧ lay (47 + 14 * w) = lI 60 w 71 ∧ lay (48 + 14 * w) = lI 4 w 7 ∧ lay (49 + 14 * w) = lI 3 w 171 := by
  rcases (show w = 0 ∨ w = 1 ∨ w = 2 by omega) with rfl | rfl | rfl <;> exact ⟨rfl, rfl, rfl, rfl, rfl, rfl⟩
theorem layM {w i : Nat} (hw : w < 3) (hi : i < 8) : lay (38 + 14 * w + i) = lyM w (131 + 5 * i) := by
  rcases (show w = 0 ∨ w = 1 ∨ w = 2 by omega) with rfl | rfl | rfl <;> rcases (show i = 0 ∨ i = 1 ∨ i = 2 ∨ i = 3 ∨ i = 4 ∨ i = 5 ∨ i = 6 ∨ i = 7 by omega) with rfl | rfl | rfl | rfl | rfl | rfl | rfl | rfl <;> rfl
theorem layS {i : Nat} (hi : i < 5) : lay (89 + 4 * i) = lyM 8 (64 * i + 2) := by
  rcases (show i = 0 ∨ i = 1 ∨ i = 2 ∨ i = 3 ∨ i = 4 by omega) with rfl | rfl | rfl | rfl | rfl <;> rfl
theorem goC : ∀ p, p < 10 → (if (0 : Int32) < nI p - 1 then nI p - 1 else 0) = (if nI p ≤ 0 then (0 : Int32) else nI p - 1) := by decide +kernel
set_option maxHeartbeats 4000000 in
set_option maxRecDepth 100000 in
theorem c_X0_goes {G : GM} {σ : SG} {k r o p : Nat} (hl : lay k = lyM r o) (hp : p ≤ 9) (ep : σ r (o + 1) = nI p) : CI G yX0_goes cX0_goes 1 (some .int) 1 [rf G k] σ (fun x s => x = goK (σ r o) (nI p) ∧ s = σ) := by
  refine Con.of cd_X0_goes (Nat.le_of_ble_eq_true rfl) ?_
  intro X hX hZ
  have hX : Fx X G RX0 cX0_goes 1 1 := hX
  show RR X G 1 0 (ll [(0, rf G k)]) [] σ
  refine r_aload_n hX dX0_goes_0 rfl ⟨_, rfl⟩ (RR.pc (b := 1) rfl ?_)
  refine r_geti hX dX0_goes_1 fl_X0_9 (by first | rfl | assumption) rfl (RR.pc (b := 4) rfl ?_)
  by_cases h4_2 : σ r o = 2
  · refine r_tableIn (tgt := 39) hX dX0_goes_4 (by rw [h4_2]; decide) (by rw [h4_2]; decide) (by rw [h4_2]; rfl) rfl ?_
    refine r_iconst (v := 0) hX dX0_goes_39 (by decide) (RR.pc (b := 40) rfl ?_)
    refine r_aload_n hX dX0_goes_40 rfl ⟨_, rfl⟩ (RR.pc (b := 41) rfl ?_)
    refine r_geti hX dX0_goes_41 fl_X0_15 (by first | rfl | assumption) rfl (RR.pc (b := 44) rfl ?_)
    rw [ep]
    refine r_iconst (v := 1) hX dX0_goes_44 (by decide) (RR.pc (b := 45) rfl ?_)
    refine r_isub hX dX0_goes_45 (RR.pc (b := 46) rfl ?_)
    refine r_max hX (by decide) dX0_goes_46 ml_X0_35 (Nat.le_of_ble_eq_true rfl) (RR.pc (b := 49) rfl ?_)
    exact r_iret hX hZ dX0_goes_49 ⟨_, rfl, ⟨by unfold goK; first | (rw [if_pos h4_2]; exact goC p (by omega)) | (rw [if_neg h4_2, if_pos h4_3]) | (rw [if_neg h4_2, if_neg h4_3, if_pos h4_4, ← goC p (by omega)]) | (rw [if_neg h4_2, if_neg h4_3, if_neg h4_4]), rfl⟩⟩
  by_cases h4_3 : σ r o = 3
  · refine r_tableIn (tgt := 32) hX dX0_goes_4 (by rw [h4_3]; decide) (by rw [h4_3]; decide) (by rw [h4_3]; rfl) rfl ?_
    refine r_aload_n hX dX0_goes_32 rfl ⟨_, rfl⟩ (RR.pc (b := 33) rfl ?_)
    refine r_geti hX dX0_goes_33 fl_X0_15 (by first | rfl | assumption) rfl (RR.pc (b := 36) rfl ?_)
    rw [ep]
    refine r_iconst (v := 1) hX dX0_goes_36 (by decide) (RR.pc (b := 37) rfl ?_)
    refine r_iadd hX dX0_goes_37 (RR.pc (b := 38) rfl ?_)
    exact r_iret hX hZ dX0_goes_38 ⟨_, rfl, ⟨by unfold goK; first | (rw [if_pos h4_2]; exact goC p (by omega)) | (rw [if_neg h4_2, if_pos h4_3]) | (rw [if_neg h4_2, if_neg h4_3, if_pos h4_4, ← goC p (by omega)]) | (rw [if_neg h4_2, if_neg h4_3, if_neg h4_4]), rfl⟩⟩
  by_cases h4_4 : σ r o = 4
  · refine r_tableIn (tgt := 50) hX dX0_goes_4 (by rw [h4_4]; decide) (by rw [h4_4]; decide) (by rw [h4_4]; rfl) rfl ?_
    refine r_iconst (v := 0) hX dX0_goes_50 (by decide) (RR.pc (b := 51) rfl ?_)
    refine r_aload_n hX dX0_goes_51 rfl ⟨_, rfl⟩ (RR.pc (b := 52) rfl ?_)
    refine r_geti hX dX0_goes_52 fl_X0_15 (by first | rfl | assumption) rfl (RR.pc (b := 55) rfl ?_)
    rw [ep]
    refine r_iconst (v := 1) hX dX0_goes_55 (by decide) (RR.pc (b := 56) rfl ?_)
    refine r_isub hX dX0_goes_56 (RR.pc (b := 57) rfl ?_)
    refine r_max hX (by decide) dX0_goes_57 ml_X0_35 (Nat.le_of_ble_eq_true rfl) (RR.pc (b := 60) rfl ?_)
    refine r_iconst (v := 2) hX dX0_goes_60 (by decide) (RR.pc (b := 61) rfl ?_)
    refine r_idiv hX dX0_goes_61 (by decide) (RR.pc (b := 62) rfl ?_)
    exact r_iret hX hZ dX0_goes_62 ⟨_, rfl, ⟨by unfold goK; first | (rw [if_pos h4_2]; exact goC p (by omega)) | (rw [if_neg h4_2, if_pos h4_3]) | (rw [if_neg h4_2, if_neg h4_3, if_pos h4_4, ← goC p (by omega)]) | (rw [if_neg h4_2, if_neg h4_3, if_neg h4_4]), rfl⟩⟩
  refine r_tableOut (tgt := 63) hX dX0_goes_4 (by have n0 : (σ r o).toInt ≠ 2 := ne_toInt h4_2; have n1 : (σ r o).toInt ≠ 3 := ne_toInt h4_3; have n2 : (σ r o).toInt ≠ 4 := ne_toInt h4_4; omega) rfl ?_
  refine r_aload_n hX dX0_goes_63 rfl ⟨_, rfl⟩ (RR.pc (b := 64) rfl ?_)
  refine r_geti hX dX0_goes_64 fl_X0_15 (by first | rfl | assumption) rfl (RR.pc (b := 67) rfl ?_)
  rw [ep]
  exact r_iret hX hZ dX0_goes_67 ⟨_, rfl, ⟨by unfold goK; first | (rw [if_pos h4_2]; exact goC p (by omega)) | (rw [if_neg h4_2, if_pos h4_3]) | (rw [if_neg h4_2, if_neg h4_3, if_pos h4_4, ← goC p (by omega)]) | (rw [if_neg h4_2, if_neg h4_3, if_neg h4_4]), rfl⟩⟩
theorem lkC : ∀ v, v < 1000 → (if (0 : Int32) < nI v / 2 - 2 then nI v / 2 - 2 else 0) = (if (2 : Int32) ≤ nI v / 2 then nI v / 2 - 2 else 0) ∧ (if (0 : Int32) < 2 * nI v - 5 then 2 * nI v - 5 else 0) = (if (5 : Int32) ≤ 2 * nI v then 2 * nI v - 5 else 0) := by decide +kernel
set_option maxHeartbeats 4000000 in
set_option maxRecDepth 100000 in
theorem c_X0_leaks {G : GM} {σ : SG} {k r o v : Nat} (hl : lay k = lyM r o) (hv : v ≤ 999) : CI G yX0_leaks cX0_leaks 2 (some .int) 1 [rf G k, .int (nI v)] σ (fun x s => x = lkK (σ r o) (nI v) ∧ s = σ) := by
  refine Con.of cd_X0_leaks (Nat.le_of_ble_eq_true rfl) ?_
  intro X hX hZ
  have hX : Fx X G RX0 cX0_leaks 2 1 := hX
  show RR X G 2 0 (ll [(0, rf G k), (1, .int (nI v))]) [] σ
  refine r_aload_n hX dX0_leaks_0 rfl ⟨_, rfl⟩ (RR.pc (b := 1) rfl ?_)
  refine r_geti hX dX0_leaks_1 fl_X0_9 (by first | rfl | assumption) rfl (RR.pc (b := 4) rfl ?_)
  by_cases h4_1 : σ r o = 1
  · refine r_tableIn (tgt := 40) hX dX0_leaks_4 (by rw [h4_1]; decide) (by rw [h4_1]; decide) (by rw [h4_1]; rfl) rfl ?_
    refine r_iload_n (i := 0) hX dX0_leaks_40 rfl (RR.pc (b := 41) rfl ?_)
    refine r_iconst (v := 2) hX dX0_leaks_41 (by decide) (RR.pc (b := 42) rfl ?_)
    refine r_idiv hX dX0_leaks_42 (by decide) (RR.pc (b := 43) rfl ?_)
    exact r_iret hX hZ dX0_leaks_43 ⟨_, rfl, ⟨by unfold lkK; first | (rw [if_pos h4_1]) | (rw [if_neg h4_1, if_pos h4_2]) | (rw [if_neg h4_1, if_neg h4_2, if_pos h4_3]; exact (lkC v (by omega)).1) | (rw [if_neg h4_1, if_neg h4_2, if_neg h4_3, if_pos h4_4]; exact (lkC v (by omega)).2) | (rw [if_neg h4_1, if_neg h4_2, if_neg h4_3, if_neg h4_4, if_pos h4_5]) | (rw [if_neg h4_1, if_neg h4_2, if_neg h4_3, if_neg h4_4, if_neg h4_5]), rfl⟩⟩
  by_cases h4_2 : σ r o = 2
  · refine r_tableIn (tgt := 54) hX dX0_leaks_4 (by rw [h4_2]; decide) (by rw [h4_2]; decide) (by rw [h4_2]; rfl) rfl ?_
    refine r_iconst (v := 2) hX dX0_leaks_54 (by decide) (RR.pc (b := 55) rfl ?_)
    refine r_iload_n (i := 0) hX dX0_leaks_55 rfl (RR.pc (b := 56) rfl ?_)
    refine r_imul hX dX0_leaks_56 (RR.pc (b := 57) rfl ?_)
    exact r_iret hX hZ dX0_leaks_57 ⟨_, rfl, ⟨by unfold lkK; first | (rw [if_pos h4_1]) | (rw [if_neg h4_1, if_pos h4_2]) | (rw [if_neg h4_1, if_neg h4_2, if_pos h4_3]; exact (lkC v (by omega)).1) | (rw [if_neg h4_1, if_neg h4_2, if_neg h4_3, if_pos h4_4]; exact (lkC v (by omega)).2) | (rw [if_neg h4_1, if_neg h4_2, if_neg h4_3, if_neg h4_4, if_pos h4_5]) | (rw [if_neg h4_1, if_neg h4_2, if_neg h4_3, if_neg h4_4, if_neg h4_5]), rfl⟩⟩
  by_cases h4_3 : σ r o = 3
  · refine r_tableIn (tgt := 44) hX dX0_leaks_4 (by rw [h4_3]; decide) (by rw [h4_3]; decide) (by rw [h4_3]; rfl) rfl ?_
    refine r_iconst (v := 0) hX dX0_leaks_44 (by decide) (RR.pc (b := 45) rfl ?_)
    refine r_iload_n (i := 0) hX dX0_leaks_45 rfl (RR.pc (b := 46) rfl ?_)
    refine r_iconst (v := 2) hX dX0_leaks_46 (by decide) (RR.pc (b := 47) rfl ?_)
    refine r_idiv hX dX0_leaks_47 (by decide) (RR.pc (b := 48) rfl ?_)
    refine r_iconst (v := 2) hX dX0_leaks_48 (by decide) (RR.pc (b := 49) rfl ?_)
    refine r_isub hX dX0_leaks_49 (RR.pc (b := 50) rfl ?_)
    refine r_max hX (by decide) dX0_leaks_50 ml_X0_35 (Nat.le_of_ble_eq_true rfl) (RR.pc (b := 53) rfl ?_)
    exact r_iret hX hZ dX0_leaks_53 ⟨_, rfl, ⟨by unfold lkK; first | (rw [if_pos h4_1]) | (rw [if_neg h4_1, if_pos h4_2]) | (rw [if_neg h4_1, if_neg h4_2, if_pos h4_3]; exact (lkC v (by omega)).1) | (rw [if_neg h4_1, if_neg h4_2, if_neg h4_3, if_pos h4_4]; exact (lkC v (by omega)).2) | (rw [if_neg h4_1, if_neg h4_2, if_neg h4_3, if_neg h4_4, if_pos h4_5]) | (rw [if_neg h4_1, if_neg h4_2, if_neg h4_3, if_neg h4_4, if_neg h4_5]), rfl⟩⟩
  by_cases h4_4 : σ r o = 4
  · refine r_tableIn (tgt := 58) hX dX0_leaks_4 (by rw [h4_4]; decide) (by rw [h4_4]; decide) (by rw [h4_4]; rfl) rfl ?_
    refine r_iconst (v := 0) hX dX0_leaks_58 (by decide) (RR.pc (b := 59) rfl ?_)
    refine r_iconst (v := 2) hX dX0_leaks_59 (by decide) (RR.pc (b := 60) rfl ?_)
    refine r_iload_n (i := 0) hX dX0_leaks_60 rfl (RR.pc (b := 61) rfl ?_)
    refine r_imul hX dX0_leaks_61 (RR.pc (b := 62) rfl ?_)
    refine r_iconst (v := 5) hX dX0_leaks_62 (by decide) (RR.pc (b := 63) rfl ?_)
    refine r_isub hX dX0_leaks_63 (RR.pc (b := 64) rfl ?_)
    refine r_max hX (by decide) dX0_leaks_64 ml_X0_35 (Nat.le_of_ble_eq_true rfl) (RR.pc (b := 67) rfl ?_)
    exact r_iret hX hZ dX0_leaks_67 ⟨_, rfl, ⟨by unfold lkK; first | (rw [if_pos h4_1]) | (rw [if_neg h4_1, if_pos h4_2]) | (rw [if_neg h4_1, if_neg h4_2, if_pos h4_3]; exact (lkC v (by omega)).1) | (rw [if_neg h4_1, if_neg h4_2, if_neg h4_3, if_pos h4_4]; exact (lkC v (by omega)).2) | (rw [if_neg h4_1, if_neg h4_2, if_neg h4_3, if_neg h4_4, if_pos h4_5]) | (rw [if_neg h4_1, if_neg h4_2, if_neg h4_3, if_neg h4_4, if_neg h4_5]), rfl⟩⟩
  by_cases h4_5 : σ r o = 5
  · refine r_tableIn (tgt := 68) hX dX0_leaks_4 (by rw [h4_5]; decide) (by rw [h4_5]; decide) (by rw [h4_5]; rfl) rfl ?_
    refine r_iload_n (i := 0) hX dX0_leaks_68 rfl (RR.pc (b := 69) rfl ?_)
    refine r_iconst (v := 1) hX dX0_leaks_69 (by decide) (RR.pc (b := 70) rfl ?_)
    refine r_iadd hX dX0_leaks_70 (RR.pc (b := 71) rfl ?_)
    exact r_iret hX hZ dX0_leaks_71 ⟨_, rfl, ⟨by unfold lkK; first | (rw [if_pos h4_1]) | (rw [if_neg h4_1, if_pos h4_2]) | (rw [if_neg h4_1, if_neg h4_2, if_pos h4_3]; exact (lkC v (by omega)).1) | (rw [if_neg h4_1, if_neg h4_2, if_neg h4_3, if_pos h4_4]; exact (lkC v (by omega)).2) | (rw [if_neg h4_1, if_neg h4_2, if_neg h4_3, if_neg h4_4, if_pos h4_5]) | (rw [if_neg h4_1, if_neg h4_2, if_neg h4_3, if_neg h4_4, if_neg h4_5]), rfl⟩⟩
  refine r_tableOut (tgt := 72) hX dX0_leaks_4 (by have n0 : (σ r o).toInt ≠ 1 := ne_toInt h4_1; have n1 : (σ r o).toInt ≠ 2 := ne_toInt h4_2; have n2 : (σ r o).toInt ≠ 3 := ne_toInt h4_3; have n3 : (σ r o).toInt ≠ 4 := ne_toInt h4_4; have n4 : (σ r o).toInt ≠ 5 := ne_toInt h4_5; omega) rfl ?_
  refine r_iload_n (i := 0) hX dX0_leaks_72 rfl (RR.pc (b := 73) rfl ?_)
  exact r_iret hX hZ dX0_leaks_73 ⟨_, rfl, ⟨by unfold lkK; first | (rw [if_pos h4_1]) | (rw [if_neg h4_1, if_pos h4_2]) | (rw [if_neg h4_1, if_neg h4_2, if_pos h4_3]; exact (lkC v (by omega)).1) | (rw [if_neg h4_1, if_neg h4_2, if_neg h4_3, if_pos h4_4]; exact (lkC v (by omega)).2) | (rw [if_neg h4_1, if_neg h4_2, if_neg h4_3, if_neg h4_4, if_pos h4_5]) | (rw [if_neg h4_1, if_neg h4_2, if_neg h4_3, if_neg h4_4, if_neg h4_5]), rfl⟩⟩
theorem woC (x : Int32) : (99 : Int32) - x - 8 = 91 - x := by
  rw [show (99 : Int32) - x - 8 = (99 - 8) - x from by rw [Int32.sub_eq_add_neg, Int32.sub_eq_add_neg, Int32.sub_eq_add_neg, Int32.add_assoc, Int32.add_comm (-x), ← Int32.add_assoc]; rfl]
  rfl
set_option maxHeartbeats 4000000 in
set_option maxRecDepth 100000 in
theorem c_X0_worth {G : GM} {σ : SG} {k r o : Nat} (hl : lay k = lyM r o) : CI G yX0_worth cX0_worth 2 (some .int) 0 [rf G k] σ (fun x s => x = woK (σ r o) (σ r (o + 1)) ∧ s = σ) := by
  refine Con.of cd_X0_worth (Nat.le_of_ble_eq_true rfl) ?_
  intro X hX hZ
  have hX : Fx X G RX0 cX0_worth 2 0 := hX
  show RR X G 2 0 (ll [(0, rf G k)]) [] σ
  refine r_bipush (v := 9) hX dX0_worth_0 (by decide) (RR.pc (b := 2) rfl ?_)
  refine r_aload_n hX dX0_worth_2 rfl ⟨_, rfl⟩ (RR.pc (b := 3) rfl ?_)
  refine r_geti hX dX0_worth_3 fl_X0_15 (by first | rfl | assumption) rfl (RR.pc (b := 6) rfl ?_)
  refine r_imul hX dX0_worth_6 (RR.pc (b := 7) rfl ?_)
  refine r_istore_n hX dX0_worth_7 (by decide) (RR.pc (b := 8) rfl ?_)
  refine r_aload_n hX dX0_worth_8 rfl ⟨_, rfl⟩ (RR.pc (b := 9) rfl ?_)
  refine r_geti hX dX0_worth_9 fl_X0_9 (by first | rfl | assumption) rfl (RR.pc (b := 12) rfl ?_)
  by_cases h12_1 : σ r o = 1
  · refine r_tableIn (tgt := 48) hX dX0_worth_12 (by rw [h12_1]; decide) (by rw [h12_1]; decide) (by rw [h12_1]; rfl) rfl ?_
    refine r_iload_n (i := 0) hX dX0_worth_48 rfl (RR.pc (b := 49) rfl ?_)
    refine r_bipush (v := 6) hX dX0_worth_49 (by decide) (RR.pc (b := 51) rfl ?_)
    refine r_iadd hX dX0_worth_51 (RR.pc (b := 52) rfl ?_)
    exact r_iret hX hZ dX0_worth_52 ⟨_, rfl, ⟨by unfold woK; first | (rw [if_pos h12_1]) | (rw [if_neg h12_1, if_pos h12_2]) | (rw [if_neg h12_1, if_neg h12_2, if_pos h12_3]) | (rw [if_neg h12_1, if_neg h12_2, if_neg h12_3, if_pos h12_4]; exact woC _) | (rw [if_neg h12_1, if_neg h12_2, if_neg h12_3, if_neg h12_4, if_pos h12_5]) | (rw [if_neg h12_1, if_neg h12_2, if_neg h12_3, if_neg h12_4, if_neg h12_5]), rfl⟩⟩
  by_cases h12_2 : σ r o = 2
  · refine r_tableIn (tgt := 60) hX dX0_worth_12 (by rw [h12_2]; decide) (by rw [h12_2]; decide) (by rw [h12_2]; rfl) rfl ?_
    refine r_bipush (v := 99) hX dX0_worth_60 (by decide) (RR.pc (b := 62) rfl ?_)
    refine r_iload_n (i := 0) hX dX0_worth_62 rfl (RR.pc (b := 63) rfl ?_)
    refine r_isub hX dX0_worth_63 (RR.pc (b := 64) rfl ?_)
    exact r_iret hX hZ dX0_worth_64 ⟨_, rfl, ⟨by unfold woK; first | (rw [if_pos h12_1]) | (rw [if_neg h12_1, if_pos h12_2]) | (rw [if_neg h12_1, if_neg h12_2, if_pos h12_3]) | (rw [if_neg h12_1, if_neg h12_2, if_neg h12_3, if_pos h12_4]; exact woC _) | (rw [if_neg h12_1, if_neg h12_2, if_neg h12_3, if_neg h12_4, if_pos h12_5]) | (rw [if_neg h12_1, if_neg h12_2, if_neg h12_3, if_neg h12_4, if_neg h12_5]), rfl⟩⟩
  by_cases h12_3 : σ r o = 3
  · refine r_tableIn (tgt := 53) hX dX0_worth_12 (by rw [h12_3]; decide) (by rw [h12_3]; decide) (by rw [h12_3]; rfl) rfl ?_
    refine r_iconst (v := 2) hX dX0_worth_53 (by decide) (RR.pc (b := 54) rfl ?_)
    refine r_iload_n (i := 0) hX dX0_worth_54 rfl (RR.pc (b := 55) rfl ?_)
    refine r_bipush (v := 6) hX dX0_worth_55 (by decide) (RR.pc (b := 57) rfl ?_)
    refine r_iadd hX dX0_worth_57 (RR.pc (b := 58) rfl ?_)
    refine r_imul hX dX0_worth_58 (RR.pc (b := 59) rfl ?_)
    exact r_iret hX hZ dX0_worth_59 ⟨_, rfl, ⟨by unfold woK; first | (rw [if_pos h12_1]) | (rw [if_neg h12_1, if_pos h12_2]) | (rw [if_neg h12_1, if_neg h12_2, if_pos h12_3]) | (rw [if_neg h12_1, if_neg h12_2, if_neg h12_3, if_pos h12_4]; exact woC _) | (rw [if_neg h12_1, if_neg h12_2, if_neg h12_3, if_neg h12_4, if_pos h12_5]) | (rw [if_neg h12_1, if_neg h12_2, if_neg h12_3, if_neg h12_4, if_neg h12_5]), rfl⟩⟩
  by_cases h12_4 : σ r o = 4
  · refine r_tableIn (tgt := 65) hX dX0_worth_12 (by rw [h12_4]; decide) (by rw [h12_4]; decide) (by rw [h12_4]; rfl) rfl ?_
    refine r_bipush (v := 99) hX dX0_worth_65 (by decide) (RR.pc (b := 67) rfl ?_)
    refine r_iload_n (i := 0) hX dX0_worth_67 rfl (RR.pc (b := 68) rfl ?_)
    refine r_isub hX dX0_worth_68 (RR.pc (b := 69) rfl ?_)
    refine r_bipush (v := 8) hX dX0_worth_69 (by decide) (RR.pc (b := 71) rfl ?_)
    refine r_isub hX dX0_worth_71 (RR.pc (b := 72) rfl ?_)
    exact r_iret hX hZ dX0_worth_72 ⟨_, rfl, ⟨by unfold woK; first | (rw [if_pos h12_1]) | (rw [if_neg h12_1, if_pos h12_2]) | (rw [if_neg h12_1, if_neg h12_2, if_pos h12_3]) | (rw [if_neg h12_1, if_neg h12_2, if_neg h12_3, if_pos h12_4]; exact woC _) | (rw [if_neg h12_1, if_neg h12_2, if_neg h12_3, if_neg h12_4, if_pos h12_5]) | (rw [if_neg h12_1, if_neg h12_2, if_neg h12_3, if_neg h12_4, if_neg h12_5]), rfl⟩⟩
  by_cases h12_5 : σ r o = 5
  · refine r_tableIn (tgt := 73) hX dX0_worth_12 (by rw [h12_5]; decide) (by rw [h12_5]; decide) (by rw [h12_5]; rfl) rfl ?_
    refine r_iconst (v := 4) hX dX0_worth_73 (by decide) (RR.pc (b := 74) rfl ?_)
    exact r_iret hX hZ dX0_worth_74 ⟨_, rfl, ⟨by unfold woK; first | (rw [if_pos h12_1]) | (rw [if_neg h12_1, if_pos h12_2]) | (rw [if_neg h12_1, if_neg h12_2, if_pos h12_3]) | (rw [if_neg h12_1, if_neg h12_2, if_neg h12_3, if_pos h12_4]; exact woC _) | (rw [if_neg h12_1, if_neg h12_2, if_neg h12_3, if_neg h12_4, if_pos h12_5]) | (rw [if_neg h12_1, if_neg h12_2, if_neg h12_3, if_neg h12_4, if_neg h12_5]), rfl⟩⟩
  refine r_tableOut (tgt := 75) hX dX0_worth_12 (by have n0 : (σ r o).toInt ≠ 1 := ne_toInt h12_1; have n1 : (σ r o).toInt ≠ 2 := ne_toInt h12_2; have n2 : (σ r o).toInt ≠ 3 := ne_toInt h12_3; have n3 : (σ r o).toInt ≠ 4 := ne_toInt h12_4; have n4 : (σ r o).toInt ≠ 5 := ne_toInt h12_5; omega) rfl ?_
  refine r_iload_n (i := 0) hX dX0_worth_75 rfl (RR.pc (b := 76) rfl ?_)
  exact r_iret hX hZ dX0_worth_76 ⟨_, rfl, ⟨by unfold woK; first | (rw [if_pos h12_1]) | (rw [if_neg h12_1, if_pos h12_2]) | (rw [if_neg h12_1, if_neg h12_2, if_pos h12_3]) | (rw [if_neg h12_1, if_neg h12_2, if_neg h12_3, if_pos h12_4]; exact woC _) | (rw [if_neg h12_1, if_neg h12_2, if_neg h12_3, if_neg h12_4, if_pos h12_5]) | (rw [if_neg h12_1, if_neg h12_2, if_neg h12_3, if_neg h12_4, if_neg h12_5]), rfl⟩⟩
