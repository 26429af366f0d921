/-! the reference: small methods -/
set_option maxHeartbeats 4000000 in
set_option maxRecDepth 100000 in
theorem c_X8_isIn {G : GM} {σ : SG} {v lo hi : Int64} : CI G yX8_isIn cX8_isIn 6 (some .boolean) 0 [.long v, .long lo, .long hi] σ (fun r s => r = bz (lo.toInt ≤ v.toInt ∧ v.toInt ≤ hi.toInt) ∧ s = σ) := by
  refine Con.of cd_X8_isIn (Nat.le_of_ble_eq_true rfl) ?_
  intro X hX hZ
  have hX : Fx X G RX8 cX8_isIn 6 0 := hX
  show RR X G 6 0 (ll [(0, .long v), (2, .long lo), (4, .long hi)]) [] σ
  refine r_lload_n hX dX8_isIn_0 rfl (RR.pc (b := 1) rfl ?_)
  refine r_lload_n hX dX8_isIn_1 rfl (RR.pc (b := 2) rfl ?_)
  refine r_lcmp hX dX8_isIn_2 (RR.pc (b := 3) rfl ?_)
  refine r_if_lt (tgt := 17) hX dX8_isIn_3 rfl (fun h3 => ?_) (fun h3 => RR.pc (b := 6) rfl ?_)
  · refine r_iconst (v := 0) hX dX8_isIn_17 (by decide) (RR.pc (b := 18) rfl ?_)
    exact r_zret hX hZ dX8_isIn_18 (by first | rfl | exact nar_bz _) ⟨_, rfl, ⟨by clear hZ hX; simp only [lg_cmp_lt, lg_cmp_ge, lg_cmp_gt, lg_cmp_le, Int64.lt_iff_toInt_lt, Int64.le_iff_toInt_le] at *; unfold bz; split <;> first | rfl | omega, rfl⟩⟩
  · refine r_lload_n hX dX8_isIn_6 rfl (RR.pc (b := 7) rfl ?_)
    refine r_lload hX dX8_isIn_7 rfl (RR.pc (b := 9) rfl ?_)
    refine r_lcmp hX dX8_isIn_9 (RR.pc (b := 10) rfl ?_)
    refine r_if_gt (tgt := 17) hX dX8_isIn_10 rfl (fun h10 => ?_) (fun h10 => RR.pc (b := 13) rfl ?_)
    · refine r_iconst (v := 0) hX dX8_isIn_17 (by decide) (RR.pc (b := 18) rfl ?_)
      exact r_zret hX hZ dX8_isIn_18 (by first | rfl | exact nar_bz _) ⟨_, rfl, ⟨by clear hZ hX; simp only [lg_cmp_lt, lg_cmp_ge, lg_cmp_gt, lg_cmp_le, Int64.lt_iff_toInt_lt, Int64.le_iff_toInt_le] at *; unfold bz; split <;> first | rfl | omega, rfl⟩⟩
    · refine r_iconst (v := 1) hX dX8_isIn_13 (by decide) (RR.pc (b := 14) rfl ?_)
      refine r_goto (tgt := 18) hX dX8_isIn_14 rfl ?_
      exact r_zret hX hZ dX8_isIn_18 (by first | rfl | exact nar_bz _) ⟨_, rfl, ⟨by clear hZ hX; simp only [lg_cmp_lt, lg_cmp_ge, lg_cmp_gt, lg_cmp_le, Int64.lt_iff_toInt_lt, Int64.le_iff_toInt_le] at *; unfold bz; split <;> first | rfl | omega, rfl⟩⟩
set_option maxHeartbeats 4000000 in
set_option maxRecDepth 100000 in
theorem c_X8_orNone {G : GM} {σ : SG} {v : Int32} : CI G yX8_orNone cX8_orNone 1 (some .int) 0 [.int v] σ (fun r s => r = (if v < 0 then -1000000005 else v) ∧ s = σ) := by
  refine Con.of cd_X8_orNone (Nat.le_of_ble_eq_true rfl) ?_
  intro X hX hZ
  have hX : Fx X G RX8 cX8_orNone 1 0 := hX
  show RR X G 1 0 (ll [(0, .int v)]) [] σ
  refine r_iload_n (i := 0) hX dX8_orNone_0 rfl (RR.pc (b := 1) rfl ?_)
  refine r_if_ge (tgt := 9) hX dX8_orNone_1 rfl (fun h1 => ?_) (fun h1 => RR.pc (b := 4) rfl ?_)
  · refine r_iload_n (i := 0) hX dX8_orNone_9 rfl (RR.pc (b := 10) rfl ?_)
    exact r_iret hX hZ dX8_orNone_10 ⟨_, rfl, ⟨(by clear hZ hX; (try simp only [Int32.lt_iff_toInt_lt, Int32.le_iff_toInt_le, Int32.reduceToInt] at *); (repeat' split) <;> first | rfl | omega | simp_all), rfl⟩⟩
  · refine r_ldc hX dX8_orNone_4 kc_X8_64 (RR.pc (b := 6) rfl ?_)
    refine r_goto (tgt := 10) hX dX8_orNone_6 rfl ?_
    exact r_iret hX hZ dX8_orNone_10 ⟨_, rfl, ⟨(by clear hZ hX; (try simp only [Int32.lt_iff_toInt_lt, Int32.le_iff_toInt_le, Int32.reduceToInt] at *); (repeat' split) <;> first | rfl | omega | simp_all), rfl⟩⟩
set_option maxHeartbeats 4000000 in
set_option maxRecDepth 100000 in
theorem c_X8_within {G : GM} {σ : SG} {v m : Int32} : CI G yX8_within cX8_within 2 (some .int) 0 [.int v, .int m] σ (fun r s => r = (if v < 0 then 0 else if m < v then m else v) ∧ s = σ) := by
  refine Con.of cd_X8_within (Nat.le_of_ble_eq_true rfl) ?_
  intro X hX hZ
  have hX : Fx X G RX8 cX8_within 2 0 := hX
  show RR X G 2 0 (ll [(0, .int v), (1, .int m)]) [] σ
  refine r_iload_n (i := 0) hX dX8_within_0 rfl (RR.pc (b := 1) rfl ?_)
  refine r_if_ge (tgt := 8) hX dX8_within_1 rfl (fun h1 => ?_) (fun h1 => RR.pc (b := 4) rfl ?_)
  · refine r_iload_n (i := 0) hX dX8_within_8 rfl (RR.pc (b := 9) rfl ?_)
    refine r_iload_n (i := 0) hX dX8_within_9 rfl (RR.pc (b := 10) rfl ?_)
    refine r_icmp_le (tgt := 17) hX dX8_within_10 rfl (fun h10 => ?_) (fun h10 => RR.pc (b := 13) rfl ?_)
    · refine r_iload_n (i := 0) hX dX8_within_17 rfl (RR.pc (b := 18) rfl ?_)
      exact r_iret hX hZ dX8_within_18 ⟨_, rfl, ⟨(by clear hZ hX; (try simp only [Int32.lt_iff_toInt_lt, Int32.le_iff_toInt_le, Int32.reduceToInt] at *); (repeat' split) <;> first | rfl | omega | simp_all), rfl⟩⟩
    · refine r_iload_n (i := 0) hX dX8_within_13 rfl (RR.pc (b := 14) rfl ?_)
      refine r_goto (tgt := 18) hX dX8_within_14 rfl ?_
      exact r_iret hX hZ dX8_within_18 ⟨_, rfl, ⟨(by clear hZ hX; (try simp only [Int32.lt_iff_toInt_lt, Int32.le_iff_toInt_le, Int32.reduceToInt] at *); (repeat' split) <;> first | rfl | omega | simp_all), rfl⟩⟩
  · refine r_iconst (v := 0) hX dX8_within_4 (by decide) (RR.pc (b := 5) rfl ?_)
    refine r_goto (tgt := 18) hX dX8_within_5 rfl ?_
    exact r_iret hX hZ dX8_within_18 ⟨_, rfl, ⟨(by clear hZ hX; (try simp only [Int32.lt_iff_toInt_lt, Int32.le_iff_toInt_le, Int32.reduceToInt] at *); (repeat' split) <;> first | rfl | omega | simp_all), rfl⟩⟩
set_option maxHeartbeats 4000000 in
set_option maxRecDepth 100000 in
theorem c_X8_off {G : GM} {σ : SG} {a b : Int32} : CI G yX8_off cX8_off 2 (some .int) 0 [.int a, .int b] σ (fun r s => r = (if a < b then b - a else a - b) ∧ s = σ) := by
  refine Con.of cd_X8_off (Nat.le_of_ble_eq_true rfl) ?_
  intro X hX hZ
  have hX : Fx X G RX8 cX8_off 2 0 := hX
  show RR X G 2 0 (ll [(0, .int a), (1, .int b)]) [] σ
  refine r_iload_n (i := 0) hX dX8_off_0 rfl (RR.pc (b := 1) rfl ?_)
  refine r_iload_n (i := 0) hX dX8_off_1 rfl (RR.pc (b := 2) rfl ?_)
  refine r_icmp_ge (tgt := 11) hX dX8_off_2 rfl (fun h2 => ?_) (fun h2 => RR.pc (b := 5) rfl ?_)
  · refine r_iload_n (i := 0) hX dX8_off_11 rfl (RR.pc (b := 12) rfl ?_)
    refine r_iload_n (i := 0) hX dX8_off_12 rfl (RR.pc (b := 13) rfl ?_)
    refine r_isub hX dX8_off_13 (RR.pc (b := 14) rfl ?_)
    exact r_iret hX hZ dX8_off_14 ⟨_, rfl, ⟨(by clear hZ hX; (try simp only [Int32.lt_iff_toInt_lt, Int32.le_iff_toInt_le, Int32.reduceToInt] at *); (repeat' split) <;> first | rfl | omega | simp_all), rfl⟩⟩
  · refine r_iload_n (i := 0) hX dX8_off_5 rfl (RR.pc (b := 6) rfl ?_)
    refine r_iload_n (i := 0) hX dX8_off_6 rfl (RR.pc (b := 7) rfl ?_)
    refine r_isub hX dX8_off_7 (RR.pc (b := 8) rfl ?_)
    refine r_goto (tgt := 14) hX dX8_off_8 rfl ?_
    exact r_iret hX hZ dX8_off_14 ⟨_, rfl, ⟨(by clear hZ hX; (try simp only [Int32.lt_iff_toInt_lt, Int32.le_iff_toInt_le, Int32.reduceToInt] at *); (repeat' split) <;> first | rfl | omega | simp_all), rfl⟩⟩
set_option maxHeartbeats 4000000 in
set_option maxRecDepth 100000 in
theorem c_X8_becomes {G : GM} {σ : SG} {i v : Int32} {n : Nat} (hi : i = nI n) (hn : n < 3171) : CI G yX8_becomes cX8_becomes 4 (some .int) 0 [rf G 109, .int i, .int v] σ (fun r s => r = σ 20 n ∧ s = su σ 20 n v) := by
  refine Con.of cd_X8_becomes (Nat.le_of_ble_eq_true rfl) ?_
  intro X hX hZ
  have hX : Fx X G RX8 cX8_becomes 4 0 := hX
  show RR X G 4 0 (ll [(0, rf G 109), (1, .int i), (2, .int v)]) [] σ
  refine r_aload_n hX dX8_becomes_0 rfl ⟨_, rfl⟩ (RR.pc (b := 1) rfl ?_)
  refine r_getr hX dX8_becomes_1 fl_X8_7 (by first | rfl | assumption) rfl (RR.pc (b := 4) rfl ?_)
  refine r_iload_n (i := 0) hX dX8_becomes_4 rfl (RR.pc (b := 5) rfl ?_)
  refine r_iald hX dX8_becomes_5 (by first | rfl | assumption) (by first | rfl | assumption) (by first | decide | assumption | omega) (by decide) (by first | exact Nat.zero_add _ | rfl) (RR.pc (b := 6) rfl ?_)
  refine r_istore_n hX dX8_becomes_6 (by decide) (RR.pc (b := 7) rfl ?_)
  refine r_aload_n hX dX8_becomes_7 rfl ⟨_, rfl⟩ (RR.pc (b := 8) rfl ?_)
  refine r_getr hX dX8_becomes_8 fl_X8_7 (by first | rfl | assumption) rfl (RR.pc (b := 11) rfl ?_)
  refine r_iload_n (i := 0) hX dX8_becomes_11 rfl (RR.pc (b := 12) rfl ?_)
  refine r_iload_n (i := 0) hX dX8_becomes_12 rfl (RR.pc (b := 13) rfl ?_)
  refine r_iast hX dX8_becomes_13 (by first | rfl | assumption) (by first | rfl | assumption) (by first | decide | assumption | omega) (by decide) (by first | exact Nat.zero_add _ | rfl) (RR.pc (b := 14) rfl ?_)
  refine r_iload_n (i := 0) hX dX8_becomes_14 rfl (RR.pc (b := 15) rfl ?_)
  exact r_iret hX hZ dX8_becomes_15 ⟨_, rfl, by simp⟩
set_option maxHeartbeats 4000000 in
set_option maxRecDepth 100000 in
theorem c_X8_textAt {G : GM} {σ : SG} {t : Nat} : CI G yX8_textAt cX8_textAt 2 (some .int) 0 [rf G 109, .int (nI t)] σ (fun r s => r = nI (171 + 200 * t) ∧ s = σ) := by
  refine Con.of cd_X8_textAt (Nat.le_of_ble_eq_true rfl) ?_
  intro X hX hZ
  have hX : Fx X G RX8 cX8_textAt 2 0 := hX
  show RR X G 2 0 (ll [(0, rf G 109), (1, .int (nI t))]) [] σ
  refine r_sipush (v := 171) hX dX8_textAt_0 (by decide) (RR.pc (b := 3) rfl ?_)
  refine r_sipush (v := 200) hX dX8_textAt_3 (by decide) (RR.pc (b := 6) rfl ?_)
  refine r_iload_n (i := 0) hX dX8_textAt_6 rfl (RR.pc (b := 7) rfl ?_)
  refine r_imul hX dX8_textAt_7 (RR.pc (b := 8) rfl ?_)
  refine r_iadd hX dX8_textAt_8 (RR.pc (b := 9) rfl ?_)
  exact r_iret hX hZ dX8_textAt_9 ⟨_, rfl, ⟨by show nI 171 + nI 200 * nI t = _; rw [pk_mul, nI_add], rfl⟩⟩
theorem ixM (a b : Nat) : (131 : Int32) + 5 * nI a + nI b = nI (131 + 5 * a + b) := by show nI 131 + nI 5 * nI a + nI b = _; rw [pk_mul, nI_add, nI_add]
set_option maxHeartbeats 4000000 in
set_option maxRecDepth 100000 in
theorem c_X8_of {G : GM} {σ : SG} {k w : Int32} {a b q : Nat} (hk : k = nI a) (hw : w = nI b) (hq : 131 + 5 * a + b = q) (hn : q < 3171) : CI G yX8_of cX8_of 3 (some .int) 0 [rf G 109, .int k, .int w] σ (fun r s => r = σ 20 q ∧ s = σ) := by
  refine Con.of cd_X8_of (Nat.le_of_ble_eq_true rfl) ?_
  intro X hX hZ
  have hX : Fx X G RX8 cX8_of 3 0 := hX
  show RR X G 3 0 (ll [(0, rf G 109), (1, .int k), (2, .int w)]) [] σ
  subst hk; subst hw; subst hq
  refine r_aload_n hX dX8_of_0 rfl ⟨_, rfl⟩ (RR.pc (b := 1) rfl ?_)
  refine r_getr hX dX8_of_1 fl_X8_7 (by first | rfl | assumption) rfl (RR.pc (b := 4) rfl ?_)
  refine r_sipush (v := 131) hX dX8_of_4 (by decide) (RR.pc (b := 7) rfl ?_)
  refine r_iconst (v := 5) hX dX8_of_7 (by decide) (RR.pc (b := 8) rfl ?_)
  refine r_iload_n (i := 0) hX dX8_of_8 rfl (RR.pc (b := 9) rfl ?_)
  refine r_imul hX dX8_of_9 (RR.pc (b := 10) rfl ?_)
  refine r_iadd hX dX8_of_10 (RR.pc (b := 11) rfl ?_)
  refine r_iload_n (i := 0) hX dX8_of_11 rfl (RR.pc (b := 12) rfl ?_)
  refine r_iadd hX dX8_of_12 (RR.pc (b := 13) rfl ?_)
  refine r_iald hX dX8_of_13 (by first | rfl | assumption) (ixM a b) hn (by decide) (by first | exact Nat.zero_add _ | rfl) (RR.pc (b := 14) rfl ?_)
  exact r_iret hX hZ dX8_of_14 ⟨_, rfl, by simp⟩
set_option maxHeartbeats 4000000 in
set_option maxRecDepth 100000 in
theorem c_X8_sets {G : GM} {σ : SG} {k w v : Int32} {a b q : Nat} (hk : k = nI a) (hw : w = nI b) (hq : 131 + 5 * a + b = q) (hn : q < 3171) : CU G yX8_sets cX8_sets 4 none 0 [rf G 109, .int k, .int w, .int v] σ (fun s => s = su σ 20 q v) := by
  refine Con.of cd_X8_sets (Nat.le_of_ble_eq_true rfl) ?_
  intro X hX hZ
  have hX : Fx X G RX8 cX8_sets 4 0 := hX
  show RR X G 4 0 (ll [(0, rf G 109), (1, .int k), (2, .int w), (3, .int v)]) [] σ
  subst hk; subst hw; subst hq
  refine r_aload_n hX dX8_sets_0 rfl ⟨_, rfl⟩ (RR.pc (b := 1) rfl ?_)
  refine r_getr hX dX8_sets_1 fl_X8_7 (by first | rfl | assumption) rfl (RR.pc (b := 4) rfl ?_)
  refine r_sipush (v := 131) hX dX8_sets_4 (by decide) (RR.pc (b := 7) rfl ?_)
  refine r_iconst (v := 5) hX dX8_sets_7 (by decide) (RR.pc (b := 8) rfl ?_)
  refine r_iload_n (i := 0) hX dX8_sets_8 rfl (RR.pc (b := 9) rfl ?_)
  refine r_imul hX dX8_sets_9 (RR.pc (b := 10) rfl ?_)
  refine r_iadd hX dX8_sets_10 (RR.pc (b := 11) rfl ?_)
  refine r_iload_n (i := 0) hX dX8_sets_11 rfl (RR.pc (b := 12) rfl ?_)
  refine r_iadd hX dX8_sets_12 (RR.pc (b := 13) rfl ?_)
  refine r_iload_n (i := 0) hX dX8_sets_13 rfl (RR.pc (b := 14) rfl ?_)
  refine r_iast hX dX8_sets_14 (by first | rfl | assumption) (ixM a b) hn (by decide) (by first | exact Nat.zero_add _ | rfl) (RR.pc (b := 15) rfl ?_)
  exact r_vret hX hZ dX8_sets_15 ⟨rfl, by simp⟩
