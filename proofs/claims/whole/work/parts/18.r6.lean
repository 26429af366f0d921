/-! the reference: fee, fine, sheets, slots, rows, images -/
set_option maxHeartbeats 4000000 in
set_option maxRecDepth 100000 in
theorem c_X8_fee {G : GM} {σ : SG} {Ts : Nat → Tx} {nt : Nat} (hT : RT (σ 20) Ts nt) : CI G yX8_fee cX8_fee 2 (some .int) 2 [rf G 109] σ (fun r s => r = feeF Ts nt (σ 20) ∧ same [33, 34] σ s) := by
  refine Con.of cd_X8_fee (Nat.le_of_ble_eq_true rfl) ?_
  intro X hX hZ
  have hX : Fx X G RX8 cX8_fee 2 2 := hX
  show RR X G 2 0 (ll [(0, rf G 109)]) [] σ
  refine r_aload_n hX dX8_fee_0 rfl ⟨_, rfl⟩ (RR.pc (b := 1) rfl ?_)
  refine r_iconst (v := 1) hX dX8_fee_1 (by decide) (RR.pc (b := 2) rfl ?_)
  refine r_callVie hX dX8_fee_2 ml_X8_94 cd_X8_counts iv_X8_counts (c_X8_counts (Ts := Ts) (nt := nt) hT.1 hT.2.1 (fun t ht => (hT.2.2 t ht).1.1)) (by decide) (by first | rfl | assumption) rfl rfl rfl rfl (Nat.le_of_ble_eq_true rfl) (RR.pc (b := 5) rfl ?_)
  refine r_istore_n hX dX8_fee_5 (by decide) (RR.pc (b := 6) rfl ?_)
  refine r_iload_n (i := 0) hX dX8_fee_6 rfl (RR.pc (b := 7) rfl ?_)
  cases hc : cnt Ts 1 nt with
  | none =>
    refine r_if_ge (tgt := 17) hX dX8_fee_7 rfl (fun h => absurd h (show ¬ (0 : Int32) ≤ cntI none by decide)) (fun _ => RR.pc (b := 10) rfl ?_)
    refine r_aload_n hX dX8_fee_10 rfl ⟨_, rfl⟩ (RR.pc (b := 11) rfl ?_)
    refine r_getr hX dX8_fee_11 fl_X8_7 (by first | rfl | assumption) rfl (RR.pc (b := 14) rfl ?_)
    refine r_iconst (v := 4) hX dX8_fee_14 (by decide) (RR.pc (b := 15) rfl ?_)
    refine r_iald hX dX8_fee_15 (by first | rfl | assumption) (by first | rfl | assumption) (by first | decide | assumption | omega) (by decide) (by first | exact Nat.zero_add _ | rfl) (RR.pc (b := 16) rfl ?_)
    exact r_iret hX hZ dX8_fee_16 ⟨_, rfl, ⟨by unfold feeF; rw [hc], same.rf⟩⟩
  | some t =>
    have htn := cnt_lt hc
    obtain ⟨hTR, hTo⟩ := hT.2.2 t htn
    have h14 := hT.2.1
    show RR X G 2 7 (lu (ll [(0, rf G 109)]) 1 (.int (nI t))) [.int (nI t)] σ
    refine r_if_ge (tgt := 17) hX dX8_fee_7 rfl (fun _ => ?_) (fun h => absurd (nI_pos' (by omega)) h)
    refine r_aload_n hX dX8_fee_17 rfl ⟨_, rfl⟩ (RR.pc (b := 18) rfl ?_)
    refine r_getr hX dX8_fee_18 fl_X8_49 (by first | rfl | assumption) rfl (RR.pc (b := 21) rfl ?_)
    refine r_bipush (v := 101) hX dX8_fee_21 (by decide) (RR.pc (b := 23) rfl ?_)
    refine r_aload_n hX dX8_fee_23 rfl ⟨_, rfl⟩ (RR.pc (b := 24) rfl ?_)
    refine r_getr hX dX8_fee_24 fl_X8_7 (by first | rfl | assumption) rfl (RR.pc (b := 27) rfl ?_)
    refine r_iconst (v := 4) hX dX8_fee_27 (by decide) (RR.pc (b := 28) rfl ?_)
    refine r_iald hX dX8_fee_28 (by first | rfl | assumption) (by first | rfl | assumption) (by first | decide | assumption | omega) (by decide) (by first | exact Nat.zero_add _ | rfl) (RR.pc (b := 29) rfl ?_)
    refine r_iast hX dX8_fee_29 (by first | rfl | assumption) (by first | rfl | assumption) (by first | decide | assumption | omega) (by decide) (by first | exact Nat.zero_add _ | rfl) (RR.pc (b := 30) rfl ?_)
    refine r_aload_n hX dX8_fee_30 rfl ⟨_, rfl⟩ (RR.pc (b := 31) rfl ?_)
    refine r_getr hX dX8_fee_31 fl_X8_49 (by first | rfl | assumption) rfl (RR.pc (b := 34) rfl ?_)
    refine r_bipush (v := 98) hX dX8_fee_34 (by decide) (RR.pc (b := 36) rfl ?_)
    refine r_aload_n hX dX8_fee_36 rfl ⟨_, rfl⟩ (RR.pc (b := 37) rfl ?_)
    refine r_getr hX dX8_fee_37 fl_X8_7 (by first | rfl | assumption) rfl (RR.pc (b := 40) rfl ?_)
    refine r_iconst (v := 5) hX dX8_fee_40 (by decide) (RR.pc (b := 41) rfl ?_)
    refine r_iald hX dX8_fee_41 (by first | rfl | assumption) (by first | rfl | assumption) (by first | decide | assumption | omega) (by decide) (by first | exact Nat.zero_add _ | rfl) (RR.pc (b := 42) rfl ?_)
    refine r_iast hX dX8_fee_42 (by first | rfl | assumption) (by first | rfl | assumption) (by first | decide | assumption | omega) (by decide) (by first | exact Nat.zero_add _ | rfl) (RR.pc (b := 43) rfl ?_)
    refine r_aload_n hX dX8_fee_43 rfl ⟨_, rfl⟩ (RR.pc (b := 44) rfl ?_)
    refine r_iload_n (i := 0) hX dX8_fee_44 rfl (RR.pc (b := 45) rfl ?_)
    simp only [su_ne (show (20 : Nat) ≠ 33 by decide)]
    refine r_callVi hX dX8_fee_45 ml_X8_98 cd_X8_worked iv_X8_worked (c_X8_worked (t := t) (T := Ts t) (by omega) (by simp only [su_ne (show (20 : Nat) ≠ 33 by decide)]; exact hTR) hTo) (by decide) (by first | rfl | assumption) rfl rfl rfl rfl (Nat.le_of_ble_eq_true rfl) (fun r_45 s_45 e_45 => RR.pc (b := 48) rfl ?_)
    obtain ⟨rfl, hs⟩ := e_45
    exact r_iret hX hZ dX8_fee_48 ⟨_, rfl, ⟨by unfold feeF; rw [hc]; exact evT_congr hTo (by intro v hv; rw [cnt_key hc] at hv; simp only [nmK, if_neg (show ¬ (1 : Int32) = 0 by decide), if_true, List.mem_cons, List.not_mem_nil, or_false] at hv; simp only [su_eq]; rcases hv with rfl | rfl <;> rfl), ((same.rf.su (by simp)).su (by simp)).tr (hs.mono (by simp))⟩⟩
set_option maxHeartbeats 4000000 in
set_option maxRecDepth 100000 in
theorem c_X8_fine {G : GM} {σ : SG} {Ts : Nat → Tx} {nt n : Nat} {k : Int32} (hN : σ 20 0 = nI n) (h8 : n ≤ 8) (hT : RT (σ 20) Ts nt) : CI G yX8_fine cX8_fine 3 (some .int) 2 [rf G 109, .int k] σ (fun r s => r = finF Ts nt n (σ 20) k ∧ same [33, 34] σ s) := by
  refine Con.of cd_X8_fine (Nat.le_of_ble_eq_true rfl) ?_
  intro X hX hZ
  have hX : Fx X G RX8 cX8_fine 3 2 := hX
  show RR X G 3 0 (ll [(0, rf G 109), (1, .int k)]) [] σ
  refine r_aload_n hX dX8_fine_0 rfl ⟨_, rfl⟩ (RR.pc (b := 1) rfl ?_)
  refine r_iload_n (i := 0) hX dX8_fine_1 rfl (RR.pc (b := 2) rfl ?_)
  refine r_callVie hX dX8_fine_2 ml_X8_104 cd_X8_isMule iv_X8_isMule (c_X8_isMule hN h8) (by decide) (by first | rfl | assumption) rfl rfl rfl rfl (Nat.le_of_ble_eq_true rfl) (RR.pc (b := 5) rfl ?_)
  refine r_if_ne_b (tgt := 11) hX dX8_fine_5 rfl (fun h5 => ?_) (fun h5 => RR.pc (b := 8) rfl ?_)
  · obtain ⟨a, ha, rfl⟩ := ix_of h5 (by omega)
    refine r_aload_n hX dX8_fine_11 rfl ⟨_, rfl⟩ (RR.pc (b := 12) rfl ?_)
    refine r_iconst (v := 2) hX dX8_fine_12 (by decide) (RR.pc (b := 13) rfl ?_)
    refine r_callVie hX dX8_fine_13 ml_X8_94 cd_X8_counts iv_X8_counts (c_X8_counts (Ts := Ts) (nt := nt) hT.1 hT.2.1 (fun t ht => (hT.2.2 t ht).1.1)) (by decide) (by first | rfl | assumption) rfl rfl rfl rfl (Nat.le_of_ble_eq_true rfl) (RR.pc (b := 16) rfl ?_)
    refine r_istore_n hX dX8_fine_16 (by decide) (RR.pc (b := 17) rfl ?_)
    refine r_iload_n (i := 0) hX dX8_fine_17 rfl (RR.pc (b := 18) rfl ?_)
    cases hc : cnt Ts 2 nt with
    | none =>
      refine r_if_ge (tgt := 28) hX dX8_fine_18 rfl (fun h => absurd h (show ¬ (0 : Int32) ≤ cntI none by decide)) (fun _ => RR.pc (b := 21) rfl ?_)
      refine r_aload_n hX dX8_fine_21 rfl ⟨_, rfl⟩ (RR.pc (b := 22) rfl ?_)
      refine r_iload_n (i := 0) hX dX8_fine_22 rfl (RR.pc (b := 23) rfl ?_)
      refine r_iconst (v := 3) hX dX8_fine_23 (by decide) (RR.pc (b := 24) rfl ?_)
      refine r_callVie hX dX8_fine_24 ml_X8_90 cd_X8_of iv_X8_of (c_X8_of (a := a) (b := 3) (q := 131 + 5 * a + 3) rfl rfl rfl (by omega)) (by decide) (by first | rfl | assumption) rfl rfl rfl rfl (Nat.le_of_ble_eq_true rfl) (RR.pc (b := 27) rfl ?_)
      exact r_iret hX hZ dX8_fine_27 ⟨_, rfl, ⟨by unfold finF; rw [ix_some ha (by omega), hc], same.rf⟩⟩
    | some t =>
      have htn := cnt_lt hc
      obtain ⟨hTR, hTo⟩ := hT.2.2 t htn
      have h14 := hT.2.1
      show RR X G 3 18 (lu (ll [(0, rf G 109), (1, .int (nI a))]) 2 (.int (nI t))) [.int (nI t)] σ
      refine r_if_ge (tgt := 28) hX dX8_fine_18 rfl (fun _ => ?_) (fun h => absurd (nI_pos' (by omega)) h)
      refine r_aload_n hX dX8_fine_28 rfl ⟨_, rfl⟩ (RR.pc (b := 29) rfl ?_)
      refine r_getr hX dX8_fine_29 fl_X8_49 (by first | rfl | assumption) rfl (RR.pc (b := 32) rfl ?_)
      refine r_bipush (v := 103) hX dX8_fine_32 (by decide) (RR.pc (b := 34) rfl ?_)
      refine r_aload_n hX dX8_fine_34 rfl ⟨_, rfl⟩ (RR.pc (b := 35) rfl ?_)
      refine r_iload_n (i := 0) hX dX8_fine_35 rfl (RR.pc (b := 36) rfl ?_)
      refine r_iconst (v := 3) hX dX8_fine_36 (by decide) (RR.pc (b := 37) rfl ?_)
      refine r_callVie hX dX8_fine_37 ml_X8_90 cd_X8_of iv_X8_of (c_X8_of (a := a) (b := 3) (q := 131 + 5 * a + 3) rfl rfl rfl (by omega)) (by decide) (by first | rfl | assumption) rfl rfl rfl rfl (Nat.le_of_ble_eq_true rfl) (RR.pc (b := 40) rfl ?_)
      refine r_iast hX dX8_fine_40 (by first | rfl | assumption) (by first | rfl | assumption) (by first | decide | assumption | omega) (by decide) (by first | exact Nat.zero_add _ | rfl) (RR.pc (b := 41) rfl ?_)
      refine r_aload_n hX dX8_fine_41 rfl ⟨_, rfl⟩ (RR.pc (b := 42) rfl ?_)
      refine r_getr hX dX8_fine_42 fl_X8_49 (by first | rfl | assumption) rfl (RR.pc (b := 45) rfl ?_)
      refine r_bipush (v := 121) hX dX8_fine_45 (by decide) (RR.pc (b := 47) rfl ?_)
      refine r_aload_n hX dX8_fine_47 rfl ⟨_, rfl⟩ (RR.pc (b := 48) rfl ?_)
      refine r_iload_n (i := 0) hX dX8_fine_48 rfl (RR.pc (b := 49) rfl ?_)
      refine r_iconst (v := 2) hX dX8_fine_49 (by decide) (RR.pc (b := 50) rfl ?_)
      refine r_callVie hX dX8_fine_50 ml_X8_90 cd_X8_of iv_X8_of (c_X8_of (a := a) (b := 2) (q := 131 + 5 * a + 2) rfl rfl rfl (by omega)) (by decide) (by first | rfl | assumption) rfl rfl rfl rfl (Nat.le_of_ble_eq_true rfl) (RR.pc (b := 53) rfl ?_)
      refine r_iast hX dX8_fine_53 (by first | rfl | assumption) (by first | rfl | assumption) (by first | decide | assumption | omega) (by decide) (by first | exact Nat.zero_add _ | rfl) (RR.pc (b := 54) rfl ?_)
      refine r_aload_n hX dX8_fine_54 rfl ⟨_, rfl⟩ (RR.pc (b := 55) rfl ?_)
      refine r_iload_n (i := 0) hX dX8_fine_55 rfl (RR.pc (b := 56) rfl ?_)
      simp only [su_ne (show (20 : Nat) ≠ 33 by decide)]
      refine r_callVi hX dX8_fine_56 ml_X8_98 cd_X8_worked iv_X8_worked (c_X8_worked (t := t) (T := Ts t) (by omega) (by simp only [su_ne (show (20 : Nat) ≠ 33 by decide)]; exact hTR) hTo) (by decide) (by first | rfl | assumption) rfl rfl rfl rfl (Nat.le_of_ble_eq_true rfl) (fun r_56 s_56 e_56 => RR.pc (b := 59) rfl ?_)
      obtain ⟨rfl, hs⟩ := e_56
      exact r_iret hX hZ dX8_fine_59 ⟨_, rfl, ⟨by unfold finF; rw [ix_some ha (by omega), hc]; exact evT_congr hTo (by intro v hv; rw [cnt_key hc] at hv; simp only [nmK, if_neg (show ¬ (2 : Int32) = 0 by decide), if_neg (show ¬ (2 : Int32) = 1 by decide), List.mem_cons, List.not_mem_nil, or_false] at hv; simp only [su_eq]; rcases hv with rfl | rfl <;> rfl), ((same.rf.su (by simp)).su (by simp)).tr (hs.mono (by simp))⟩⟩
  · 
    refine r_ldc hX dX8_fine_8 kc_X8_84 (RR.pc (b := 10) rfl ?_)
    exact r_iret hX hZ dX8_fine_10 ⟨_, rfl, ⟨by unfold finF; rw [ix_none h5], same.rf⟩⟩
def whyF (Ts : Nat → Tx) (nt : Nat) (k : Int32) : Int32 := if 0 ≤ k.toInt ∧ k.toInt ≤ 2 then (match cnt Ts k nt with
  | none => vNONE
  | some t => nI t) else vBAD
set_option maxHeartbeats 4000000 in
set_option maxRecDepth 100000 in
theorem c_X8_why {G : GM} {σ : SG} {Ts : Nat → Tx} {nt : Nat} {k : Int32} (hT : RT (σ 20) Ts nt) : CI G yX8_why cX8_why 2 (some .int) 2 [rf G 109, .int k] σ (fun r s => r = whyF Ts nt k ∧ s = σ) := by
  refine Con.of cd_X8_why (Nat.le_of_ble_eq_true rfl) ?_
  intro X hX hZ
  have hX : Fx X G RX8 cX8_why 2 2 := hX
  show RR X G 2 0 (ll [(0, rf G 109), (1, .int k)]) [] σ
  have h14 := hT.2.1
  refine r_iload_n (i := 0) hX dX8_why_0 rfl (RR.pc (b := 1) rfl ?_)
  refine r_i2l hX dX8_why_1 (RR.pc (b := 2) rfl ?_)
  refine r_lconst (v := 0) hX dX8_why_2 rfl (RR.pc (b := 3) rfl ?_)
  refine r_ldc2 hX dX8_why_3 k2_X8_279 (RR.pc (b := 6) rfl ?_)
  refine r_callSie hX dX8_why_6 ml_X8_65 cd_X8_isIn st_X8_isIn c_X8_isIn (by decide) rfl rfl (Nat.le_of_ble_eq_true rfl) (RR.pc (b := 9) rfl ?_)
  refine r_if_eq_b (tgt := 23) hX dX8_why_9 rfl (fun h9 => ?_) (fun h9 => RR.pc (b := 12) rfl ?_)
  · simp only [Int32.toInt_toInt64, Int64.reduceToInt] at h9
    refine r_ldc hX dX8_why_23 kc_X8_84 (RR.pc (b := 25) rfl ?_)
    exact r_iret hX hZ dX8_why_25 ⟨_, rfl, ⟨by unfold whyF; first | rw [if_neg h9] | (rw [if_pos h9]; cases hc : cnt Ts k nt with | none => rfl | some t => (have := cnt_lt hc; show (if nI t < 0 then _ else nI t) = nI t; rw [if_neg (nI_pos (by omega))])), rfl⟩⟩
  · simp only [Int32.toInt_toInt64, Int64.reduceToInt] at h9
    refine r_aload_n hX dX8_why_12 rfl ⟨_, rfl⟩ (RR.pc (b := 13) rfl ?_)
    refine r_iload_n (i := 0) hX dX8_why_13 rfl (RR.pc (b := 14) rfl ?_)
    refine r_callVie hX dX8_why_14 ml_X8_94 cd_X8_counts iv_X8_counts (c_X8_counts (Ts := Ts) (nt := nt) hT.1 hT.2.1 (fun t ht => (hT.2.2 t ht).1.1)) (by decide) (by first | rfl | assumption) rfl rfl rfl rfl (Nat.le_of_ble_eq_true rfl) (RR.pc (b := 17) rfl ?_)
    refine r_callSie hX dX8_why_17 ml_X8_179 cd_X8_orNone st_X8_orNone c_X8_orNone (by decide) rfl rfl (Nat.le_of_ble_eq_true rfl) (RR.pc (b := 20) rfl ?_)
    refine r_goto (tgt := 25) hX dX8_why_20 rfl ?_
    exact r_iret hX hZ dX8_why_25 ⟨_, rfl, ⟨by unfold whyF; first | rw [if_neg h9] | (rw [if_pos h9]; cases hc : cnt Ts k nt with | none => rfl | some t => (have := cnt_lt hc; show (if nI t < 0 then _ else nI t) = nI t; rw [if_neg (nI_pos (by omega))])), rfl⟩⟩
def ttF (Ts : Nat → Tx) (nt : Nat) (t what : Int32) : Int32 := match ix t nt with
  | none => vBAD
  | some a => if what = 0 then (Ts a).1 else if what = 1 then (Ts a).2.1 else vBAD
set_option maxHeartbeats 4000000 in
set_option maxRecDepth 100000 in
theorem c_X8_textTold {G : GM} {σ : SG} {Ts : Nat → Tx} {nt : Nat} {t what : Int32} (hT : RT (σ 20) Ts nt) : CI G yX8_textTold cX8_textTold 3 (some .int) 2 [rf G 109, .int t, .int what] σ (fun r s => r = ttF Ts nt t what ∧ s = σ) := by
  refine Con.of cd_X8_textTold (Nat.le_of_ble_eq_true rfl) ?_
  intro X hX hZ
  have hX : Fx X G RX8 cX8_textTold 3 2 := hX
  show RR X G 3 0 (ll [(0, rf G 109), (1, .int t), (2, .int what)]) [] σ
  have h14 := hT.2.1
  refine r_aload_n hX dX8_textTold_0 rfl ⟨_, rfl⟩ (RR.pc (b := 1) rfl ?_)
  refine r_iload_n (i := 0) hX dX8_textTold_1 rfl (RR.pc (b := 2) rfl ?_)
  refine r_callVie hX dX8_textTold_2 ml_X8_276 cd_X8_isText iv_X8_isText (c_X8_isText hT.1 hT.2.1) (by decide) (by first | rfl | assumption) rfl rfl rfl rfl (Nat.le_of_ble_eq_true rfl) (RR.pc (b := 5) rfl ?_)
  refine r_if_eq_b (tgt := 18) hX dX8_textTold_5 rfl (fun h5 => ?_) (fun h5 => RR.pc (b := 8) rfl ?_)
  · refine r_ldc hX dX8_textTold_18 kc_X8_84 (RR.pc (b := 20) rfl ?_)
    exact r_iret hX hZ dX8_textTold_20 ⟨_, rfl, ⟨by unfold ttF; first | (rw [ix_none h5]) | (rw [ix_some ha (by omega)]; dsimp only; first | (rw [if_neg (w01n h15).1, if_neg (w01n h15).2]) | (rcases w01 h15 with rfl | rfl; (rw [if_pos rfl]; exact (hT.2.2 a ha).1.1); (rw [if_neg (by decide), if_pos rfl]; exact (hT.2.2 a ha).1.2.1))), rfl⟩⟩
  · obtain ⟨a, ha, rfl⟩ := ix_of h5 (by omega)
    refine r_iload_n (i := 0) hX dX8_textTold_8 rfl (RR.pc (b := 9) rfl ?_)
    refine r_i2l hX dX8_textTold_9 (RR.pc (b := 10) rfl ?_)
    refine r_lconst (v := 0) hX dX8_textTold_10 rfl (RR.pc (b := 11) rfl ?_)
    refine r_lconst (v := 1) hX dX8_textTold_11 rfl (RR.pc (b := 12) rfl ?_)
    refine r_callSie hX dX8_textTold_12 ml_X8_65 cd_X8_isIn st_X8_isIn c_X8_isIn (by decide) rfl rfl (Nat.le_of_ble_eq_true rfl) (RR.pc (b := 15) rfl ?_)
    refine r_if_ne_b (tgt := 21) hX dX8_textTold_15 rfl (fun h15 => ?_) (fun h15 => RR.pc (b := 18) rfl ?_)
    · simp only [Int32.toInt_toInt64, Int64.reduceToInt] at h15
      refine r_aload_n hX dX8_textTold_21 rfl ⟨_, rfl⟩ (RR.pc (b := 22) rfl ?_)
      refine r_getr hX dX8_textTold_22 fl_X8_7 (by first | rfl | assumption) rfl (RR.pc (b := 25) rfl ?_)
      refine r_aload_n hX dX8_textTold_25 rfl ⟨_, rfl⟩ (RR.pc (b := 26) rfl ?_)
      refine r_iload_n (i := 0) hX dX8_textTold_26 rfl (RR.pc (b := 27) rfl ?_)
      refine r_callVie hX dX8_textTold_27 ml_X8_267 cd_X8_textAt iv_X8_textAt (c_X8_textAt (t := a)) (by decide) (by first | rfl | assumption) rfl rfl rfl rfl (Nat.le_of_ble_eq_true rfl) (RR.pc (b := 30) rfl ?_)
      refine r_iload_n (i := 0) hX dX8_textTold_30 rfl (RR.pc (b := 31) rfl ?_)
      refine r_iadd hX dX8_textTold_31 (RR.pc (b := 32) rfl ?_)
      refine r_iald hX dX8_textTold_32 (by first | rfl | assumption) (j := 171 + 200 * a + what.toNatClampNeg) (by rcases w01 h15 with rfl | rfl <;> exact nI_add _ _) (by rcases w01 h15 with rfl | rfl; (show 171 + 200 * a + 0 < 3171; omega); (show 171 + 200 * a + 1 < 3171; omega)) (by decide) (by first | exact Nat.zero_add _ | rfl) (RR.pc (b := 33) rfl ?_)
      exact r_iret hX hZ dX8_textTold_33 ⟨_, rfl, ⟨by unfold ttF; first | (rw [ix_none h5]) | (rw [ix_some ha (by omega)]; dsimp only; first | (rw [if_neg (w01n h15).1, if_neg (w01n h15).2]) | (rcases w01 h15 with rfl | rfl; (rw [if_pos rfl]; exact (hT.2.2 a ha).1.1); (rw [if_neg (by decide), if_pos rfl]; exact (hT.2.2 a ha).1.2.1))), rfl⟩⟩
    · simp only [Int32.toInt_toInt64, Int64.reduceToInt] at h15
      refine r_ldc hX dX8_textTold_18 kc_X8_84 (RR.pc (b := 20) rfl ?_)
      exact r_iret hX hZ dX8_textTold_20 ⟨_, rfl, ⟨by unfold ttF; first | (rw [ix_none h5]) | (rw [ix_some ha (by omega)]; dsimp only; first | (rw [if_neg (w01n h15).1, if_neg (w01n h15).2]) | (rcases w01 h15 with rfl | rfl; (rw [if_pos rfl]; exact (hT.2.2 a ha).1.1); (rw [if_neg (by decide), if_pos rfl]; exact (hT.2.2 a ha).1.2.1))), rfl⟩⟩
set_option maxHeartbeats 4000000 in
set_option maxRecDepth 100000 in
theorem c_X8_tell {G : GM} {σ : SG} {v : Int32} {k : Nat} (hk : σ 38 12 = nI k) (h60 : k ≤ 60) : CI G yX8_tell cX8_tell 2 (some .int) 0 [rf G 109, .int v] σ (fun r s => (k = 60 → r = vFULL ∧ s = σ) ∧ (k < 60 → r = nI (k + 1) ∧ s = su (su σ 36 k v) 38 12 (nI (k + 1)))) := by
  refine Con.of cd_X8_tell (Nat.le_of_ble_eq_true rfl) ?_
  intro X hX hZ
  have hX : Fx X G RX8 cX8_tell 2 0 := hX
  show RR X G 2 0 (ll [(0, rf G 109), (1, .int v)]) [] σ
  refine r_aload_n hX dX8_tell_0 rfl ⟨_, rfl⟩ (RR.pc (b := 1) rfl ?_)
  refine r_geti hX dX8_tell_1 fl_X8_304 (by first | rfl | assumption) rfl (RR.pc (b := 4) rfl ?_)
  refine r_bipush (v := 60) hX dX8_tell_4 (by decide) (RR.pc (b := 6) rfl ?_)
  rw [hk]
  refine r_icmp_ne (tgt := 12) hX dX8_tell_6 rfl (fun h6 => ?_) (fun h6 => RR.pc (b := 9) rfl ?_)
  · have hn : k ≠ 60 := fun e => h6 (by rw [e]; rfl)
    refine r_aload_n hX dX8_tell_12 rfl ⟨_, rfl⟩ (RR.pc (b := 13) rfl ?_)
    refine r_getr hX dX8_tell_13 fl_X8_58 (by first | rfl | assumption) rfl (RR.pc (b := 16) rfl ?_)
    refine r_aload_n hX dX8_tell_16 rfl ⟨_, rfl⟩ (RR.pc (b := 17) rfl ?_)
    refine r_geti hX dX8_tell_17 fl_X8_304 (by first | rfl | assumption) rfl (RR.pc (b := 20) rfl ?_)
    rw [hk]
    refine r_iload_n (i := 0) hX dX8_tell_20 rfl (RR.pc (b := 21) rfl ?_)
    refine r_iast hX dX8_tell_21 (by first | rfl | assumption) rfl (by omega) (by decide) (by first | exact Nat.zero_add _ | rfl) (RR.pc (b := 22) rfl ?_)
    refine r_aload_n hX dX8_tell_22 rfl ⟨_, rfl⟩ (RR.pc (b := 23) rfl ?_)
    refine r_dup hX dX8_tell_23 rfl (RR.pc (b := 24) rfl ?_)
    refine r_geti hX dX8_tell_24 fl_X8_304 (by first | rfl | assumption) rfl (RR.pc (b := 27) rfl ?_)
    rw [su_ne (by decide), hk]
    refine r_iconst (v := 1) hX dX8_tell_27 (by decide) (RR.pc (b := 28) rfl ?_)
    refine r_iadd hX dX8_tell_28 (RR.pc (b := 29) rfl ?_)
    rw [nI_1]
    refine r_puti hX dX8_tell_29 fl_X8_304 (by first | rfl | assumption) rfl ft_8_29 (RR.pc (b := 32) rfl ?_)
    refine r_aload_n hX dX8_tell_32 rfl ⟨_, rfl⟩ (RR.pc (b := 33) rfl ?_)
    refine r_geti hX dX8_tell_33 fl_X8_304 (by first | rfl | assumption) rfl (RR.pc (b := 36) rfl ?_)
    rw [su_eq, pk_us]
    exact r_iret hX hZ dX8_tell_36 ⟨_, rfl, ⟨fun h => absurd h hn, fun _ => ⟨rfl, rfl⟩⟩⟩
  · have hn : k = 60 := (nI_eq (a := k) (b := 60) (by omega) (by omega)).mp h6
    refine r_ldc hX dX8_tell_9 kc_X8_85 (RR.pc (b := 11) rfl ?_)
    exact r_iret hX hZ dX8_tell_11 ⟨_, rfl, ⟨fun _ => ⟨rfl, rfl⟩, fun h => absurd hn (by omega)⟩⟩
set_option maxHeartbeats 4000000 in
set_option maxRecDepth 100000 in
theorem c_X8_trim {G : GM} {σ : SG} {v : Int32} {k : Nat} (hk : σ 38 1 = nI k) (h60 : k ≤ 96) : CI G yX8_trim cX8_trim 2 (some .int) 1 [rf G 109, .int v] σ (fun r s => (¬ (0 ≤ v.toInt ∧ v.toInt ≤ k) → r = vBAD ∧ s = σ) ∧ (0 ≤ v.toInt ∧ v.toInt ≤ k → r = v ∧ s = su σ 38 1 v)) := by
  refine Con.of cd_X8_trim (Nat.le_of_ble_eq_true rfl) ?_
  intro X hX hZ
  have hX : Fx X G RX8 cX8_trim 2 1 := hX
  show RR X G 2 0 (ll [(0, rf G 109), (1, .int v)]) [] σ
  refine r_iload_n (i := 0) hX dX8_trim_0 rfl (RR.pc (b := 1) rfl ?_)
  refine r_i2l hX dX8_trim_1 (RR.pc (b := 2) rfl ?_)
  refine r_lconst (v := 0) hX dX8_trim_2 rfl (RR.pc (b := 3) rfl ?_)
  refine r_aload_n hX dX8_trim_3 rfl ⟨_, rfl⟩ (RR.pc (b := 4) rfl ?_)
  refine r_geti hX dX8_trim_4 fl_X8_184 (by first | rfl | assumption) rfl (RR.pc (b := 7) rfl ?_)
  rw [hk]
  refine r_i2l hX dX8_trim_7 (RR.pc (b := 8) rfl ?_)
  refine r_callSie hX dX8_trim_8 ml_X8_65 cd_X8_isIn st_X8_isIn c_X8_isIn (by decide) rfl rfl (Nat.le_of_ble_eq_true rfl) (RR.pc (b := 11) rfl ?_)
  refine r_if_ne_b (tgt := 17) hX dX8_trim_11 rfl (fun h11 => ?_) (fun h11 => RR.pc (b := 14) rfl ?_)
  · simp only [Int32.toInt_toInt64, Int64.reduceToInt] at h11
    rw [nI_toInt (by omega)] at h11
    refine r_aload_n hX dX8_trim_17 rfl ⟨_, rfl⟩ (RR.pc (b := 18) rfl ?_)
    refine r_iload_n (i := 0) hX dX8_trim_18 rfl (RR.pc (b := 19) rfl ?_)
    refine r_puti hX dX8_trim_19 fl_X8_184 (by first | rfl | assumption) rfl ft_8_14 (RR.pc (b := 22) rfl ?_)
    refine r_iload_n (i := 0) hX dX8_trim_22 rfl (RR.pc (b := 23) rfl ?_)
    exact r_iret hX hZ dX8_trim_23 ⟨_, rfl, ⟨fun h => absurd h11 h, fun _ => ⟨rfl, rfl⟩⟩⟩
  · simp only [Int32.toInt_toInt64, Int64.reduceToInt] at h11
    rw [nI_toInt (by omega)] at h11
    refine r_ldc hX dX8_trim_14 kc_X8_84 (RR.pc (b := 16) rfl ?_)
    exact r_iret hX hZ dX8_trim_16 ⟨_, rfl, ⟨fun _ => ⟨rfl, rfl⟩, fun h => absurd h h11⟩⟩
def countF (w : Nat → Int32) (wa ta : Int32) (what : Int32) : Int32 := if what = 0 then w 0 else if what = 1 then w 2 else if what = 2 then w 7 else if what = 3 then w 8 else if what = 4 then w 9 else if what = 5 then w 10 else if what = 6 then w 1 else if what = 7 then wa else if what = 8 then ta else if what = 9 then w 6 else vBAD
set_option maxHeartbeats 4000000 in
set_option maxRecDepth 100000 in
theorem c_X8_count {G : GM} {σ : SG} {what : Int32} : CI G yX8_count cX8_count 2 (some .int) 0 [rf G 109, .int what] σ (fun r s => r = countF (σ 20) (σ 38 12) (σ 38 1) what ∧ s = σ) := by
  refine Con.of cd_X8_count (Nat.le_of_ble_eq_true rfl) ?_
  intro X hX hZ
  have hX : Fx X G RX8 cX8_count 2 0 := hX
  show RR X G 2 0 (ll [(0, rf G 109), (1, .int what)]) [] σ
  refine r_iload_n (i := 0) hX dX8_count_0 rfl (RR.pc (b := 1) rfl ?_)
  by_cases h1_0 : what = 0
  · refine r_tableIn (tgt := 56) hX dX8_count_1 (by rw [h1_0]; decide) (by rw [h1_0]; decide) (by rw [h1_0]; rfl) rfl ?_
    refine r_aload_n hX dX8_count_56 rfl ⟨_, rfl⟩ (RR.pc (b := 57) rfl ?_)
    refine r_getr hX dX8_count_57 fl_X8_7 (by first | rfl | assumption) rfl (RR.pc (b := 60) rfl ?_)
    refine r_iconst (v := 0) hX dX8_count_60 (by decide) (RR.pc (b := 61) rfl ?_)
    refine r_iald hX dX8_count_61 (by first | rfl | assumption) (by first | rfl | assumption) (by first | decide | assumption | omega) (by decide) (by first | exact Nat.zero_add _ | rfl) (RR.pc (b := 62) rfl ?_)
    exact r_iret hX hZ dX8_count_62 ⟨_, rfl, ⟨by unfold countF; simp_all, rfl⟩⟩
  by_cases h1_1 : what = 1
  · refine r_tableIn (tgt := 63) hX dX8_count_1 (by rw [h1_1]; decide) (by rw [h1_1]; decide) (by rw [h1_1]; rfl) rfl ?_
    refine r_aload_n hX dX8_count_63 rfl ⟨_, rfl⟩ (RR.pc (b := 64) rfl ?_)
    refine r_getr hX dX8_count_64 fl_X8_7 (by first | rfl | assumption) rfl (RR.pc (b := 67) rfl ?_)
    refine r_iconst (v := 2) hX dX8_count_67 (by decide) (RR.pc (b := 68) rfl ?_)
    refine r_iald hX dX8_count_68 (by first | rfl | assumption) (by first | rfl | assumption) (by first | decide | assumption | omega) (by decide) (by first | exact Nat.zero_add _ | rfl) (RR.pc (b := 69) rfl ?_)
    exact r_iret hX hZ dX8_count_69 ⟨_, rfl, ⟨by unfold countF; simp_all, rfl⟩⟩
  by_cases h1_2 : what = 2
  · refine r_tableIn (tgt := 70) hX dX8_count_1 (by rw [h1_2]; decide) (by rw [h1_2]; decide) (by rw [h1_2]; rfl) rfl ?_
    refine r_aload_n hX dX8_count_70 rfl ⟨_, rfl⟩ (RR.pc (b := 71) rfl ?_)
    refine r_getr hX dX8_count_71 fl_X8_7 (by first | rfl | assumption) rfl (RR.pc (b := 74) rfl ?_)
    refine r_bipush (v := 7) hX dX8_count_74 (by decide) (RR.pc (b := 76) rfl ?_)
    refine r_iald hX dX8_count_76 (by first | rfl | assumption) (by first | rfl | assumption) (by first | decide | assumption | omega) (by decide) (by first | exact Nat.zero_add _ | rfl) (RR.pc (b := 77) rfl ?_)
    exact r_iret hX hZ dX8_count_77 ⟨_, rfl, ⟨by unfold countF; simp_all, rfl⟩⟩
  by_cases h1_3 : what = 3
  · refine r_tableIn (tgt := 78) hX dX8_count_1 (by rw [h1_3]; decide) (by rw [h1_3]; decide) (by rw [h1_3]; rfl) rfl ?_
    refine r_aload_n hX dX8_count_78 rfl ⟨_, rfl⟩ (RR.pc (b := 79) rfl ?_)
    refine r_getr hX dX8_count_79 fl_X8_7 (by first | rfl | assumption) rfl (RR.pc (b := 82) rfl ?_)
    refine r_bipush (v := 8) hX dX8_count_82 (by decide) (RR.pc (b := 84) rfl ?_)
    refine r_iald hX dX8_count_84 (by first | rfl | assumption) (by first | rfl | assumption) (by first | decide | assumption | omega) (by decide) (by first | exact Nat.zero_add _ | rfl) (RR.pc (b := 85) rfl ?_)
    exact r_iret hX hZ dX8_count_85 ⟨_, rfl, ⟨by unfold countF; simp_all, rfl⟩⟩
  by_cases h1_4 : what = 4
  · refine r_tableIn (tgt := 86) hX dX8_count_1 (by rw [h1_4]; decide) (by rw [h1_4]; decide) (by rw [h1_4]; rfl) rfl ?_
    refine r_aload_n hX dX8_count_86 rfl ⟨_, rfl⟩ (RR.pc (b := 87) rfl ?_)
    refine r_getr hX dX8_count_87 fl_X8_7 (by first | rfl | assumption) rfl (RR.pc (b := 90) rfl ?_)
    refine r_bipush (v := 9) hX dX8_count_90 (by decide) (RR.pc (b := 92) rfl ?_)
    refine r_iald hX dX8_count_92 (by first | rfl | assumption) (by first | rfl | assumption) (by first | decide | assumption | omega) (by decide) (by first | exact Nat.zero_add _ | rfl) (RR.pc (b := 93) rfl ?_)
    exact r_iret hX hZ dX8_count_93 ⟨_, rfl, ⟨by unfold countF; simp_all, rfl⟩⟩
  by_cases h1_5 : what = 5
  · refine r_tableIn (tgt := 94) hX dX8_count_1 (by rw [h1_5]; decide) (by rw [h1_5]; decide) (by rw [h1_5]; rfl) rfl ?_
    refine r_aload_n hX dX8_count_94 rfl ⟨_, rfl⟩ (RR.pc (b := 95) rfl ?_)
    refine r_getr hX dX8_count_95 fl_X8_7 (by first | rfl | assumption) rfl (RR.pc (b := 98) rfl ?_)
    refine r_bipush (v := 10) hX dX8_count_98 (by decide) (RR.pc (b := 100) rfl ?_)
    refine r_iald hX dX8_count_100 (by first | rfl | assumption) (by first | rfl | assumption) (by first | decide | assumption | omega) (by decide) (by first | exact Nat.zero_add _ | rfl) (RR.pc (b := 101) rfl ?_)
    exact r_iret hX hZ dX8_count_101 ⟨_, rfl, ⟨by unfold countF; simp_all, rfl⟩⟩
  by_cases h1_6 : what = 6
  · refine r_tableIn (tgt := 102) hX dX8_count_1 (by rw [h1_6]; decide) (by rw [h1_6]; decide) (by rw [h1_6]; rfl) rfl ?_
    refine r_aload_n hX dX8_count_102 rfl ⟨_, rfl⟩ (RR.pc (b := 103) rfl ?_)
    refine r_getr hX dX8_count_103 fl_X8_7 (by first | rfl | assumption) rfl (RR.pc (b := 106) rfl ?_)
    refine r_iconst (v := 1) hX dX8_count_106 (by decide) (RR.pc (b := 107) rfl ?_)
    refine r_iald hX dX8_count_107 (by first | rfl | assumption) (by first | rfl | assumption) (by first | decide | assumption | omega) (by decide) (by first | exact Nat.zero_add _ | rfl) (RR.pc (b := 108) rfl ?_)
    exact r_iret hX hZ dX8_count_108 ⟨_, rfl, ⟨by unfold countF; simp_all, rfl⟩⟩
  by_cases h1_7 : what = 7
  · refine r_tableIn (tgt := 109) hX dX8_count_1 (by rw [h1_7]; decide) (by rw [h1_7]; decide) (by rw [h1_7]; rfl) rfl ?_
    refine r_aload_n hX dX8_count_109 rfl ⟨_, rfl⟩ (RR.pc (b := 110) rfl ?_)
    refine r_geti hX dX8_count_110 fl_X8_304 (by first | rfl | assumption) rfl (RR.pc (b := 113) rfl ?_)
    exact r_iret hX hZ dX8_count_113 ⟨_, rfl, ⟨by unfold countF; simp_all, rfl⟩⟩
  by_cases h1_8 : what = 8
  · refine r_tableIn (tgt := 114) hX dX8_count_1 (by rw [h1_8]; decide) (by rw [h1_8]; decide) (by rw [h1_8]; rfl) rfl ?_
    refine r_aload_n hX dX8_count_114 rfl ⟨_, rfl⟩ (RR.pc (b := 115) rfl ?_)
    refine r_geti hX dX8_count_115 fl_X8_184 (by first | rfl | assumption) rfl (RR.pc (b := 118) rfl ?_)
    exact r_iret hX hZ dX8_count_118 ⟨_, rfl, ⟨by unfold countF; simp_all, rfl⟩⟩
  by_cases h1_9 : what = 9
  · refine r_tableIn (tgt := 119) hX dX8_count_1 (by rw [h1_9]; decide) (by rw [h1_9]; decide) (by rw [h1_9]; rfl) rfl ?_
    refine r_aload_n hX dX8_count_119 rfl ⟨_, rfl⟩ (RR.pc (b := 120) rfl ?_)
    refine r_getr hX dX8_count_120 fl_X8_7 (by first | rfl | assumption) rfl (RR.pc (b := 123) rfl ?_)
    refine r_bipush (v := 6) hX dX8_count_123 (by decide) (RR.pc (b := 125) rfl ?_)
    refine r_iald hX dX8_count_125 (by first | rfl | assumption) (by first | rfl | assumption) (by first | decide | assumption | omega) (by decide) (by first | exact Nat.zero_add _ | rfl) (RR.pc (b := 126) rfl ?_)
    exact r_iret hX hZ dX8_count_126 ⟨_, rfl, ⟨by unfold countF; simp_all, rfl⟩⟩
  refine r_tableOut (tgt := 127) hX dX8_count_1 (by have n0 : (what).toInt ≠ 0 := ne_toInt h1_0; have n1 : (what).toInt ≠ 1 := ne_toInt h1_1; have n2 : (what).toInt ≠ 2 := ne_toInt h1_2; have n3 : (what).toInt ≠ 3 := ne_toInt h1_3; have n4 : (what).toInt ≠ 4 := ne_toInt h1_4; have n5 : (what).toInt ≠ 5 := ne_toInt h1_5; have n6 : (what).toInt ≠ 6 := ne_toInt h1_6; have n7 : (what).toInt ≠ 7 := ne_toInt h1_7; have n8 : (what).toInt ≠ 8 := ne_toInt h1_8; have n9 : (what).toInt ≠ 9 := ne_toInt h1_9; omega) rfl ?_
  refine r_ldc hX dX8_count_127 kc_X8_84 (RR.pc (b := 129) rfl ?_)
  exact r_iret hX hZ dX8_count_129 ⟨_, rfl, ⟨by unfold countF; simp_all, rfl⟩⟩
