/-! the class: sheets -/
abbrev lyS (q r o : Nat) : LC := lO 1 [fR q, fI r (o + 24), fI r (o + 25)]
theorem layH {a : Nat} (ha : a < 4) : lay (79 + 2 * a) = lyS (80 + 2 * a) 7 (32 * a) ∧ lay (80 + 2 * a) = lI 24 7 (32 * a) := by
  match a, ha with
  | 0, _ => exact ⟨(rfl : lay 79 = lyS 80 7 0), (rfl : lay 80 = lI 24 7 0)⟩
  | 1, _ => exact ⟨(rfl : lay 81 = lyS 82 7 32), (rfl : lay 82 = lI 24 7 32)⟩
  | 2, _ => exact ⟨(rfl : lay 83 = lyS 84 7 64), (rfl : lay 84 = lI 24 7 64)⟩
  | 3, _ => exact ⟨(rfl : lay 85 = lyS 86 7 96), (rfl : lay 86 = lI 24 7 96)⟩
set_option maxHeartbeats 4000000 in
set_option maxRecDepth 100000 in
theorem c_X1_isMissing {G : GM} {σ : SG} {k q r o : Nat} (hl : lay k = lyS q r o) : CI G yX1_isMissing cX1_isMissing 1 (some .boolean) 0 [rf G k] σ (fun x s => x = bz (σ r (o + 24) = -1) ∧ s = σ) := by
  refine Con.of cd_X1_isMissing (Nat.le_of_ble_eq_true rfl) ?_
  intro X hX hZ
  have hX : Fx X G RX1 cX1_isMissing 1 0 := hX
  show RR X G 1 0 (ll [(0, rf G k)]) [] σ
  refine r_aload_n hX dX1_isMissing_0 rfl ⟨_, rfl⟩ (RR.pc (b := 1) rfl ?_)
  refine r_geti hX dX1_isMissing_1 fl_X1_15 (by first | rfl | assumption) rfl (RR.pc (b := 4) rfl ?_)
  refine r_iconst (v := -1) hX dX1_isMissing_4 (by decide) (RR.pc (b := 5) rfl ?_)
  refine r_icmp_ne (tgt := 12) hX dX1_isMissing_5 rfl (fun h5 => ?_) (fun h5 => RR.pc (b := 8) rfl ?_)
  · refine r_iconst (v := 0) hX dX1_isMissing_12 (by decide) (RR.pc (b := 13) rfl ?_)
    exact r_zret hX hZ dX1_isMissing_13 (by first | rfl | exact nar_bz _) ⟨_, rfl, ⟨by first | exact (bz_t h5).symm | exact (bz_f h5).symm, rfl⟩⟩
  · refine r_iconst (v := 1) hX dX1_isMissing_8 (by decide) (RR.pc (b := 9) rfl ?_)
    refine r_goto (tgt := 13) hX dX1_isMissing_9 rfl ?_
    exact r_zret hX hZ dX1_isMissing_13 (by first | rfl | exact nar_bz _) ⟨_, rfl, ⟨by first | exact (bz_t h5).symm | exact (bz_f h5).symm, rfl⟩⟩
theorem has_iff {p : Int32} {z : Nat} (hz : z ≤ 24) : ((0 : Int32).toInt ≤ p.toInt ∧ p.toInt ≤ (nI z - 1).toInt) ↔ (0 ≤ p.toInt ∧ p.toInt < z) := by
  rw [sub1_toInt (by omega), i32_0]
  omega
theorem bz_iff {p q : Prop} [Decidable p] [Decidable q] (h : p ↔ q) : bz p = bz q := by
  by_cases c : p
  · rw [bz_t c, bz_t (h.mp c)]
  · rw [bz_f c, bz_f (fun z => c (h.mpr z))]
set_option maxHeartbeats 4000000 in
set_option maxRecDepth 100000 in
theorem c_X1_has {G : GM} {σ : SG} {k q r o z : Nat} {p : Int32} (hl : lay k = lyS q r o) (hz : z ≤ 24) (ez : σ r (o + 25) = nI z) : CI G yX1_has cX1_has 2 (some .boolean) 1 [rf G k, .int p] σ (fun x s => x = bz (0 ≤ p.toInt ∧ p.toInt < z) ∧ s = σ) := by
  refine Con.of cd_X1_has (Nat.le_of_ble_eq_true rfl) ?_
  intro X hX hZ
  have hX : Fx X G RX1 cX1_has 2 1 := hX
  show RR X G 2 0 (ll [(0, rf G k), (1, .int p)]) [] σ
  refine r_iload_n (i := 0) hX dX1_has_0 rfl (RR.pc (b := 1) rfl ?_)
  refine r_iconst (v := 0) hX dX1_has_1 (by decide) (RR.pc (b := 2) rfl ?_)
  refine r_aload_n hX dX1_has_2 rfl ⟨_, rfl⟩ (RR.pc (b := 3) rfl ?_)
  refine r_geti hX dX1_has_3 fl_X1_19 (by first | rfl | assumption) rfl (RR.pc (b := 6) rfl ?_)
  refine r_iconst (v := 1) hX dX1_has_6 (by decide) (RR.pc (b := 7) rfl ?_)
  rw [ez]
  refine r_isub hX dX1_has_7 (RR.pc (b := 8) rfl ?_)
  refine r_callSNie hX dX1_has_8 (List.mem_of_getElem? (i := 1) rfl) cd_X7_within st_X7_within c_X7_within (by decide) rfl rfl (Nat.le_of_ble_eq_true rfl) (RR.pc (b := 11) rfl ?_)
  exact r_zret hX hZ dX1_has_11 (by first | rfl | exact nar_bz _) ⟨_, rfl, ⟨bz_iff (has_iff hz), rfl⟩⟩
set_option maxHeartbeats 4000000 in
set_option maxRecDepth 100000 in
theorem c_X1_hasNumber {G : GM} {σ : SG} {k q r o z j : Nat} (hl : lay k = lyS q r o) (hl1 : lay q = lI 24 r o) (hz : z ≤ 24) (ez : σ r (o + 25) = nI z) (hj : j < 1000) : CI G yX1_hasNumber cX1_hasNumber 2 (some .boolean) 2 [rf G k, .int (nI j)] σ (fun x s => x = bz (j < z ∧ ¬ σ r (o + j) = vNONE) ∧ s = σ) := by
  refine Con.of cd_X1_hasNumber (Nat.le_of_ble_eq_true rfl) ?_
  intro X hX hZ
  have hX : Fx X G RX1 cX1_hasNumber 2 2 := hX
  show RR X G 2 0 (ll [(0, rf G k), (1, .int (nI j))]) [] σ
  refine r_aload_n hX dX1_hasNumber_0 rfl ⟨_, rfl⟩ (RR.pc (b := 1) rfl ?_)
  refine r_iload_n (i := 0) hX dX1_hasNumber_1 rfl (RR.pc (b := 2) rfl ?_)
  refine r_callVie hX dX1_hasNumber_2 ml_X1_38 cd_X1_has iv_X1_has (c_X1_has hl hz ez) (by decide) (by first | rfl | assumption) rfl rfl rfl rfl (Nat.le_of_ble_eq_true rfl) (RR.pc (b := 5) rfl ?_)
  refine r_if_eq_b (tgt := 23) hX dX1_hasNumber_5 rfl (fun h5 => ?_) (fun h5 => RR.pc (b := 8) rfl ?_)
  · refine r_iconst (v := 0) hX dX1_hasNumber_23 (by decide) (RR.pc (b := 24) rfl ?_)
    exact r_zret hX hZ dX1_hasNumber_24 (by first | rfl | exact nar_bz _) ⟨_, rfl, ⟨by first | (refine (bz_f (fun q => h5 ?_)).symm; rw [nI_toInt (by omega)]; have := q.1; omega) | (refine (bz_t ⟨?_, h16⟩).symm; omega) | exact (bz_f (fun q => q.2 h16)).symm, rfl⟩⟩
  · rw [nI_toInt (by omega)] at h5
    refine r_aload_n hX dX1_hasNumber_8 rfl ⟨_, rfl⟩ (RR.pc (b := 9) rfl ?_)
    refine r_getr hX dX1_hasNumber_9 fl_X1_9 (by first | rfl | assumption) rfl (RR.pc (b := 12) rfl ?_)
    refine r_iload_n (i := 0) hX dX1_hasNumber_12 rfl (RR.pc (b := 13) rfl ?_)
    refine r_iald hX dX1_hasNumber_13 (by first | rfl | assumption) rfl (by omega) (by first | decide | omega) (by first | exact Nat.zero_add _ | rfl) (RR.pc (b := 14) rfl ?_)
    refine r_ldc hX dX1_hasNumber_14 kc_X1_42 (RR.pc (b := 16) rfl ?_)
    refine r_icmp_eq (tgt := 23) hX dX1_hasNumber_16 rfl (fun h16 => ?_) (fun h16 => RR.pc (b := 19) rfl ?_)
    · refine r_iconst (v := 0) hX dX1_hasNumber_23 (by decide) (RR.pc (b := 24) rfl ?_)
      exact r_zret hX hZ dX1_hasNumber_24 (by first | rfl | exact nar_bz _) ⟨_, rfl, ⟨by first | (refine (bz_f (fun q => h5 ?_)).symm; rw [nI_toInt (by omega)]; have := q.1; omega) | (refine (bz_t ⟨?_, h16⟩).symm; omega) | exact (bz_f (fun q => q.2 h16)).symm, rfl⟩⟩
    · refine r_iconst (v := 1) hX dX1_hasNumber_19 (by decide) (RR.pc (b := 20) rfl ?_)
      refine r_goto (tgt := 24) hX dX1_hasNumber_20 rfl ?_
      exact r_zret hX hZ dX1_hasNumber_24 (by first | rfl | exact nar_bz _) ⟨_, rfl, ⟨by first | (refine (bz_f (fun q => h5 ?_)).symm; rw [nI_toInt (by omega)]; have := q.1; omega) | (refine (bz_t ⟨?_, h16⟩).symm; omega) | exact (bz_f (fun q => q.2 h16)).symm, rfl⟩⟩
def filL (f : Nat → Int32) (o : Nat) (v : Int32) : Nat → (Nat → Int32)
  | 0 => f
  | k + 1 => upd (filL f o v k) (o + k) v
set_option maxHeartbeats 4000000 in
set_option maxRecDepth 100000 in
theorem c_J7_fill_53178 {G : GM} {σ : SG} {k r o n : Nat} {v : Int32} (hl : lay k = lI n r o) (h0 : 0 < n) (hn : n ≤ 1000) : CU G yJ7_fill_53178 cJ7_fill_53178 4 none 0 [rf G k, .int v] σ (fun s => s = sr σ r (filL (σ r) o v n)) := by
  refine Con.of cd_J7_fill_53178 (Nat.le_of_ble_eq_true rfl) ?_
  intro X hX hZ
  have hX : Fx X G RJ7 cJ7_fill_53178 4 0 := hX
  show RR X G 4 0 (ll [(0, rf G k), (1, .int v)]) [] σ
  have loop := loopK n (fun j => RR X G 4 5 (ll [(0, rf G k), (1, .int v), (2, .int (nI j)), (3, .int (nI n))]) [] (sr σ r (filL (σ r) o v j))) (by
    intro j hj ih
    refine r_iload_n (i := 0) hX dJ7_fill_53178_5 rfl (RR.pc (b := 6) rfl ?_)
    refine r_iload_n (i := 0) hX dJ7_fill_53178_6 rfl (RR.pc (b := 7) rfl ?_)
    refine r_icmp_ge (tgt := 20) hX dJ7_fill_53178_7 rfl (fun h7 => ?_) (fun h7 => RR.pc (b := 10) rfl ?_)
    · have hj2 : j = n := by rw [nI_leI (by omega) (by omega)] at h7; omega
      subst hj2
      exact r_vret hX hZ dJ7_fill_53178_20 ⟨rfl, rfl⟩
    · have hj2 : j < n := by rw [nI_leI (by omega) (by omega)] at h7; omega
      refine r_aload_n hX dJ7_fill_53178_10 rfl ⟨_, rfl⟩ (RR.pc (b := 11) rfl ?_)
      refine r_iload_n (i := 0) hX dJ7_fill_53178_11 rfl (RR.pc (b := 12) rfl ?_)
      refine r_iload_n (i := 0) hX dJ7_fill_53178_12 rfl (RR.pc (b := 13) rfl ?_)
      refine r_iast hX dJ7_fill_53178_13 (by first | rfl | assumption) rfl (by omega) (by first | decide | omega) (by first | exact Nat.zero_add _ | rfl) (RR.pc (b := 14) rfl ?_)
      refine r_iinc hX dJ7_fill_53178_14 rfl (by decide) (nI_1 j) (RR.pc (b := 17) rfl ?_)
      refine r_goto (tgt := 5) hX dJ7_fill_53178_17 rfl ?_
      refine RR.eqs ?_ (RR.cut (ih hj2) (List.forall_mem_cons.mpr ⟨rfl, List.forall_mem_cons.mpr ⟨rfl, List.forall_mem_cons.mpr ⟨rfl, List.forall_mem_cons.mpr ⟨rfl, fun _ h => absurd h List.not_mem_nil⟩⟩⟩⟩))
      rw [su, sr_sr, sr_eq]
      rfl
    )
  refine r_iconst (v := 0) hX dJ7_fill_53178_0 (by decide) (RR.pc (b := 1) rfl ?_)
  refine r_istore_n hX dJ7_fill_53178_1 (by decide) (RR.pc (b := 2) rfl ?_)
  refine r_aload_n hX dJ7_fill_53178_2 rfl ⟨_, rfl⟩ (RR.pc (b := 3) rfl ?_)
  refine r_alen hX dJ7_fill_53178_3 hl h0 (RR.pc (b := 4) rfl ?_)
  refine r_istore_n hX dJ7_fill_53178_4 (by decide) (RR.pc (b := 5) rfl ?_)
  exact RR.eqs (sr_self (r := r)).symm (RR.cut (loop 0 (by omega)) (List.forall_mem_cons.mpr ⟨rfl, List.forall_mem_cons.mpr ⟨rfl, List.forall_mem_cons.mpr ⟨rfl, List.forall_mem_cons.mpr ⟨rfl, fun _ h => absurd h List.not_mem_nil⟩⟩⟩⟩))
set_option maxHeartbeats 4000000 in
set_option maxRecDepth 100000 in
theorem c_X1_begin {G : GM} {σ : SG} {k q r o : Nat} {a b : Int32} (hl : lay k = lyS q r o) (hl1 : lay q = lI 24 r o) : CU G yX1_begin cX1_begin 3 none 1 [rf G k, .int a, .int b] σ (fun s => s = sr σ r (filL (upd (upd (σ r) (o + 24) a) (o + 25) b) o 0 24)) := by
  refine Con.of cd_X1_begin (Nat.le_of_ble_eq_true rfl) ?_
  intro X hX hZ
  have hX : Fx X G RX1 cX1_begin 3 1 := hX
  show RR X G 3 0 (ll [(0, rf G k), (1, .int a), (2, .int b)]) [] σ
  refine r_aload_n hX dX1_begin_0 rfl ⟨_, rfl⟩ (RR.pc (b := 1) rfl ?_)
  refine r_iload_n (i := 0) hX dX1_begin_1 rfl (RR.pc (b := 2) rfl ?_)
  refine r_puti hX dX1_begin_2 fl_X1_15 (by first | rfl | assumption) rfl ft_1_1 (RR.pc (b := 5) rfl ?_)
  refine r_aload_n hX dX1_begin_5 rfl ⟨_, rfl⟩ (RR.pc (b := 6) rfl ?_)
  refine r_iload_n (i := 0) hX dX1_begin_6 rfl (RR.pc (b := 7) rfl ?_)
  refine r_puti hX dX1_begin_7 fl_X1_19 (by first | rfl | assumption) rfl ft_1_2 (RR.pc (b := 10) rfl ?_)
  refine r_aload_n hX dX1_begin_10 rfl ⟨_, rfl⟩ (RR.pc (b := 11) rfl ?_)
  refine r_getr hX dX1_begin_11 fl_X1_9 (by first | rfl | assumption) rfl (RR.pc (b := 14) rfl ?_)
  refine r_iconst (v := 0) hX dX1_begin_14 (by decide) (RR.pc (b := 15) rfl ?_)
  refine r_callSve hX dX1_begin_15 ml_X1_22 cd_J7_fill_53178 st_J7_fill_53178 (c_J7_fill_53178 hl1 (by decide) (by decide)) (by decide) rfl rfl (Nat.le_of_ble_eq_true rfl) (RR.pc (b := 18) rfl ?_)
  exact r_vret hX hZ dX1_begin_18 ⟨rfl, by simp only [su, sr_eq, sr_sr]⟩
theorem filL_at {f : Nat → Int32} {o i : Nat} {v : Int32} : ∀ {k : Nat}, filL f o v k i = if o ≤ i ∧ i < o + k then v else f i := by
  intro k
  induction k with
  | zero => rw [if_neg (by omega)]; rfl
  | succ k ih =>
    unfold filL
    by_cases e : i = o + k
    · subst e
      rw [pk_us, if_pos (by omega)]
    · rw [pk_un e, ih]
      by_cases h : o ≤ i ∧ i < o + k
      · rw [if_pos h, if_pos (by omega)]
      · rw [if_neg h, if_neg (by omega)]
/-- the class's sheets -/
def shC (σ : SG) (a j : Nat) : Int32 := σ 7 (32 * a + j)
theorem begin_eq {σ : SG} {a : Nat} {sort v : Int32} : shEq (shC (sr σ 7 (filL (upd (upd (σ 7) (32 * a + 24) sort) (32 * a + 25) v) (32 * a) 0 24))) (rowS (shC σ) a (rowN sort v)) := by
  intro b hb j hj
  unfold shC rowS
  rw [sr_eq, filL_at]
  by_cases e : b = a
  · subst e
    rw [if_pos rfl]
    unfold rowN
    by_cases h : j < 24
    · rw [if_pos (by omega), if_pos h]
    · rw [if_neg (by omega), if_neg h]
      by_cases h2 : j = 24
      · subst h2
        rw [if_pos rfl, pk_un (by omega), pk_us]
      · have : j = 25 := by omega
        subst this
        rw [if_neg (by decide), pk_us]
  · rw [if_neg e, if_neg (by omega), pk_un (by omega), pk_un (by omega)]
theorem shEq.rf {S : Nat → Nat → Int32} : shEq S S := fun _ _ _ _ => rfl
set_option maxHeartbeats 4000000 in
set_option maxRecDepth 100000 in
theorem c_X7_sheet {G : GM} {σ : SG} {sheet sort n : Int32} : CI G yX7_sheet cX7_sheet 4 (some .int) 2 [rf G 0, .int sheet, .int sort, .int n] σ (fun r s => r = (sheetF (shC σ) sheet sort n).1 ∧ shEq (shC s) (sheetF (shC σ) sheet sort n).2 ∧ same [7] σ s) := by
  refine Con.of cd_X7_sheet (Nat.le_of_ble_eq_true rfl) ?_
  intro X hX hZ
  have hX : Fx X G RX7 cX7_sheet 4 2 := hX
  show RR X G 4 0 (ll [(0, rf G 0), (1, .int sheet), (2, .int sort), (3, .int n)]) [] σ
  have bad : sheetF (shC σ) sheet sort n = (vBAD, shC σ) → RR X G 4 16 (ll [(0, rf G 0)]) [] σ := by
    intro h
    refine r_ldc hX dX7_sheet_16 kc_X7_75 (RR.pc (b := 18) rfl ?_)
    exact r_iret hX hZ dX7_sheet_18 ⟨_, rfl, ⟨by rw [h], by rw [h]; exact shEq.rf, same.rf⟩⟩
  refine r_iload_n (i := 0) hX dX7_sheet_0 rfl (RR.pc (b := 1) rfl ?_)
  refine r_callSie hX dX7_sheet_1 ml_X7_206 cd_X7_isSheet st_X7_isSheet c_X7_isSheet (by decide) rfl rfl (Nat.le_of_ble_eq_true rfl) (RR.pc (b := 4) rfl ?_)
  refine r_if_eq_b (tgt := 16) hX dX7_sheet_4 rfl (fun h4 => ?_) (fun h4 => RR.pc (b := 7) rfl ?_)
  · first | exact RR.cut (bad (by unfold sheetF; rw [ix_none (fun z => h4 (by omega))])) (List.forall_mem_cons.mpr ⟨rfl, fun _ h => absurd h List.not_mem_nil⟩) | exact RR.cut (bad (by obtain ⟨a, ha, e⟩ := ix_of (n := 4) (k := sheet) ⟨by omega, by omega⟩ (by omega); unfold sheetF; rw [e, ix_some ha (by omega)]; exact if_pos h13)) (List.forall_mem_cons.mpr ⟨rfl, fun _ h => absurd h List.not_mem_nil⟩)
  · refine r_iload_n (i := 0) hX dX7_sheet_7 rfl (RR.pc (b := 8) rfl ?_)
    refine r_iconst (v := -1) hX dX7_sheet_8 (by decide) (RR.pc (b := 9) rfl ?_)
    refine r_iconst (v := 1) hX dX7_sheet_9 (by decide) (RR.pc (b := 10) rfl ?_)
    refine r_callSie hX dX7_sheet_10 ml_X7_71 cd_X7_within st_X7_within c_X7_within (by decide) rfl rfl (Nat.le_of_ble_eq_true rfl) (RR.pc (b := 13) rfl ?_)
    refine r_if_ne_b (tgt := 19) hX dX7_sheet_13 rfl (fun h13 => ?_) (fun h13 => RR.pc (b := 16) rfl ?_)
    · try simp only [Int32.reduceToInt] at h13
      obtain ⟨a, ha, rfl⟩ := ix_of (n := 4) (k := sheet) ⟨by omega, by omega⟩ (by omega)
      obtain ⟨lh, lh1⟩ := layH ha
      have eF : sheetF (shC σ) (nI a) sort n = if sort.toInt < 0 then (0, rowS (shC σ) a (rowN sort 0)) else if 24 < n.toInt then (vBAD, shC σ) else if n.toInt < 0 then (vSIZE, shC σ) else (n, rowS (shC σ) a (rowN sort n)) := by
        unfold sheetF
        rw [ix_some ha (by omega)]
        exact if_neg (fun z => z h13)
      refine r_iload_n (i := 0) hX dX7_sheet_19 rfl (RR.pc (b := 20) rfl ?_)
      refine r_iconst (v := -1) hX dX7_sheet_20 (by decide) (RR.pc (b := 21) rfl ?_)
      refine r_icmp_ne (tgt := 37) hX dX7_sheet_21 rfl (fun h21 => ?_) (fun h21 => RR.pc (b := 24) rfl ?_)
      · have hs0 : ¬ sort.toInt < 0 := fun z => h21 (Int32.toInt_inj.mp (by have : (-1 : Int32).toInt = -1 := rfl; omega))
        refine r_iload_n (i := 0) hX dX7_sheet_37 rfl (RR.pc (b := 38) rfl ?_)
        refine r_bipush (v := 24) hX dX7_sheet_38 (by decide) (RR.pc (b := 40) rfl ?_)
        refine r_icmp_le (tgt := 46) hX dX7_sheet_40 rfl (fun h40 => ?_) (fun h40 => RR.pc (b := 43) rfl ?_)
        · have c24 : ¬ 24 < n.toInt := by rw [Int32.le_iff_toInt_le] at h40; have : (24 : Int32).toInt = 24 := rfl; omega
          refine r_iload_n (i := 0) hX dX7_sheet_46 rfl (RR.pc (b := 47) rfl ?_)
          refine r_if_ge (tgt := 54) hX dX7_sheet_47 rfl (fun h47 => ?_) (fun h47 => RR.pc (b := 50) rfl ?_)
          · have c0 : ¬ n.toInt < 0 := by rw [Int32.le_iff_toInt_le] at h47; have : (0 : Int32).toInt = 0 := rfl; omega
            refine r_aload_n hX dX7_sheet_54 rfl ⟨_, rfl⟩ (RR.pc (b := 55) rfl ?_)
            refine r_getr hX dX7_sheet_55 fl_X7_51 (by first | rfl | assumption) rfl (RR.pc (b := 58) rfl ?_)
            refine r_iload_n (i := 0) hX dX7_sheet_58 rfl (RR.pc (b := 59) rfl ?_)
            refine r_aald hX dX7_sheet_59 (by first | rfl | assumption) ⟨_, rfl⟩ rfl (by omega) (by decide) (RR.pc (b := 60) rfl ?_)
            refine r_iload_n (i := 0) hX dX7_sheet_60 rfl (RR.pc (b := 61) rfl ?_)
            refine r_iload_n (i := 0) hX dX7_sheet_61 rfl (RR.pc (b := 62) rfl ?_)
            refine r_callVve hX dX7_sheet_62 ml_X7_252 cd_X1_begin iv_X1_begin (c_X1_begin lh lh1) (by decide) (by first | rfl | assumption) rfl rfl rfl rfl (Nat.le_of_ble_eq_true rfl) (RR.pc (b := 65) rfl ?_)
            refine r_iload_n (i := 0) hX dX7_sheet_65 rfl (RR.pc (b := 66) rfl ?_)
            exact r_iret hX hZ dX7_sheet_66 ⟨_, rfl, (by rw [eF, if_neg hs0, if_neg c24, if_neg c0]; exact ⟨rfl, begin_eq, same.rf.sr (by simp)⟩)⟩
          · have c0 : n.toInt < 0 := by rw [Int32.not_le, Int32.lt_iff_toInt_lt] at h47; exact h47
            refine r_ldcw hX dX7_sheet_50 kc_X7_256 (RR.pc (b := 53) rfl ?_)
            exact r_iret hX hZ dX7_sheet_53 ⟨_, rfl, (by rw [eF, if_neg hs0, if_neg c24, if_pos c0]; exact ⟨rfl, shEq.rf, same.rf⟩)⟩
        · have c24 : 24 < n.toInt := by rw [Int32.not_le, Int32.lt_iff_toInt_lt] at h40; exact h40
          refine r_ldc hX dX7_sheet_43 kc_X7_75 (RR.pc (b := 45) rfl ?_)
          exact r_iret hX hZ dX7_sheet_45 ⟨_, rfl, (by rw [eF, if_neg hs0, if_pos c24]; exact ⟨rfl, shEq.rf, same.rf⟩)⟩
      · refine r_aload_n hX dX7_sheet_24 rfl ⟨_, rfl⟩ (RR.pc (b := 25) rfl ?_)
        refine r_getr hX dX7_sheet_25 fl_X7_51 (by first | rfl | assumption) rfl (RR.pc (b := 28) rfl ?_)
        refine r_iload_n (i := 0) hX dX7_sheet_28 rfl (RR.pc (b := 29) rfl ?_)
        refine r_aald hX dX7_sheet_29 (by first | rfl | assumption) ⟨_, rfl⟩ rfl (by omega) (by decide) (RR.pc (b := 30) rfl ?_)
        refine r_iconst (v := -1) hX dX7_sheet_30 (by decide) (RR.pc (b := 31) rfl ?_)
        refine r_iconst (v := 0) hX dX7_sheet_31 (by decide) (RR.pc (b := 32) rfl ?_)
        refine r_callVve hX dX7_sheet_32 ml_X7_252 cd_X1_begin iv_X1_begin (c_X1_begin lh lh1) (by decide) (by first | rfl | assumption) rfl rfl rfl rfl (Nat.le_of_ble_eq_true rfl) (RR.pc (b := 35) rfl ?_)
        refine r_iconst (v := 0) hX dX7_sheet_35 (by decide) (RR.pc (b := 36) rfl ?_)
        exact r_iret hX hZ dX7_sheet_36 ⟨_, rfl, (by subst h21; rw [eF, if_pos (by decide)]; exact ⟨rfl, begin_eq, same.rf.sr (by simp)⟩)⟩
    · try simp only [Int32.reduceToInt] at h13
      first | exact RR.cut (bad (by unfold sheetF; rw [ix_none (fun z => h4 (by omega))])) (List.forall_mem_cons.mpr ⟨rfl, fun _ h => absurd h List.not_mem_nil⟩) | exact RR.cut (bad (by obtain ⟨a, ha, e⟩ := ix_of (n := 4) (k := sheet) ⟨by omega, by omega⟩ (by omega); unfold sheetF; rw [e, ix_some ha (by omega)]; exact if_pos h13)) (List.forall_mem_cons.mpr ⟨rfl, fun _ h => absurd h List.not_mem_nil⟩)
/-- the sheets are as they may be -/
def SO (S : Nat → Nat → Int32) : Prop := ∀ a, a < 4 → (S a 24 = -1 ∨ S a 24 = 0 ∨ S a 24 = 1) ∧ ∃ z : Nat, z ≤ 24 ∧ S a 25 = nI z
theorem SO.miss {S : Nat → Nat → Int32} {a : Nat} (h : SO S) (ha : a < 4) : S a 24 < 0 ↔ S a 24 = -1 := by
  rcases (h a ha).1 with e | e | e <;> rw [e] <;> decide
set_option maxHeartbeats 4000000 in
set_option maxRecDepth 100000 in
theorem c_X7_reads {G : GM} {σ : SG} {sheet : Int32} (hS : SO (shC σ)) : CI G yX7_reads cX7_reads 4 (some .int) 3 [rf G 0, .int sheet] σ (fun r s => r = readF (shC σ) (σ 0) sheet ∧ s = σ) := by
  refine Con.of cd_X7_reads (Nat.le_of_ble_eq_true rfl) ?_
  intro X hX hZ
  have hX : Fx X G RX7 cX7_reads 4 3 := hX
  show RR X G 4 0 (ll [(0, rf G 0), (1, .int sheet)]) [] σ
  have go : ∀ (a z : Nat), a < 4 → z ≤ 24 → σ 7 (32 * a + 25) = nI z → readF (shC σ) (σ 0) sheet = reaN (shC σ a) (σ 0) z z → RR X G 4 27 (ll [(0, rf G 0), (2, rf G (79 + 2 * a))]) [] σ := by
    intro a z ha hz1 hz2 hF
    obtain ⟨lh, lh1⟩ := layH ha
    have loop := loopK z (fun k => reaN (shC σ a) (σ 0) z z = reaN (shC σ a) (σ 0) z (z - k) → RR X G 4 29 (ll [(0, rf G 0), (2, rf G (79 + 2 * a)), (3, .int (nI k))]) [] σ) (by
      intro k hk ih he
      refine r_iload_n (i := 0) hX dX7_reads_29 rfl (RR.pc (b := 30) rfl ?_)
      refine r_aload_n hX dX7_reads_30 rfl ⟨_, rfl⟩ (RR.pc (b := 31) rfl ?_)
      refine r_geti hX dX7_reads_31 fl_X7_276 (by first | rfl | assumption) rfl (RR.pc (b := 34) rfl ?_)
      rw [hz2]
      refine r_icmp_ge (tgt := 71) hX dX7_reads_34 rfl (fun h34 => ?_) (fun h34 => RR.pc (b := 37) rfl ?_)
      · have hk2 : k = z := by rw [nI_leI (by omega) (by omega)] at h34; omega
        subst hk2
        refine r_ldc hX dX7_reads_71 kc_X7_199 (RR.pc (b := 73) rfl ?_)
        exact r_iret hX hZ dX7_reads_73 ⟨_, rfl, ⟨by rw [hF, he, Nat.sub_self]; rfl, rfl⟩⟩
      · have hk2 : k < z := by rw [nI_leI (by omega) (by omega)] at h34; omega
        have e1 : reaN (shC σ a) (σ 0) z (z - k) = if ¬ shC σ a k = vNONE ∧ ¬ shC σ a k = σ 0 (11 + k) then nI k else reaN (shC σ a) (σ 0) z (z - (k + 1)) := by
          rw [show z - k = (z - (k + 1)) + 1 by omega, reaN, show z - (z - (k + 1) + 1) = k by omega]
        refine r_aload_n hX dX7_reads_37 rfl ⟨_, rfl⟩ (RR.pc (b := 38) rfl ?_)
        refine r_iload_n (i := 0) hX dX7_reads_38 rfl (RR.pc (b := 39) rfl ?_)
        refine r_callVie hX dX7_reads_39 ml_X7_269 cd_X1_hasNumber iv_X1_hasNumber (c_X1_hasNumber (j := k) lh lh1 hz1 hz2 (by omega)) (by decide) (by first | rfl | assumption) rfl rfl rfl rfl (Nat.le_of_ble_eq_true rfl) (RR.pc (b := 42) rfl ?_)
        refine r_if_eq_b (tgt := 65) hX dX7_reads_42 rfl (fun h42 => ?_) (fun h42 => RR.pc (b := 45) rfl ?_)
        · refine r_iinc hX dX7_reads_65 rfl (by decide) (nI_1 k) (RR.pc (b := 68) rfl ?_)
          refine r_goto (tgt := 29) hX dX7_reads_68 rfl ?_
          exact RR.cut (ih hk2 (by rw [he, e1]; exact if_neg (fun q => by first | exact h42 ⟨hk2, q.1⟩ | exact q.2 h60))) (List.forall_mem_cons.mpr ⟨rfl, List.forall_mem_cons.mpr ⟨rfl, List.forall_mem_cons.mpr ⟨rfl, fun _ h => absurd h List.not_mem_nil⟩⟩⟩)
        · refine r_aload_n hX dX7_reads_45 rfl ⟨_, rfl⟩ (RR.pc (b := 46) rfl ?_)
          refine r_getr hX dX7_reads_46 fl_X7_266 (by first | rfl | assumption) rfl (RR.pc (b := 49) rfl ?_)
          refine r_iload_n (i := 0) hX dX7_reads_49 rfl (RR.pc (b := 50) rfl ?_)
          refine r_iald hX dX7_reads_50 (by first | rfl | assumption) rfl (by omega) (by first | decide | omega) (by first | exact Nat.zero_add _ | rfl) (RR.pc (b := 51) rfl ?_)
          refine r_aload_n hX dX7_reads_51 rfl ⟨_, rfl⟩ (RR.pc (b := 52) rfl ?_)
          refine r_getr hX dX7_reads_52 fl_X7_39 (by first | rfl | assumption) rfl (RR.pc (b := 55) rfl ?_)
          refine r_getr hX dX7_reads_55 fl_X7_140 (by first | rfl | assumption) rfl (RR.pc (b := 58) rfl ?_)
          refine r_iload_n (i := 0) hX dX7_reads_58 rfl (RR.pc (b := 59) rfl ?_)
          refine r_iald hX dX7_reads_59 (by first | rfl | assumption) rfl (by omega) (by first | decide | omega) (by first | exact Nat.zero_add _ | rfl) (RR.pc (b := 60) rfl ?_)
          refine r_icmp_eq (tgt := 65) hX dX7_reads_60 rfl (fun h60 => ?_) (fun h60 => RR.pc (b := 63) rfl ?_)
          · refine r_iinc hX dX7_reads_65 rfl (by decide) (nI_1 k) (RR.pc (b := 68) rfl ?_)
            refine r_goto (tgt := 29) hX dX7_reads_68 rfl ?_
            exact RR.cut (ih hk2 (by rw [he, e1]; exact if_neg (fun q => by first | exact h42 ⟨hk2, q.1⟩ | exact q.2 h60))) (List.forall_mem_cons.mpr ⟨rfl, List.forall_mem_cons.mpr ⟨rfl, List.forall_mem_cons.mpr ⟨rfl, fun _ h => absurd h List.not_mem_nil⟩⟩⟩)
          · refine r_iload_n (i := 0) hX dX7_reads_63 rfl (RR.pc (b := 64) rfl ?_)
            exact r_iret hX hZ dX7_reads_64 ⟨_, rfl, ⟨by rw [hF, he, e1]; exact (if_pos ⟨h42.2, h60⟩).symm, rfl⟩⟩
      )
    refine r_iconst (v := 0) hX dX7_reads_27 (by decide) (RR.pc (b := 28) rfl ?_)
    refine r_istore_n hX dX7_reads_28 (by decide) (RR.pc (b := 29) rfl ?_)
    exact RR.cut (loop 0 (by omega) rfl) (List.forall_mem_cons.mpr ⟨rfl, List.forall_mem_cons.mpr ⟨rfl, List.forall_mem_cons.mpr ⟨rfl, fun _ h => absurd h List.not_mem_nil⟩⟩⟩)
  refine r_iload_n (i := 0) hX dX7_reads_0 rfl (RR.pc (b := 1) rfl ?_)
  refine r_callSie hX dX7_reads_1 ml_X7_206 cd_X7_isSheet st_X7_isSheet c_X7_isSheet (by decide) rfl rfl (Nat.le_of_ble_eq_true rfl) (RR.pc (b := 4) rfl ?_)
  refine r_if_ne_b (tgt := 10) hX dX7_reads_4 rfl (fun h4 => ?_) (fun h4 => RR.pc (b := 7) rfl ?_)
  · obtain ⟨a, ha, rfl⟩ := ix_of (n := 4) (k := sheet) ⟨by omega, by omega⟩ (by omega)
    obtain ⟨lh, lh1⟩ := layH ha
    obtain ⟨z, hz1, hz2⟩ := (hS a ha).2
    have q25 : (shC σ a 25).toNatClampNeg = z := by rw [hz2, nI_clamp (by omega)]
    refine r_aload_n hX dX7_reads_10 rfl ⟨_, rfl⟩ (RR.pc (b := 11) rfl ?_)
    refine r_getr hX dX7_reads_11 fl_X7_51 (by first | rfl | assumption) rfl (RR.pc (b := 14) rfl ?_)
    refine r_iload_n (i := 0) hX dX7_reads_14 rfl (RR.pc (b := 15) rfl ?_)
    refine r_aald hX dX7_reads_15 (by first | rfl | assumption) ⟨_, rfl⟩ rfl (by omega) (by decide) (RR.pc (b := 16) rfl ?_)
    refine r_astore_n hX dX7_reads_16 (by decide) ⟨_, rfl⟩ (RR.pc (b := 17) rfl ?_)
    refine r_aload_n hX dX7_reads_17 rfl ⟨_, rfl⟩ (RR.pc (b := 18) rfl ?_)
    refine r_callVie hX dX7_reads_18 ml_X7_209 cd_X1_isMissing iv_X1_isMissing (c_X1_isMissing lh) (by decide) (by first | rfl | assumption) rfl rfl rfl rfl (Nat.le_of_ble_eq_true rfl) (RR.pc (b := 21) rfl ?_)
    refine r_if_eq_b (tgt := 27) hX dX7_reads_21 rfl (fun h21 => ?_) (fun h21 => RR.pc (b := 24) rfl ?_)
    · exact RR.cut (go a z ha hz1 hz2 (by unfold readF; rw [ix_some ha (by omega)]; dsimp only; rw [if_neg (fun q => h21 ((hS.miss ha).mp q)), q25])) (List.forall_mem_cons.mpr ⟨rfl, List.forall_mem_cons.mpr ⟨rfl, fun _ h => absurd h List.not_mem_nil⟩⟩)
    · refine r_ldc hX dX7_reads_24 kc_X7_212 (RR.pc (b := 26) rfl ?_)
      exact r_iret hX hZ dX7_reads_26 ⟨_, rfl, (by unfold readF; rw [ix_some ha (by omega)]; dsimp only; rw [if_pos ((hS.miss ha).mpr h21)]; exact ⟨rfl, rfl⟩)⟩
  · refine r_ldc hX dX7_reads_7 kc_X7_75 (RR.pc (b := 9) rfl ?_)
    exact r_iret hX hZ dX7_reads_9 ⟨_, rfl, (by unfold readF; rw [ix_none (by omega)]; exact ⟨rfl, rfl⟩)⟩
set_option maxHeartbeats 4000000 in
set_option maxRecDepth 100000 in
theorem c_X1_hasRow {G : GM} {σ : SG} {k q r o z : Nat} {a n : Int32} (hl : lay k = lyS q r o) (hz : z ≤ 24) (ez : σ r (o + 25) = nI z) : CI G yX1_hasRow cX1_hasRow 3 (some .boolean) 0 [rf G k, .int a, .int n] σ (fun x s => x = bz (0 ≤ n.toInt ∧ 0 ≤ a.toInt ∧ a.toInt + n.toInt ≤ z) ∧ s = σ) := by
  refine Con.of cd_X1_hasRow (Nat.le_of_ble_eq_true rfl) ?_
  intro X hX hZ
  have hX : Fx X G RX1 cX1_hasRow 3 0 := hX
  show RR X G 3 0 (ll [(0, rf G k), (1, .int a), (2, .int n)]) [] σ
  have no : ¬ (0 ≤ n.toInt ∧ 0 ≤ a.toInt ∧ a.toInt + n.toInt ≤ z) → RR X G 3 30 (ll []) [] σ := by
    intro h
    refine r_iconst (v := 0) hX dX1_hasRow_30 (by decide) (RR.pc (b := 31) rfl ?_)
    exact r_zret hX hZ dX1_hasRow_31 (by first | rfl | exact nar_bz _) ⟨_, rfl, ⟨(bz_f h).symm, rfl⟩⟩
  have z0 : (0 : Int32).toInt = 0 := rfl
  refine r_iload_n (i := 0) hX dX1_hasRow_0 rfl (RR.pc (b := 1) rfl ?_)
  refine r_if_lt (tgt := 30) hX dX1_hasRow_1 rfl (fun h1 => ?_) (fun h1 => RR.pc (b := 4) rfl ?_)
  · first | exact RR.cut (no (fun t => by rw [Int32.lt_iff_toInt_lt, z0] at h1; omega)) (fun _ h => absurd h List.not_mem_nil) | exact RR.cut (no (fun t => by rw [Int32.lt_iff_toInt_lt, z0] at h5; omega)) (fun _ h => absurd h List.not_mem_nil) | exact RR.cut (no (fun t => by rw [Int32.lt_iff_toInt_lt, nI_toInt (by omega)] at h13; omega)) (fun _ h => absurd h List.not_mem_nil) | exact RR.cut (no (fun t => by rw [Int32.lt_iff_toInt_lt, nI_toInt (by omega)] at h23; rw [nI_toInt (by omega)] at t; omega)) (fun _ h => absurd h List.not_mem_nil)
  · have n0 : 0 ≤ n.toInt := by rw [Int32.lt_iff_toInt_lt, z0] at h1; omega
    refine r_iload_n (i := 0) hX dX1_hasRow_4 rfl (RR.pc (b := 5) rfl ?_)
    refine r_if_lt (tgt := 30) hX dX1_hasRow_5 rfl (fun h5 => ?_) (fun h5 => RR.pc (b := 8) rfl ?_)
    · first | exact RR.cut (no (fun t => by rw [Int32.lt_iff_toInt_lt, z0] at h1; omega)) (fun _ h => absurd h List.not_mem_nil) | exact RR.cut (no (fun t => by rw [Int32.lt_iff_toInt_lt, z0] at h5; omega)) (fun _ h => absurd h List.not_mem_nil) | exact RR.cut (no (fun t => by rw [Int32.lt_iff_toInt_lt, nI_toInt (by omega)] at h13; omega)) (fun _ h => absurd h List.not_mem_nil) | exact RR.cut (no (fun t => by rw [Int32.lt_iff_toInt_lt, nI_toInt (by omega)] at h23; rw [nI_toInt (by omega)] at t; omega)) (fun _ h => absurd h List.not_mem_nil)
    · have a0 : 0 ≤ a.toInt := by rw [Int32.lt_iff_toInt_lt, z0] at h5; omega
      refine r_iload_n (i := 0) hX dX1_hasRow_8 rfl (RR.pc (b := 9) rfl ?_)
      refine r_aload_n hX dX1_hasRow_9 rfl ⟨_, rfl⟩ (RR.pc (b := 10) rfl ?_)
      refine r_geti hX dX1_hasRow_10 fl_X1_19 (by first | rfl | assumption) rfl (RR.pc (b := 13) rfl ?_)
      rw [ez]
      refine r_icmp_gt (tgt := 30) hX dX1_hasRow_13 rfl (fun h13 => ?_) (fun h13 => RR.pc (b := 16) rfl ?_)
      · first | exact RR.cut (no (fun t => by rw [Int32.lt_iff_toInt_lt, z0] at h1; omega)) (fun _ h => absurd h List.not_mem_nil) | exact RR.cut (no (fun t => by rw [Int32.lt_iff_toInt_lt, z0] at h5; omega)) (fun _ h => absurd h List.not_mem_nil) | exact RR.cut (no (fun t => by rw [Int32.lt_iff_toInt_lt, nI_toInt (by omega)] at h13; omega)) (fun _ h => absurd h List.not_mem_nil) | exact RR.cut (no (fun t => by rw [Int32.lt_iff_toInt_lt, nI_toInt (by omega)] at h23; rw [nI_toInt (by omega)] at t; omega)) (fun _ h => absurd h List.not_mem_nil)
      · have az : a.toInt ≤ z := by rw [Int32.lt_iff_toInt_lt, nI_toInt (by omega)] at h13; omega
        obtain ⟨b, hb, rfl⟩ := ix_of (n := z + 1) (k := a) ⟨by omega, by omega⟩ (by omega)
        refine r_iload_n (i := 0) hX dX1_hasRow_16 rfl (RR.pc (b := 17) rfl ?_)
        refine r_aload_n hX dX1_hasRow_17 rfl ⟨_, rfl⟩ (RR.pc (b := 18) rfl ?_)
        refine r_geti hX dX1_hasRow_18 fl_X1_19 (by first | rfl | assumption) rfl (RR.pc (b := 21) rfl ?_)
        refine r_iload_n (i := 0) hX dX1_hasRow_21 rfl (RR.pc (b := 22) rfl ?_)
        rw [ez]
        refine r_isub hX dX1_hasRow_22 (RR.pc (b := 23) rfl ?_)
        rw [pk_sub (by omega)]
        refine r_icmp_gt (tgt := 30) hX dX1_hasRow_23 rfl (fun h23 => ?_) (fun h23 => RR.pc (b := 26) rfl ?_)
        · first | exact RR.cut (no (fun t => by rw [Int32.lt_iff_toInt_lt, z0] at h1; omega)) (fun _ h => absurd h List.not_mem_nil) | exact RR.cut (no (fun t => by rw [Int32.lt_iff_toInt_lt, z0] at h5; omega)) (fun _ h => absurd h List.not_mem_nil) | exact RR.cut (no (fun t => by rw [Int32.lt_iff_toInt_lt, nI_toInt (by omega)] at h13; omega)) (fun _ h => absurd h List.not_mem_nil) | exact RR.cut (no (fun t => by rw [Int32.lt_iff_toInt_lt, nI_toInt (by omega)] at h23; rw [nI_toInt (by omega)] at t; omega)) (fun _ h => absurd h List.not_mem_nil)
        · refine r_iconst (v := 1) hX dX1_hasRow_26 (by decide) (RR.pc (b := 27) rfl ?_)
          refine r_goto (tgt := 31) hX dX1_hasRow_27 rfl ?_
          exact r_zret hX hZ dX1_hasRow_31 (by first | rfl | exact nar_bz _) ⟨_, rfl, ⟨(bz_t ⟨n0, a0, by rw [Int32.lt_iff_toInt_lt, nI_toInt (by omega)] at h23; rw [nI_toInt (by omega)]; omega⟩).symm, rfl⟩⟩
