/-! the reference: sheets -/
def shR (σ : SG) (a j : Nat) : Int32 := if j < 24 then σ 25 (24 * a + j) else if j = 24 then σ 23 a else σ 24 a
def shEq (S S' : Nat → Nat → Int32) : Prop := ∀ a, a < 4 → ∀ j, j < 26 → S a j = S' a j
def rowS (S : Nat → Nat → Int32) (a : Nat) (f : Nat → Int32) : Nat → Nat → Int32 := fun b => if b = a then f else S b
def rowN (sort n : Int32) : Nat → Int32 := fun j => if j < 24 then 0 else if j = 24 then sort else n
def sheetF (S : Nat → Nat → Int32) (sheet sort n : Int32) : Int32 × (Nat → Nat → Int32) := match ix sheet 4 with
  | none => (vBAD, S)
  | some a => if ¬ (-1 ≤ sort.toInt ∧ sort.toInt ≤ 1) then (vBAD, S) else if sort.toInt < 0 then (0, rowS S a (rowN sort 0)) else if 24 < n.toInt then (vBAD, S) else if n.toInt < 0 then (vSIZE, S) else (n, rowS S a (rowN sort n))
theorem shR_sort {σ : SG} {a : Nat} : shR σ a 24 = σ 23 a := by simp [shR]
theorem shR_size {σ : SG} {a : Nat} : shR σ a 25 = σ 24 a := by simp [shR]
theorem shR_pl {σ : SG} {a j : Nat} (h : j < 24) : shR σ a j = σ 25 (24 * a + j) := if_pos h
/-- k places of a row are 0 -/
def zerL (f : Nat → Int32) (o : Nat) : Nat → (Nat → Int32)
  | 0 => f
  | k + 1 => upd (zerL f o k) (o + k) 0
theorem zerL_at {f : Nat → Int32} {o i : Nat} : ∀ {k : Nat}, zerL f o k i = if o ≤ i ∧ i < o + k then 0 else f i := by
  intro k
  induction k with
  | zero => rw [if_neg (by omega)]; rfl
  | succ k ih =>
    unfold zerL
    by_cases e : i = o + k
    · subst e
      rw [pk_us, if_pos (by omega)]
    · rw [pk_un e, ih]
      by_cases h : o ≤ i ∧ i < o + k
      · rw [if_pos h, if_pos (by omega)]
      · rw [if_neg h, if_neg (by omega)]
theorem ix24 (a k : Nat) : (24 : Int32) * nI a + nI k = nI (24 * a + k) := by show nI 24 * nI a + nI k = _; rw [pk_mul, nI_add]
theorem i32_0 : (0 : Int32).toInt = 0 := by decide
theorem sheet_eq {σ : SG} {a : Nat} {sort v : Int32} (ha : a < 4) : shEq (shR (sr (su (su σ 23 a sort) 24 a v) 25 (zerL (σ 25) (24 * a) 24))) (rowS (shR σ) a (rowN sort v)) := by
  intro b hb j hj
  unfold rowS
  by_cases e : b = a
  · subst e
    rw [if_pos rfl]
    unfold rowN
    by_cases h : j < 24
    · rw [if_pos h, shR_pl h, sr_eq, zerL_at, if_pos (by omega)]
    · rw [if_neg h]
      by_cases h2 : j = 24
      · subst h2
        rw [if_pos rfl, shR_sort, sr_ne (by decide), su_ne (by decide), su_eq, pk_us]
      · have : j = 25 := by omega
        subst this
        rw [if_neg (by decide), shR_size, sr_ne (by decide), su_eq, pk_us]
  · rw [if_neg e]
    by_cases h : j < 24
    · rw [shR_pl h, shR_pl h, sr_eq, zerL_at, if_neg (by omega)]
    · by_cases h2 : j = 24
      · subst h2
        rw [shR_sort, shR_sort, sr_ne (by decide), su_ne (by decide), su_eq, pk_un e]
      · have : j = 25 := by omega
        subst this
        rw [shR_size, shR_size, sr_ne (by decide), su_eq, pk_un e, su_ne (by decide)]
set_option maxHeartbeats 4000000 in
set_option maxRecDepth 100000 in
theorem c_X8_sheet {G : GM} {σ : SG} {sheet sort n : Int32} : CI G yX8_sheet cX8_sheet 5 (some .int) 2 [rf G 109, .int sheet, .int sort, .int n] σ (fun r s => r = (sheetF (shR σ) sheet sort n).1 ∧ shEq (shR s) (sheetF (shR σ) sheet sort n).2 ∧ same [23, 24, 25] σ s) := by
  refine Con.of cd_X8_sheet (Nat.le_of_ble_eq_true rfl) ?_
  intro X hX hZ
  have hX : Fx X G RX8 cX8_sheet 5 2 := hX
  show RR X G 5 0 (ll [(0, rf G 109), (1, .int sheet), (2, .int sort), (3, .int n)]) [] σ
  have go : ∀ (a : Nat) (v : Int32), a < 4 → sheet = nI a → v = (if 0 ≤ sort then n else 0) → sheetF (shR σ) sheet sort n = (v, rowS (shR σ) a (rowN sort v)) → RR X G 5 44 (ll [(0, rf G 109), (1, .int sheet), (2, .int sort), (3, .int n)]) [] σ := by
    intro a v ha e hv hF
    subst e
    have loop := loopK 24 (fun k => RR X G 5 69 (ll [(0, rf G 109), (1, .int (nI a)), (4, .int (nI k))]) [] (sr (su (su σ 23 a sort) 24 a v) 25 (zerL (σ 25) (24 * a) k))) (by
      intro k hk ih
      refine r_iload hX dX8_sheet_69 rfl (RR.pc (b := 71) rfl ?_)
      refine r_bipush (v := 24) hX dX8_sheet_71 (by decide) (RR.pc (b := 73) rfl ?_)
      refine r_icmp_ge (tgt := 95) hX dX8_sheet_73 rfl (fun h73 => ?_) (fun h73 => RR.pc (b := 76) rfl ?_)
      · have hk2 : k = 24 := by rw [show (24 : Int32) = nI 24 from rfl, nI_leI (by omega) (by omega)] at h73; omega
        subst hk2
        refine r_aload_n hX dX8_sheet_95 rfl ⟨_, rfl⟩ (RR.pc (b := 96) rfl ?_)
        refine r_getr hX dX8_sheet_96 fl_X8_22 (by first | rfl | assumption) rfl (RR.pc (b := 99) rfl ?_)
        refine r_iload_n (i := 0) hX dX8_sheet_99 rfl (RR.pc (b := 100) rfl ?_)
        refine r_iald hX dX8_sheet_100 (by first | rfl | assumption) rfl (by omega) (by decide) (by first | exact Nat.zero_add _ | rfl) (RR.pc (b := 101) rfl ?_)
        rw [sr_ne (by decide), su_eq, pk_us]
        exact r_iret hX hZ dX8_sheet_101 ⟨_, rfl, ⟨by rw [hF], by rw [hF]; exact sheet_eq ha, (((same.rf.su (by simp)).su (by simp)).sr (by simp))⟩⟩
      · have hk2 : k < 24 := by rw [show (24 : Int32) = nI 24 from rfl, nI_leI (by omega) (by omega)] at h73; omega
        refine r_aload_n hX dX8_sheet_76 rfl ⟨_, rfl⟩ (RR.pc (b := 77) rfl ?_)
        refine r_getr hX dX8_sheet_77 fl_X8_25 (by first | rfl | assumption) rfl (RR.pc (b := 80) rfl ?_)
        refine r_bipush (v := 24) hX dX8_sheet_80 (by decide) (RR.pc (b := 82) rfl ?_)
        refine r_iload_n (i := 0) hX dX8_sheet_82 rfl (RR.pc (b := 83) rfl ?_)
        refine r_imul hX dX8_sheet_83 (RR.pc (b := 84) rfl ?_)
        refine r_iload hX dX8_sheet_84 rfl (RR.pc (b := 86) rfl ?_)
        refine r_iadd hX dX8_sheet_86 (RR.pc (b := 87) rfl ?_)
        refine r_iconst (v := 0) hX dX8_sheet_87 (by decide) (RR.pc (b := 88) rfl ?_)
        refine r_iast hX dX8_sheet_88 (by first | rfl | assumption) (ix24 a k) (by omega) (by decide) (by first | exact Nat.zero_add _ | rfl) (RR.pc (b := 89) rfl ?_)
        refine r_iinc hX dX8_sheet_89 rfl (by decide) (nI_1 k) (RR.pc (b := 92) rfl ?_)
        refine r_goto (tgt := 69) hX dX8_sheet_92 rfl ?_
        exact RR.eqs su_sr (RR.cut (ih hk2) (List.forall_mem_cons.mpr ⟨rfl, List.forall_mem_cons.mpr ⟨rfl, List.forall_mem_cons.mpr ⟨rfl, fun _ h => absurd h List.not_mem_nil⟩⟩⟩))
      )
    refine r_aload_n hX dX8_sheet_44 rfl ⟨_, rfl⟩ (RR.pc (b := 45) rfl ?_)
    refine r_getr hX dX8_sheet_45 fl_X8_19 (by first | rfl | assumption) rfl (RR.pc (b := 48) rfl ?_)
    refine r_iload_n (i := 0) hX dX8_sheet_48 rfl (RR.pc (b := 49) rfl ?_)
    refine r_iload_n (i := 0) hX dX8_sheet_49 rfl (RR.pc (b := 50) rfl ?_)
    refine r_iast hX dX8_sheet_50 (by first | rfl | assumption) rfl (by omega) (by decide) (by first | exact Nat.zero_add _ | rfl) (RR.pc (b := 51) rfl ?_)
    refine r_aload_n hX dX8_sheet_51 rfl ⟨_, rfl⟩ (RR.pc (b := 52) rfl ?_)
    refine r_getr hX dX8_sheet_52 fl_X8_22 (by first | rfl | assumption) rfl (RR.pc (b := 55) rfl ?_)
    refine r_iload_n (i := 0) hX dX8_sheet_55 rfl (RR.pc (b := 56) rfl ?_)
    refine r_iload_n (i := 0) hX dX8_sheet_56 rfl (RR.pc (b := 57) rfl ?_)
    refine r_dia1 65 (if 0 ≤ sort then n else 0) (fun hj57 => ?_) ?_
    · refine r_if_ge (tgt := 64) hX dX8_sheet_57 rfl (fun h57 => ?_) (fun h57 => RR.pc (b := 60) rfl ?_)
      · refine r_iload_n (i := 0) hX dX8_sheet_64 rfl (RR.pc (b := 65) rfl ?_)
        exact RR.eqt (congrArg (fun q => Value.int q :: _) (if_pos h57).symm) hj57
      · refine r_iconst (v := 0) hX dX8_sheet_60 (by decide) (RR.pc (b := 61) rfl ?_)
        refine r_goto (tgt := 65) hX dX8_sheet_61 rfl ?_
        exact RR.eqt (congrArg (fun q => Value.int q :: _) (if_neg h57).symm) hj57
    refine r_iast hX dX8_sheet_65 (by first | rfl | assumption) rfl (by omega) (by decide) (by first | exact Nat.zero_add _ | rfl) (RR.pc (b := 66) rfl ?_)
    refine r_iconst (v := 0) hX dX8_sheet_66 (by decide) (RR.pc (b := 67) rfl ?_)
    refine r_istore hX dX8_sheet_67 (by decide) (RR.pc (b := 69) rfl ?_)
    refine RR.eqs ?_ (RR.cut (loop 0 (by omega)) (List.forall_mem_cons.mpr ⟨rfl, List.forall_mem_cons.mpr ⟨rfl, List.forall_mem_cons.mpr ⟨rfl, fun _ h => absurd h List.not_mem_nil⟩⟩⟩))
    rw [← hv, show zerL (σ 25) (24 * a) 0 = (su (su σ 23 a sort) 24 a v) 25 from by rw [su_ne (by decide), su_ne (by decide)]; rfl, sr_self]
  refine r_iload_n (i := 0) hX dX8_sheet_0 rfl (RR.pc (b := 1) rfl ?_)
  refine r_callSie hX dX8_sheet_1 ml_X8_285 cd_X8_isSheet st_X8_isSheet c_X8_isSheet (by decide) rfl rfl (Nat.le_of_ble_eq_true rfl) (RR.pc (b := 4) rfl ?_)
  refine r_if_eq_b (tgt := 29) hX dX8_sheet_4 rfl (fun h4 => ?_) (fun h4 => RR.pc (b := 7) rfl ?_)
  · refine r_ldc hX dX8_sheet_29 kc_X8_84 (RR.pc (b := 31) rfl ?_)
    exact r_iret hX hZ dX8_sheet_31 ⟨_, rfl, (by unfold sheetF; first | (rw [ix_none (by omega)]; exact ⟨rfl, fun _ _ _ _ => rfl, same.rf⟩) | (rw [ix_some ha (by omega)]; dsimp only; first | (rw [if_pos h16]; exact ⟨rfl, fun _ _ _ _ => rfl, same.rf⟩) | (rw [if_neg (fun z => z h16), if_neg (by rw [Int32.lt_iff_toInt_lt, i32_0] at h20; exact h20), if_pos (by rw [Int32.le_iff_toInt_le] at h26; exact Int.not_le.mp h26)]; exact ⟨rfl, fun _ _ _ _ => rfl, same.rf⟩)))⟩
  · obtain ⟨a, ha, rfl⟩ := ix_of (n := 4) (k := sheet) ⟨by omega, by omega⟩ (by omega)
    refine r_iload_n (i := 0) hX dX8_sheet_7 rfl (RR.pc (b := 8) rfl ?_)
    refine r_i2l hX dX8_sheet_8 (RR.pc (b := 9) rfl ?_)
    refine r_ldc2 hX dX8_sheet_9 k2_X8_288 (RR.pc (b := 12) rfl ?_)
    refine r_lconst (v := 1) hX dX8_sheet_12 rfl (RR.pc (b := 13) rfl ?_)
    refine r_callSie hX dX8_sheet_13 ml_X8_65 cd_X8_isIn st_X8_isIn c_X8_isIn (by decide) rfl rfl (Nat.le_of_ble_eq_true rfl) (RR.pc (b := 16) rfl ?_)
    refine r_if_eq_b (tgt := 29) hX dX8_sheet_16 rfl (fun h16 => ?_) (fun h16 => RR.pc (b := 19) rfl ?_)
    · simp only [Int32.toInt_toInt64, Int64.reduceToInt] at h16
      refine r_ldc hX dX8_sheet_29 kc_X8_84 (RR.pc (b := 31) rfl ?_)
      exact r_iret hX hZ dX8_sheet_31 ⟨_, rfl, (by unfold sheetF; first | (rw [ix_none (by omega)]; exact ⟨rfl, fun _ _ _ _ => rfl, same.rf⟩) | (rw [ix_some ha (by omega)]; dsimp only; first | (rw [if_pos h16]; exact ⟨rfl, fun _ _ _ _ => rfl, same.rf⟩) | (rw [if_neg (fun z => z h16), if_neg (by rw [Int32.lt_iff_toInt_lt, i32_0] at h20; exact h20), if_pos (by rw [Int32.le_iff_toInt_le] at h26; exact Int.not_le.mp h26)]; exact ⟨rfl, fun _ _ _ _ => rfl, same.rf⟩)))⟩
    · simp only [Int32.toInt_toInt64, Int64.reduceToInt] at h16
      refine r_iload_n (i := 0) hX dX8_sheet_19 rfl (RR.pc (b := 20) rfl ?_)
      refine r_if_lt (tgt := 32) hX dX8_sheet_20 rfl (fun h20 => ?_) (fun h20 => RR.pc (b := 23) rfl ?_)
      · refine r_iload_n (i := 0) hX dX8_sheet_32 rfl (RR.pc (b := 33) rfl ?_)
        refine r_if_lt (tgt := 44) hX dX8_sheet_33 rfl (fun h33 => ?_) (fun h33 => RR.pc (b := 36) rfl ?_)
        · first | exact RR.cut (go a 0 ha rfl (by rw [if_neg (Int32.not_le.mpr h33)]) (by unfold sheetF; rw [ix_some ha (by omega)]; dsimp only; rw [if_neg (fun z => z h16), if_pos (show sort.toInt < 0 from Int32.lt_iff_toInt_lt.mp h33)])) (List.forall_mem_cons.mpr ⟨rfl, List.forall_mem_cons.mpr ⟨rfl, List.forall_mem_cons.mpr ⟨rfl, List.forall_mem_cons.mpr ⟨rfl, fun _ h => absurd h List.not_mem_nil⟩⟩⟩⟩) | exact RR.cut (go a n ha rfl (by rw [if_pos (Int32.not_lt.mp h33)]) (by unfold sheetF; rw [ix_some ha (by omega)]; dsimp only; rw [if_neg (fun z => z h16), if_neg (show ¬ sort.toInt < 0 from fun z => h33 (Int32.lt_iff_toInt_lt.mpr z)), if_neg (by first | (rw [Int32.le_iff_toInt_le] at h26; exact Int.not_lt.mpr h26) | exact absurd h20 h33), if_neg (by rw [Int32.le_iff_toInt_le, i32_0] at h37; omega)])) (List.forall_mem_cons.mpr ⟨rfl, List.forall_mem_cons.mpr ⟨rfl, List.forall_mem_cons.mpr ⟨rfl, List.forall_mem_cons.mpr ⟨rfl, fun _ h => absurd h List.not_mem_nil⟩⟩⟩⟩)
        · refine r_iload_n (i := 0) hX dX8_sheet_36 rfl (RR.pc (b := 37) rfl ?_)
          refine r_if_ge (tgt := 44) hX dX8_sheet_37 rfl (fun h37 => ?_) (fun h37 => RR.pc (b := 40) rfl ?_)
          · first | exact RR.cut (go a 0 ha rfl (by rw [if_neg (Int32.not_le.mpr h33)]) (by unfold sheetF; rw [ix_some ha (by omega)]; dsimp only; rw [if_neg (fun z => z h16), if_pos (show sort.toInt < 0 from Int32.lt_iff_toInt_lt.mp h33)])) (List.forall_mem_cons.mpr ⟨rfl, List.forall_mem_cons.mpr ⟨rfl, List.forall_mem_cons.mpr ⟨rfl, List.forall_mem_cons.mpr ⟨rfl, fun _ h => absurd h List.not_mem_nil⟩⟩⟩⟩) | exact RR.cut (go a n ha rfl (by rw [if_pos (Int32.not_lt.mp h33)]) (by unfold sheetF; rw [ix_some ha (by omega)]; dsimp only; rw [if_neg (fun z => z h16), if_neg (show ¬ sort.toInt < 0 from fun z => h33 (Int32.lt_iff_toInt_lt.mpr z)), if_neg (by first | (rw [Int32.le_iff_toInt_le] at h26; exact Int.not_lt.mpr h26) | exact absurd h20 h33), if_neg (by rw [Int32.le_iff_toInt_le, i32_0] at h37; omega)])) (List.forall_mem_cons.mpr ⟨rfl, List.forall_mem_cons.mpr ⟨rfl, List.forall_mem_cons.mpr ⟨rfl, List.forall_mem_cons.mpr ⟨rfl, fun _ h => absurd h List.not_mem_nil⟩⟩⟩⟩)
          · refine r_ldcw hX dX8_sheet_40 kc_X8_290 (RR.pc (b := 43) rfl ?_)
            exact r_iret hX hZ dX8_sheet_43 ⟨_, rfl, (by unfold sheetF; rw [ix_some ha (by omega)]; dsimp only; rw [Int32.lt_iff_toInt_lt, i32_0] at h33; rw [if_neg (fun z => z h16), if_neg h33]; first | (rw [if_neg (by rw [Int32.le_iff_toInt_le] at h26; exact Int.not_lt.mpr h26), if_pos (by rw [Int32.le_iff_toInt_le, i32_0] at h37; exact Int.not_le.mp h37)]; exact ⟨rfl, fun _ _ _ _ => rfl, same.rf⟩) | exact absurd (Int32.lt_iff_toInt_lt.mp h20) h33)⟩
      · refine r_iload_n (i := 0) hX dX8_sheet_23 rfl (RR.pc (b := 24) rfl ?_)
        refine r_bipush (v := 24) hX dX8_sheet_24 (by decide) (RR.pc (b := 26) rfl ?_)
        refine r_icmp_le (tgt := 32) hX dX8_sheet_26 rfl (fun h26 => ?_) (fun h26 => RR.pc (b := 29) rfl ?_)
        · refine r_iload_n (i := 0) hX dX8_sheet_32 rfl (RR.pc (b := 33) rfl ?_)
          refine r_if_lt (tgt := 44) hX dX8_sheet_33 rfl (fun h33 => ?_) (fun h33 => RR.pc (b := 36) rfl ?_)
          · first | exact RR.cut (go a 0 ha rfl (by rw [if_neg (Int32.not_le.mpr h33)]) (by unfold sheetF; rw [ix_some ha (by omega)]; dsimp only; rw [if_neg (fun z => z h16), if_pos (show sort.toInt < 0 from Int32.lt_iff_toInt_lt.mp h33)])) (List.forall_mem_cons.mpr ⟨rfl, List.forall_mem_cons.mpr ⟨rfl, List.forall_mem_cons.mpr ⟨rfl, List.forall_mem_cons.mpr ⟨rfl, fun _ h => absurd h List.not_mem_nil⟩⟩⟩⟩) | exact RR.cut (go a n ha rfl (by rw [if_pos (Int32.not_lt.mp h33)]) (by unfold sheetF; rw [ix_some ha (by omega)]; dsimp only; rw [if_neg (fun z => z h16), if_neg (show ¬ sort.toInt < 0 from fun z => h33 (Int32.lt_iff_toInt_lt.mpr z)), if_neg (by first | (rw [Int32.le_iff_toInt_le] at h26; exact Int.not_lt.mpr h26) | exact absurd h20 h33), if_neg (by rw [Int32.le_iff_toInt_le, i32_0] at h37; omega)])) (List.forall_mem_cons.mpr ⟨rfl, List.forall_mem_cons.mpr ⟨rfl, List.forall_mem_cons.mpr ⟨rfl, List.forall_mem_cons.mpr ⟨rfl, fun _ h => absurd h List.not_mem_nil⟩⟩⟩⟩)
          · refine r_iload_n (i := 0) hX dX8_sheet_36 rfl (RR.pc (b := 37) rfl ?_)
            refine r_if_ge (tgt := 44) hX dX8_sheet_37 rfl (fun h37 => ?_) (fun h37 => RR.pc (b := 40) rfl ?_)
            · first | exact RR.cut (go a 0 ha rfl (by rw [if_neg (Int32.not_le.mpr h33)]) (by unfold sheetF; rw [ix_some ha (by omega)]; dsimp only; rw [if_neg (fun z => z h16), if_pos (show sort.toInt < 0 from Int32.lt_iff_toInt_lt.mp h33)])) (List.forall_mem_cons.mpr ⟨rfl, List.forall_mem_cons.mpr ⟨rfl, List.forall_mem_cons.mpr ⟨rfl, List.forall_mem_cons.mpr ⟨rfl, fun _ h => absurd h List.not_mem_nil⟩⟩⟩⟩) | exact RR.cut (go a n ha rfl (by rw [if_pos (Int32.not_lt.mp h33)]) (by unfold sheetF; rw [ix_some ha (by omega)]; dsimp only; rw [if_neg (fun z => z h16), if_neg (show ¬ sort.toInt < 0 from fun z => h33 (Int32.lt_iff_toInt_lt.mpr z)), if_neg (by first | (rw [Int32.le_iff_toInt_le] at h26; exact Int.not_lt.mpr h26) | exact absurd h20 h33), if_neg (by rw [Int32.le_iff_toInt_le, i32_0] at h37; omega)])) (List.forall_mem_cons.mpr ⟨rfl, List.forall_mem_cons.mpr ⟨rfl, List.forall_mem_cons.mpr ⟨rfl, List.forall_mem_cons.mpr ⟨rfl, fun _ h => absurd h List.not_mem_nil⟩⟩⟩⟩)
            · refine r_ldcw hX dX8_sheet_40 kc_X8_290 (RR.pc (b := 43) rfl ?_)
              exact r_iret hX hZ dX8_sheet_43 ⟨_, rfl, (by unfold sheetF; rw [ix_some ha (by omega)]; dsimp only; rw [Int32.lt_iff_toInt_lt, i32_0] at h33; rw [if_neg (fun z => z h16), if_neg h33]; first | (rw [if_neg (by rw [Int32.le_iff_toInt_le] at h26; exact Int.not_lt.mpr h26), if_pos (by rw [Int32.le_iff_toInt_le, i32_0] at h37; exact Int.not_le.mp h37)]; exact ⟨rfl, fun _ _ _ _ => rfl, same.rf⟩) | exact absurd (Int32.lt_iff_toInt_lt.mp h20) h33)⟩
        · refine r_ldc hX dX8_sheet_29 kc_X8_84 (RR.pc (b := 31) rfl ?_)
          exact r_iret hX hZ dX8_sheet_31 ⟨_, rfl, (by unfold sheetF; first | (rw [ix_none (by omega)]; exact ⟨rfl, fun _ _ _ _ => rfl, same.rf⟩) | (rw [ix_some ha (by omega)]; dsimp only; first | (rw [if_pos h16]; exact ⟨rfl, fun _ _ _ _ => rfl, same.rf⟩) | (rw [if_neg (fun z => z h16), if_neg (by rw [Int32.lt_iff_toInt_lt, i32_0] at h20; exact h20), if_pos (by rw [Int32.le_iff_toInt_le] at h26; exact Int.not_le.mp h26)]; exact ⟨rfl, fun _ _ _ _ => rfl, same.rf⟩)))⟩
abbrev sh16 (v : Int32) : Int32 := (v <<< ((16 : Int32) &&& 31)) >>> ((16 : Int32) &&& 31)
def markF (S : Nat → Nat → Int32) (sheet place v : Int32) : Int32 × (Nat → Nat → Int32) := match ix sheet 4 with
  | none => (vBAD, S)
  | some a => if S a 24 < 0 then (vNOTH, S) else match ix place (S a 25).toNatClampNeg with
    | none => (vINDEX, S)
    | some p => if S a 24 = 0 ∧ v = vNONE then (vKIND, S) else if S a 24 = 1 ∧ ¬ v = vNONE ∧ ¬ (-99999 ≤ v.toInt ∧ v.toInt ≤ 99999) then (vBAD, S) else (1, rowS S a (upd (S a) p (if S a 24 = 0 then sh16 v else v)))
theorem sub1_toInt {z : Nat} (h : z < 2 ^ 30) : (nI z - 1).toInt = (z : Int) - 1 := pk_sub_toInt (a := z) (b := 1) h (by omega)
theorem mark_eq {σ : SG} {a p : Nat} {v : Int32} (ha : a < 4) (hp : p < 24) : shEq (shR (su σ 25 (24 * a + p) v)) (rowS (shR σ) a (upd (shR σ a) p v)) := by
  intro b hb j hj
  unfold rowS
  by_cases e : b = a
  · subst e
    rw [if_pos rfl]
    by_cases h : j < 24
    · rw [shR_pl h, su_eq]
      by_cases e2 : j = p
      · subst e2
        rw [pk_us, pk_us]
      · rw [pk_un (by omega), pk_un e2, shR_pl h]
    · rw [pk_un (by omega)]
      unfold shR
      rw [if_neg h, if_neg h, su_ne (by decide), su_ne (by decide)]
  · rw [if_neg e]
    unfold shR
    rw [su_eq, su_ne (show (23 : Nat) ≠ 25 by decide), su_ne (show (24 : Nat) ≠ 25 by decide)]
    by_cases h : j < 24
    · rw [if_pos h, if_pos h, pk_un (by omega)]
    · rw [if_neg h, if_neg h]
set_option maxHeartbeats 4000000 in
set_option maxRecDepth 100000 in
theorem c_X8_mark {G : GM} {σ : SG} {sheet place v : Int32} (hz : ∀ a, a < 4 → ∃ z : Nat, z ≤ 24 ∧ σ 24 a = nI z) : CI G yX8_mark cX8_mark 4 (some .int) 2 [rf G 109, .int sheet, .int place, .int v] σ (fun r s => r = (markF (shR σ) sheet place v).1 ∧ shEq (shR s) (markF (shR σ) sheet place v).2 ∧ same [25] σ s) := by
  refine Con.of cd_X8_mark (Nat.le_of_ble_eq_true rfl) ?_
  intro X hX hZ
  have hX : Fx X G RX8 cX8_mark 4 2 := hX
  show RR X G 4 0 (ll [(0, rf G 109), (1, .int sheet), (2, .int place), (3, .int v)]) [] σ
  have idS : shEq (shR σ) (shR σ) := fun _ _ _ _ => rfl
  refine r_iload_n (i := 0) hX dX8_mark_0 rfl (RR.pc (b := 1) rfl ?_)
  refine r_callSie hX dX8_mark_1 ml_X8_285 cd_X8_isSheet st_X8_isSheet c_X8_isSheet (by decide) rfl rfl (Nat.le_of_ble_eq_true rfl) (RR.pc (b := 4) rfl ?_)
  refine r_if_ne_b (tgt := 10) hX dX8_mark_4 rfl (fun h4 => ?_) (fun h4 => RR.pc (b := 7) rfl ?_)
  · obtain ⟨a, ha, rfl⟩ := ix_of (n := 4) (k := sheet) ⟨by omega, by omega⟩ (by omega)
    obtain ⟨z, hz1, hz2⟩ := hz a ha
    have q24 := shR_sort (σ := σ) (a := a)
    have q25 : (shR σ a 25).toNatClampNeg = z := by rw [shR_size, hz2, nI_clamp (by omega)]
    refine r_aload_n hX dX8_mark_10 rfl ⟨_, rfl⟩ (RR.pc (b := 11) rfl ?_)
    refine r_getr hX dX8_mark_11 fl_X8_19 (by first | rfl | assumption) rfl (RR.pc (b := 14) rfl ?_)
    refine r_iload_n (i := 0) hX dX8_mark_14 rfl (RR.pc (b := 15) rfl ?_)
    refine r_iald hX dX8_mark_15 (by first | rfl | assumption) rfl (by omega) (by decide) (by first | exact Nat.zero_add _ | rfl) (RR.pc (b := 16) rfl ?_)
    refine r_if_ge (tgt := 23) hX dX8_mark_16 rfl (fun h16 => ?_) (fun h16 => RR.pc (b := 19) rfl ?_)
    · refine r_iload_n (i := 0) hX dX8_mark_23 rfl (RR.pc (b := 24) rfl ?_)
      refine r_i2l hX dX8_mark_24 (RR.pc (b := 25) rfl ?_)
      refine r_lconst (v := 0) hX dX8_mark_25 rfl (RR.pc (b := 26) rfl ?_)
      refine r_aload_n hX dX8_mark_26 rfl ⟨_, rfl⟩ (RR.pc (b := 27) rfl ?_)
      refine r_getr hX dX8_mark_27 fl_X8_22 (by first | rfl | assumption) rfl (RR.pc (b := 30) rfl ?_)
      refine r_iload_n (i := 0) hX dX8_mark_30 rfl (RR.pc (b := 31) rfl ?_)
      refine r_iald hX dX8_mark_31 (by first | rfl | assumption) rfl (by omega) (by decide) (by first | exact Nat.zero_add _ | rfl) (RR.pc (b := 32) rfl ?_)
      rw [hz2]
      refine r_iconst (v := 1) hX dX8_mark_32 (by decide) (RR.pc (b := 33) rfl ?_)
      refine r_isub hX dX8_mark_33 (RR.pc (b := 34) rfl ?_)
      refine r_i2l hX dX8_mark_34 (RR.pc (b := 35) rfl ?_)
      refine r_callSie hX dX8_mark_35 ml_X8_65 cd_X8_isIn st_X8_isIn c_X8_isIn (by decide) rfl rfl (Nat.le_of_ble_eq_true rfl) (RR.pc (b := 38) rfl ?_)
      refine r_if_ne_b (tgt := 45) hX dX8_mark_38 rfl (fun h38 => ?_) (fun h38 => RR.pc (b := 41) rfl ?_)
      · simp only [Int32.toInt_toInt64, Int64.reduceToInt] at h38
        rw [sub1_toInt (by omega)] at h38
        obtain ⟨p, hp, rfl⟩ := ix_of (n := z) (k := place) ⟨by omega, by omega⟩ (by omega)
        refine r_aload_n hX dX8_mark_45 rfl ⟨_, rfl⟩ (RR.pc (b := 46) rfl ?_)
        refine r_getr hX dX8_mark_46 fl_X8_19 (by first | rfl | assumption) rfl (RR.pc (b := 49) rfl ?_)
        refine r_iload_n (i := 0) hX dX8_mark_49 rfl (RR.pc (b := 50) rfl ?_)
        refine r_iald hX dX8_mark_50 (by first | rfl | assumption) rfl (by omega) (by decide) (by first | exact Nat.zero_add _ | rfl) (RR.pc (b := 51) rfl ?_)
        refine r_if_ne (tgt := 63) hX dX8_mark_51 rfl (fun h51 => ?_) (fun h51 => RR.pc (b := 54) rfl ?_)
        · refine r_aload_n hX dX8_mark_63 rfl ⟨_, rfl⟩ (RR.pc (b := 64) rfl ?_)
          refine r_getr hX dX8_mark_64 fl_X8_19 (by first | rfl | assumption) rfl (RR.pc (b := 67) rfl ?_)
          refine r_iload_n (i := 0) hX dX8_mark_67 rfl (RR.pc (b := 68) rfl ?_)
          refine r_iald hX dX8_mark_68 (by first | rfl | assumption) rfl (by omega) (by decide) (by first | exact Nat.zero_add _ | rfl) (RR.pc (b := 69) rfl ?_)
          refine r_iconst (v := 1) hX dX8_mark_69 (by decide) (RR.pc (b := 70) rfl ?_)
          refine r_icmp_ne (tgt := 96) hX dX8_mark_70 rfl (fun h70 => ?_) (fun h70 => RR.pc (b := 73) rfl ?_)
          · refine r_aload_n hX dX8_mark_96 rfl ⟨_, rfl⟩ (RR.pc (b := 97) rfl ?_)
            refine r_getr hX dX8_mark_97 fl_X8_25 (by first | rfl | assumption) rfl (RR.pc (b := 100) rfl ?_)
            refine r_bipush (v := 24) hX dX8_mark_100 (by decide) (RR.pc (b := 102) rfl ?_)
            refine r_iload_n (i := 0) hX dX8_mark_102 rfl (RR.pc (b := 103) rfl ?_)
            refine r_imul hX dX8_mark_103 (RR.pc (b := 104) rfl ?_)
            refine r_iload_n (i := 0) hX dX8_mark_104 rfl (RR.pc (b := 105) rfl ?_)
            refine r_iadd hX dX8_mark_105 (RR.pc (b := 106) rfl ?_)
            refine r_aload_n hX dX8_mark_106 rfl ⟨_, rfl⟩ (RR.pc (b := 107) rfl ?_)
            refine r_getr hX dX8_mark_107 fl_X8_19 (by first | rfl | assumption) rfl (RR.pc (b := 110) rfl ?_)
            refine r_iload_n (i := 0) hX dX8_mark_110 rfl (RR.pc (b := 111) rfl ?_)
            refine r_iald hX dX8_mark_111 (by first | rfl | assumption) rfl (by omega) (by decide) (by first | exact Nat.zero_add _ | rfl) (RR.pc (b := 112) rfl ?_)
            refine r_dia1 126 (if σ 23 a = 0 then sh16 v else v) (fun hj112 => ?_) ?_
            · refine r_if_ne (tgt := 125) hX dX8_mark_112 rfl (fun h112 => ?_) (fun h112 => RR.pc (b := 115) rfl ?_)
              · refine r_iload_n (i := 0) hX dX8_mark_125 rfl (RR.pc (b := 126) rfl ?_)
                exact RR.eqt (congrArg (fun q => Value.int q :: _) (if_neg h112).symm) hj112
              · refine r_iload_n (i := 0) hX dX8_mark_115 rfl (RR.pc (b := 116) rfl ?_)
                refine r_bipush (v := 16) hX dX8_mark_116 (by decide) (RR.pc (b := 118) rfl ?_)
                refine r_ishl hX dX8_mark_118 (RR.pc (b := 119) rfl ?_)
                refine r_bipush (v := 16) hX dX8_mark_119 (by decide) (RR.pc (b := 121) rfl ?_)
                refine r_ishr hX dX8_mark_121 (RR.pc (b := 122) rfl ?_)
                refine r_goto (tgt := 126) hX dX8_mark_122 rfl ?_
                exact RR.eqt (congrArg (fun q => Value.int q :: _) (if_pos h112).symm) hj112
            refine r_iast hX dX8_mark_126 (by first | rfl | assumption) (ix24 a p) (by omega) (by decide) (by first | exact Nat.zero_add _ | rfl) (RR.pc (b := 127) rfl ?_)
            refine r_iconst (v := 1) hX dX8_mark_127 (by decide) (RR.pc (b := 128) rfl ?_)
            exact r_iret hX hZ dX8_mark_128 ⟨_, rfl, (by unfold markF; rw [ix_some ha (by omega)]; dsimp only; rw [q24, if_neg (Int32.not_lt.mpr h16), q25, ix_some hp (by omega)]; dsimp only; rw [if_neg (fun q => by first | exact h51 q.1 | exact h57 q.2), if_neg (fun q => by first | exact h70 q.1 | exact q.2.1 h76 | exact q.2.2 h90)]; exact ⟨rfl, mark_eq ha (by omega), same.rf.su (by simp)⟩)⟩
          · refine r_iload_n (i := 0) hX dX8_mark_73 rfl (RR.pc (b := 74) rfl ?_)
            refine r_ldc hX dX8_mark_74 kc_X8_64 (RR.pc (b := 76) rfl ?_)
            refine r_icmp_eq (tgt := 96) hX dX8_mark_76 rfl (fun h76 => ?_) (fun h76 => RR.pc (b := 79) rfl ?_)
            · refine r_aload_n hX dX8_mark_96 rfl ⟨_, rfl⟩ (RR.pc (b := 97) rfl ?_)
              refine r_getr hX dX8_mark_97 fl_X8_25 (by first | rfl | assumption) rfl (RR.pc (b := 100) rfl ?_)
              refine r_bipush (v := 24) hX dX8_mark_100 (by decide) (RR.pc (b := 102) rfl ?_)
              refine r_iload_n (i := 0) hX dX8_mark_102 rfl (RR.pc (b := 103) rfl ?_)
              refine r_imul hX dX8_mark_103 (RR.pc (b := 104) rfl ?_)
              refine r_iload_n (i := 0) hX dX8_mark_104 rfl (RR.pc (b := 105) rfl ?_)
              refine r_iadd hX dX8_mark_105 (RR.pc (b := 106) rfl ?_)
              refine r_aload_n hX dX8_mark_106 rfl ⟨_, rfl⟩ (RR.pc (b := 107) rfl ?_)
              refine r_getr hX dX8_mark_107 fl_X8_19 (by first | rfl | assumption) rfl (RR.pc (b := 110) rfl ?_)
              refine r_iload_n (i := 0) hX dX8_mark_110 rfl (RR.pc (b := 111) rfl ?_)
              refine r_iald hX dX8_mark_111 (by first | rfl | assumption) rfl (by omega) (by decide) (by first | exact Nat.zero_add _ | rfl) (RR.pc (b := 112) rfl ?_)
              refine r_dia1 126 (if σ 23 a = 0 then sh16 v else v) (fun hj112 => ?_) ?_
              · refine r_if_ne (tgt := 125) hX dX8_mark_112 rfl (fun h112 => ?_) (fun h112 => RR.pc (b := 115) rfl ?_)
                · refine r_iload_n (i := 0) hX dX8_mark_125 rfl (RR.pc (b := 126) rfl ?_)
                  exact RR.eqt (congrArg (fun q => Value.int q :: _) (if_neg h112).symm) hj112
                · refine r_iload_n (i := 0) hX dX8_mark_115 rfl (RR.pc (b := 116) rfl ?_)
                  refine r_bipush (v := 16) hX dX8_mark_116 (by decide) (RR.pc (b := 118) rfl ?_)
                  refine r_ishl hX dX8_mark_118 (RR.pc (b := 119) rfl ?_)
                  refine r_bipush (v := 16) hX dX8_mark_119 (by decide) (RR.pc (b := 121) rfl ?_)
                  refine r_ishr hX dX8_mark_121 (RR.pc (b := 122) rfl ?_)
                  refine r_goto (tgt := 126) hX dX8_mark_122 rfl ?_
                  exact RR.eqt (congrArg (fun q => Value.int q :: _) (if_pos h112).symm) hj112
              refine r_iast hX dX8_mark_126 (by first | rfl | assumption) (ix24 a p) (by omega) (by decide) (by first | exact Nat.zero_add _ | rfl) (RR.pc (b := 127) rfl ?_)
              refine r_iconst (v := 1) hX dX8_mark_127 (by decide) (RR.pc (b := 128) rfl ?_)
              exact r_iret hX hZ dX8_mark_128 ⟨_, rfl, (by unfold markF; rw [ix_some ha (by omega)]; dsimp only; rw [q24, if_neg (Int32.not_lt.mpr h16), q25, ix_some hp (by omega)]; dsimp only; rw [if_neg (fun q => by first | exact h51 q.1 | exact h57 q.2), if_neg (fun q => by first | exact h70 q.1 | exact q.2.1 h76 | exact q.2.2 h90)]; exact ⟨rfl, mark_eq ha (by omega), same.rf.su (by simp)⟩)⟩
            · refine r_iload_n (i := 0) hX dX8_mark_79 rfl (RR.pc (b := 80) rfl ?_)
              refine r_i2l hX dX8_mark_80 (RR.pc (b := 81) rfl ?_)
              refine r_ldc2 hX dX8_mark_81 k2_X8_293 (RR.pc (b := 84) rfl ?_)
              refine r_ldc2 hX dX8_mark_84 k2_X8_295 (RR.pc (b := 87) rfl ?_)
              refine r_callSie hX dX8_mark_87 ml_X8_65 cd_X8_isIn st_X8_isIn c_X8_isIn (by decide) rfl rfl (Nat.le_of_ble_eq_true rfl) (RR.pc (b := 90) rfl ?_)
              refine r_if_ne_b (tgt := 96) hX dX8_mark_90 rfl (fun h90 => ?_) (fun h90 => RR.pc (b := 93) rfl ?_)
              · simp only [Int32.toInt_toInt64, Int64.reduceToInt] at h90
                refine r_aload_n hX dX8_mark_96 rfl ⟨_, rfl⟩ (RR.pc (b := 97) rfl ?_)
                refine r_getr hX dX8_mark_97 fl_X8_25 (by first | rfl | assumption) rfl (RR.pc (b := 100) rfl ?_)
                refine r_bipush (v := 24) hX dX8_mark_100 (by decide) (RR.pc (b := 102) rfl ?_)
                refine r_iload_n (i := 0) hX dX8_mark_102 rfl (RR.pc (b := 103) rfl ?_)
                refine r_imul hX dX8_mark_103 (RR.pc (b := 104) rfl ?_)
                refine r_iload_n (i := 0) hX dX8_mark_104 rfl (RR.pc (b := 105) rfl ?_)
                refine r_iadd hX dX8_mark_105 (RR.pc (b := 106) rfl ?_)
                refine r_aload_n hX dX8_mark_106 rfl ⟨_, rfl⟩ (RR.pc (b := 107) rfl ?_)
                refine r_getr hX dX8_mark_107 fl_X8_19 (by first | rfl | assumption) rfl (RR.pc (b := 110) rfl ?_)
                refine r_iload_n (i := 0) hX dX8_mark_110 rfl (RR.pc (b := 111) rfl ?_)
                refine r_iald hX dX8_mark_111 (by first | rfl | assumption) rfl (by omega) (by decide) (by first | exact Nat.zero_add _ | rfl) (RR.pc (b := 112) rfl ?_)
                refine r_dia1 126 (if σ 23 a = 0 then sh16 v else v) (fun hj112 => ?_) ?_
                · refine r_if_ne (tgt := 125) hX dX8_mark_112 rfl (fun h112 => ?_) (fun h112 => RR.pc (b := 115) rfl ?_)
                  · refine r_iload_n (i := 0) hX dX8_mark_125 rfl (RR.pc (b := 126) rfl ?_)
                    exact RR.eqt (congrArg (fun q => Value.int q :: _) (if_neg h112).symm) hj112
                  · refine r_iload_n (i := 0) hX dX8_mark_115 rfl (RR.pc (b := 116) rfl ?_)
                    refine r_bipush (v := 16) hX dX8_mark_116 (by decide) (RR.pc (b := 118) rfl ?_)
                    refine r_ishl hX dX8_mark_118 (RR.pc (b := 119) rfl ?_)
                    refine r_bipush (v := 16) hX dX8_mark_119 (by decide) (RR.pc (b := 121) rfl ?_)
                    refine r_ishr hX dX8_mark_121 (RR.pc (b := 122) rfl ?_)
                    refine r_goto (tgt := 126) hX dX8_mark_122 rfl ?_
                    exact RR.eqt (congrArg (fun q => Value.int q :: _) (if_pos h112).symm) hj112
                refine r_iast hX dX8_mark_126 (by first | rfl | assumption) (ix24 a p) (by omega) (by decide) (by first | exact Nat.zero_add _ | rfl) (RR.pc (b := 127) rfl ?_)
                refine r_iconst (v := 1) hX dX8_mark_127 (by decide) (RR.pc (b := 128) rfl ?_)
                exact r_iret hX hZ dX8_mark_128 ⟨_, rfl, (by unfold markF; rw [ix_some ha (by omega)]; dsimp only; rw [q24, if_neg (Int32.not_lt.mpr h16), q25, ix_some hp (by omega)]; dsimp only; rw [if_neg (fun q => by first | exact h51 q.1 | exact h57 q.2), if_neg (fun q => by first | exact h70 q.1 | exact q.2.1 h76 | exact q.2.2 h90)]; exact ⟨rfl, mark_eq ha (by omega), same.rf.su (by simp)⟩)⟩
              · simp only [Int32.toInt_toInt64, Int64.reduceToInt] at h90
                refine r_ldc hX dX8_mark_93 kc_X8_84 (RR.pc (b := 95) rfl ?_)
                exact r_iret hX hZ dX8_mark_95 ⟨_, rfl, (by unfold markF; rw [ix_some ha (by omega)]; dsimp only; rw [q24, if_neg (Int32.not_lt.mpr h16), q25, ix_some hp (by omega)]; dsimp only; rw [if_neg (fun q => by first | exact h51 q.1 | exact h57 q.2), if_pos ⟨h70, h76, h90⟩]; exact ⟨rfl, idS, same.rf⟩)⟩
        · refine r_iload_n (i := 0) hX dX8_mark_54 rfl (RR.pc (b := 55) rfl ?_)
          refine r_ldc hX dX8_mark_55 kc_X8_64 (RR.pc (b := 57) rfl ?_)
          refine r_icmp_ne (tgt := 63) hX dX8_mark_57 rfl (fun h57 => ?_) (fun h57 => RR.pc (b := 60) rfl ?_)
          · refine r_aload_n hX dX8_mark_63 rfl ⟨_, rfl⟩ (RR.pc (b := 64) rfl ?_)
            refine r_getr hX dX8_mark_64 fl_X8_19 (by first | rfl | assumption) rfl (RR.pc (b := 67) rfl ?_)
            refine r_iload_n (i := 0) hX dX8_mark_67 rfl (RR.pc (b := 68) rfl ?_)
            refine r_iald hX dX8_mark_68 (by first | rfl | assumption) rfl (by omega) (by decide) (by first | exact Nat.zero_add _ | rfl) (RR.pc (b := 69) rfl ?_)
            refine r_iconst (v := 1) hX dX8_mark_69 (by decide) (RR.pc (b := 70) rfl ?_)
            refine r_icmp_ne (tgt := 96) hX dX8_mark_70 rfl (fun h70 => ?_) (fun h70 => RR.pc (b := 73) rfl ?_)
            · refine r_aload_n hX dX8_mark_96 rfl ⟨_, rfl⟩ (RR.pc (b := 97) rfl ?_)
              refine r_getr hX dX8_mark_97 fl_X8_25 (by first | rfl | assumption) rfl (RR.pc (b := 100) rfl ?_)
              refine r_bipush (v := 24) hX dX8_mark_100 (by decide) (RR.pc (b := 102) rfl ?_)
              refine r_iload_n (i := 0) hX dX8_mark_102 rfl (RR.pc (b := 103) rfl ?_)
              refine r_imul hX dX8_mark_103 (RR.pc (b := 104) rfl ?_)
              refine r_iload_n (i := 0) hX dX8_mark_104 rfl (RR.pc (b := 105) rfl ?_)
              refine r_iadd hX dX8_mark_105 (RR.pc (b := 106) rfl ?_)
              refine r_aload_n hX dX8_mark_106 rfl ⟨_, rfl⟩ (RR.pc (b := 107) rfl ?_)
              refine r_getr hX dX8_mark_107 fl_X8_19 (by first | rfl | assumption) rfl (RR.pc (b := 110) rfl ?_)
              refine r_iload_n (i := 0) hX dX8_mark_110 rfl (RR.pc (b := 111) rfl ?_)
              refine r_iald hX dX8_mark_111 (by first | rfl | assumption) rfl (by omega) (by decide) (by first | exact Nat.zero_add _ | rfl) (RR.pc (b := 112) rfl ?_)
              refine r_dia1 126 (if σ 23 a = 0 then sh16 v else v) (fun hj112 => ?_) ?_
              · refine r_if_ne (tgt := 125) hX dX8_mark_112 rfl (fun h112 => ?_) (fun h112 => RR.pc (b := 115) rfl ?_)
                · refine r_iload_n (i := 0) hX dX8_mark_125 rfl (RR.pc (b := 126) rfl ?_)
                  exact RR.eqt (congrArg (fun q => Value.int q :: _) (if_neg h112).symm) hj112
                · refine r_iload_n (i := 0) hX dX8_mark_115 rfl (RR.pc (b := 116) rfl ?_)
                  refine r_bipush (v := 16) hX dX8_mark_116 (by decide) (RR.pc (b := 118) rfl ?_)
                  refine r_ishl hX dX8_mark_118 (RR.pc (b := 119) rfl ?_)
                  refine r_bipush (v := 16) hX dX8_mark_119 (by decide) (RR.pc (b := 121) rfl ?_)
                  refine r_ishr hX dX8_mark_121 (RR.pc (b := 122) rfl ?_)
                  refine r_goto (tgt := 126) hX dX8_mark_122 rfl ?_
                  exact RR.eqt (congrArg (fun q => Value.int q :: _) (if_pos h112).symm) hj112
              refine r_iast hX dX8_mark_126 (by first | rfl | assumption) (ix24 a p) (by omega) (by decide) (by first | exact Nat.zero_add _ | rfl) (RR.pc (b := 127) rfl ?_)
              refine r_iconst (v := 1) hX dX8_mark_127 (by decide) (RR.pc (b := 128) rfl ?_)
              exact r_iret hX hZ dX8_mark_128 ⟨_, rfl, (by unfold markF; rw [ix_some ha (by omega)]; dsimp only; rw [q24, if_neg (Int32.not_lt.mpr h16), q25, ix_some hp (by omega)]; dsimp only; rw [if_neg (fun q => by first | exact h51 q.1 | exact h57 q.2), if_neg (fun q => by first | exact h70 q.1 | exact q.2.1 h76 | exact q.2.2 h90)]; exact ⟨rfl, mark_eq ha (by omega), same.rf.su (by simp)⟩)⟩
            · refine r_iload_n (i := 0) hX dX8_mark_73 rfl (RR.pc (b := 74) rfl ?_)
              refine r_ldc hX dX8_mark_74 kc_X8_64 (RR.pc (b := 76) rfl ?_)
              refine r_icmp_eq (tgt := 96) hX dX8_mark_76 rfl (fun h76 => ?_) (fun h76 => RR.pc (b := 79) rfl ?_)
              · refine r_aload_n hX dX8_mark_96 rfl ⟨_, rfl⟩ (RR.pc (b := 97) rfl ?_)
                refine r_getr hX dX8_mark_97 fl_X8_25 (by first | rfl | assumption) rfl (RR.pc (b := 100) rfl ?_)
                refine r_bipush (v := 24) hX dX8_mark_100 (by decide) (RR.pc (b := 102) rfl ?_)
                refine r_iload_n (i := 0) hX dX8_mark_102 rfl (RR.pc (b := 103) rfl ?_)
                refine r_imul hX dX8_mark_103 (RR.pc (b := 104) rfl ?_)
                refine r_iload_n (i := 0) hX dX8_mark_104 rfl (RR.pc (b := 105) rfl ?_)
                refine r_iadd hX dX8_mark_105 (RR.pc (b := 106) rfl ?_)
                refine r_aload_n hX dX8_mark_106 rfl ⟨_, rfl⟩ (RR.pc (b := 107) rfl ?_)
                refine r_getr hX dX8_mark_107 fl_X8_19 (by first | rfl | assumption) rfl (RR.pc (b := 110) rfl ?_)
                refine r_iload_n (i := 0) hX dX8_mark_110 rfl (RR.pc (b := 111) rfl ?_)
                refine r_iald hX dX8_mark_111 (by first | rfl | assumption) rfl (by omega) (by decide) (by first | exact Nat.zero_add _ | rfl) (RR.pc (b := 112) rfl ?_)
                refine r_dia1 126 (if σ 23 a = 0 then sh16 v else v) (fun hj112 => ?_) ?_
                · refine r_if_ne (tgt := 125) hX dX8_mark_112 rfl (fun h112 => ?_) (fun h112 => RR.pc (b := 115) rfl ?_)
                  · refine r_iload_n (i := 0) hX dX8_mark_125 rfl (RR.pc (b := 126) rfl ?_)
                    exact RR.eqt (congrArg (fun q => Value.int q :: _) (if_neg h112).symm) hj112
                  · refine r_iload_n (i := 0) hX dX8_mark_115 rfl (RR.pc (b := 116) rfl ?_)
                    refine r_bipush (v := 16) hX dX8_mark_116 (by decide) (RR.pc (b := 118) rfl ?_)
                    refine r_ishl hX dX8_mark_118 (RR.pc (b := 119) rfl ?_)
                    refine r_bipush (v := 16) hX dX8_mark_119 (by decide) (RR.pc (b := 121) rfl ?_)
                    refine r_ishr hX dX8_mark_121 (RR.pc (b := 122) rfl ?_)
                    refine r_goto (tgt := 126) hX dX8_mark_122 rfl ?_
                    exact RR.eqt (congrArg (fun q => Value.int q :: _) (if_pos h112).symm) hj112
                refine r_iast hX dX8_mark_126 (by first | rfl | assumption) (ix24 a p) (by omega) (by decide) (by first | exact Nat.zero_add _ | rfl) (RR.pc (b := 127) rfl ?_)
                refine r_iconst (v := 1) hX dX8_mark_127 (by decide) (RR.pc (b := 128) rfl ?_)
                exact r_iret hX hZ dX8_mark_128 ⟨_, rfl, (by unfold markF; rw [ix_some ha (by omega)]; dsimp only; rw [q24, if_neg (Int32.not_lt.mpr h16), q25, ix_some hp (by omega)]; dsimp only; rw [if_neg (fun q => by first | exact h51 q.1 | exact h57 q.2), if_neg (fun q => by first | exact h70 q.1 | exact q.2.1 h76 | exact q.2.2 h90)]; exact ⟨rfl, mark_eq ha (by omega), same.rf.su (by simp)⟩)⟩
              · refine r_iload_n (i := 0) hX dX8_mark_79 rfl (RR.pc (b := 80) rfl ?_)
                refine r_i2l hX dX8_mark_80 (RR.pc (b := 81) rfl ?_)
                refine r_ldc2 hX dX8_mark_81 k2_X8_293 (RR.pc (b := 84) rfl ?_)
                refine r_ldc2 hX dX8_mark_84 k2_X8_295 (RR.pc (b := 87) rfl ?_)
                refine r_callSie hX dX8_mark_87 ml_X8_65 cd_X8_isIn st_X8_isIn c_X8_isIn (by decide) rfl rfl (Nat.le_of_ble_eq_true rfl) (RR.pc (b := 90) rfl ?_)
                refine r_if_ne_b (tgt := 96) hX dX8_mark_90 rfl (fun h90 => ?_) (fun h90 => RR.pc (b := 93) rfl ?_)
                · simp only [Int32.toInt_toInt64, Int64.reduceToInt] at h90
                  refine r_aload_n hX dX8_mark_96 rfl ⟨_, rfl⟩ (RR.pc (b := 97) rfl ?_)
                  refine r_getr hX dX8_mark_97 fl_X8_25 (by first | rfl | assumption) rfl (RR.pc (b := 100) rfl ?_)
                  refine r_bipush (v := 24) hX dX8_mark_100 (by decide) (RR.pc (b := 102) rfl ?_)
                  refine r_iload_n (i := 0) hX dX8_mark_102 rfl (RR.pc (b := 103) rfl ?_)
                  refine r_imul hX dX8_mark_103 (RR.pc (b := 104) rfl ?_)
                  refine r_iload_n (i := 0) hX dX8_mark_104 rfl (RR.pc (b := 105) rfl ?_)
                  refine r_iadd hX dX8_mark_105 (RR.pc (b := 106) rfl ?_)
                  refine r_aload_n hX dX8_mark_106 rfl ⟨_, rfl⟩ (RR.pc (b := 107) rfl ?_)
                  refine r_getr hX dX8_mark_107 fl_X8_19 (by first | rfl | assumption) rfl (RR.pc (b := 110) rfl ?_)
                  refine r_iload_n (i := 0) hX dX8_mark_110 rfl (RR.pc (b := 111) rfl ?_)
                  refine r_iald hX dX8_mark_111 (by first | rfl | assumption) rfl (by omega) (by decide) (by first | exact Nat.zero_add _ | rfl) (RR.pc (b := 112) rfl ?_)
                  refine r_dia1 126 (if σ 23 a = 0 then sh16 v else v) (fun hj112 => ?_) ?_
                  · refine r_if_ne (tgt := 125) hX dX8_mark_112 rfl (fun h112 => ?_) (fun h112 => RR.pc (b := 115) rfl ?_)
                    · refine r_iload_n (i := 0) hX dX8_mark_125 rfl (RR.pc (b := 126) rfl ?_)
                      exact RR.eqt (congrArg (fun q => Value.int q :: _) (if_neg h112).symm) hj112
                    · refine r_iload_n (i := 0) hX dX8_mark_115 rfl (RR.pc (b := 116) rfl ?_)
                      refine r_bipush (v := 16) hX dX8_mark_116 (by decide) (RR.pc (b := 118) rfl ?_)
                      refine r_ishl hX dX8_mark_118 (RR.pc (b := 119) rfl ?_)
                      refine r_bipush (v := 16) hX dX8_mark_119 (by decide) (RR.pc (b := 121) rfl ?_)
                      refine r_ishr hX dX8_mark_121 (RR.pc (b := 122) rfl ?_)
                      refine r_goto (tgt := 126) hX dX8_mark_122 rfl ?_
                      exact RR.eqt (congrArg (fun q => Value.int q :: _) (if_pos h112).symm) hj112
                  refine r_iast hX dX8_mark_126 (by first | rfl | assumption) (ix24 a p) (by omega) (by decide) (by first | exact Nat.zero_add _ | rfl) (RR.pc (b := 127) rfl ?_)
                  refine r_iconst (v := 1) hX dX8_mark_127 (by decide) (RR.pc (b := 128) rfl ?_)
                  exact r_iret hX hZ dX8_mark_128 ⟨_, rfl, (by unfold markF; rw [ix_some ha (by omega)]; dsimp only; rw [q24, if_neg (Int32.not_lt.mpr h16), q25, ix_some hp (by omega)]; dsimp only; rw [if_neg (fun q => by first | exact h51 q.1 | exact h57 q.2), if_neg (fun q => by first | exact h70 q.1 | exact q.2.1 h76 | exact q.2.2 h90)]; exact ⟨rfl, mark_eq ha (by omega), same.rf.su (by simp)⟩)⟩
                · simp only [Int32.toInt_toInt64, Int64.reduceToInt] at h90
                  refine r_ldc hX dX8_mark_93 kc_X8_84 (RR.pc (b := 95) rfl ?_)
                  exact r_iret hX hZ dX8_mark_95 ⟨_, rfl, (by unfold markF; rw [ix_some ha (by omega)]; dsimp only; rw [q24, if_neg (Int32.not_lt.mpr h16), q25, ix_some hp (by omega)]; dsimp only; rw [if_neg (fun q => by first | exact h51 q.1 | exact h57 q.2), if_pos ⟨h70, h76, h90⟩]; exact ⟨rfl, idS, same.rf⟩)⟩
          · refine r_ldc hX dX8_mark_60 kc_X8_121 (RR.pc (b := 62) rfl ?_)
            exact r_iret hX hZ dX8_mark_62 ⟨_, rfl, (by unfold markF; rw [ix_some ha (by omega)]; dsimp only; rw [q24, if_neg (Int32.not_lt.mpr h16), q25, ix_some hp (by omega)]; dsimp only; rw [if_pos ⟨h51, h57⟩]; exact ⟨rfl, idS, same.rf⟩)⟩
      · simp only [Int32.toInt_toInt64, Int64.reduceToInt] at h38
        rw [sub1_toInt (by omega)] at h38
        refine r_ldcw hX dX8_mark_41 kc_X8_292 (RR.pc (b := 44) rfl ?_)
        exact r_iret hX hZ dX8_mark_44 ⟨_, rfl, (by unfold markF; rw [ix_some ha (by omega)]; dsimp only; rw [q24, if_neg (Int32.not_lt.mpr h16), q25, ix_none (by omega)]; exact ⟨rfl, idS, same.rf⟩)⟩
    · refine r_ldcw hX dX8_mark_19 kc_X8_291 (RR.pc (b := 22) rfl ?_)
      exact r_iret hX hZ dX8_mark_22 ⟨_, rfl, (by unfold markF; rw [ix_some ha (by omega)]; dsimp only; rw [q24, if_pos (Int32.not_le.mp h16)]; exact ⟨rfl, idS, same.rf⟩)⟩
  · refine r_ldc hX dX8_mark_7 kc_X8_84 (RR.pc (b := 9) rfl ?_)
    exact r_iret hX hZ dX8_mark_9 ⟨_, rfl, (by unfold markF; rw [ix_none (by omega)]; exact ⟨rfl, idS, same.rf⟩)⟩
/-- pour -/
def pouW (w : Nat → Int32) (f : Nat → Int32) : Nat → (Nat → Int32)
  | 0 => w
  | k + 1 => upd (pouW w f k) (131 + 5 * k + 4) (if f k = vNONE then pouW w f k (131 + 5 * k + 4) else hold (f k) 50)
def pouC (w : Nat → Int32) (f : Nat → Int32) : Nat → Int32
  | 0 => 0
  | k + 1 => pouC w f k + (if (if f k = vNONE then pouW w f k (131 + 5 * k + 4) else hold (f k) 50) = pouW w f k (131 + 5 * k + 4) then 0 else 1)
def pourF (S : Nat → Nat → Int32) (w : Nat → Int32) (n : Nat) (sheet : Int32) : Int32 × (Nat → Int32) := match ix sheet 4 with
  | none => (vBAD, w)
  | some a => if S a 24 < 0 then (vNOTH, w) else (pouC w (S a) (min (S a 25).toNatClampNeg n), pouW w (S a) (min (S a 25).toNatClampNeg n))
theorem pouW_out {w f : Nat → Int32} {i : Nat} : ∀ {k : Nat}, (∀ j, j < k → i ≠ 131 + 5 * j + 4) → pouW w f k i = w i := by
  intro k
  induction k with
  | zero => intro _; rfl
  | succ k ih =>
    intro h
    unfold pouW
    rw [pk_un (h k (by omega))]
    exact ih (fun j hj => h j (by omega))
set_option maxHeartbeats 4000000 in
set_option maxRecDepth 100000 in
theorem c_X8_pour {G : GM} {σ : SG} {n : Nat} {sheet : Int32} (hz : ∀ a, a < 4 → ∃ z : Nat, z ≤ 24 ∧ σ 24 a = nI z) (hN : σ 20 0 = nI n) (h8 : n ≤ 8) : CI G yX8_pour cX8_pour 6 (some .int) 2 [rf G 109, .int sheet] σ (fun r s => r = (pourF (shR σ) (σ 20) n sheet).1 ∧ s = sr σ 20 (pourF (shR σ) (σ 20) n sheet).2) := by
  refine Con.of cd_X8_pour (Nat.le_of_ble_eq_true rfl) ?_
  intro X hX hZ
  have hX : Fx X G RX8 cX8_pour 6 2 := hX
  show RR X G 6 0 (ll [(0, rf G 109), (1, .int sheet)]) [] σ
  have go : ∀ (a z : Nat), a < 4 → sheet = nI a → z ≤ 24 → σ 24 a = nI z → pourF (shR σ) (σ 20) n sheet = (pouC (σ 20) (shR σ a) (min z n), pouW (σ 20) (shR σ a) (min z n)) → RR X G 6 23 (ll [(0, rf G 109), (1, .int sheet)]) [] σ := by
    intro a z ha e hz1 hz2 hF
    subst e
    have loop := loopK (min z n) (fun k => RR X G 6 27 (ll [(0, rf G 109), (1, .int (nI a)), (2, .int (pouC (σ 20) (shR σ a) k)), (3, .int (nI k))]) [] (sr σ 20 (pouW (σ 20) (shR σ a) k))) (by
      intro k hk ih
      refine r_iload_n (i := 0) hX dX8_pour_27 rfl (RR.pc (b := 28) rfl ?_)
      refine r_aload_n hX dX8_pour_28 rfl ⟨_, rfl⟩ (RR.pc (b := 29) rfl ?_)
      refine r_getr hX dX8_pour_29 fl_X8_22 (by first | rfl | assumption) rfl (RR.pc (b := 32) rfl ?_)
      refine r_iload_n (i := 0) hX dX8_pour_32 rfl (RR.pc (b := 33) rfl ?_)
      refine r_iald hX dX8_pour_33 (by first | rfl | assumption) rfl (by omega) (by decide) (by first | exact Nat.zero_add _ | rfl) (RR.pc (b := 34) rfl ?_)
      rw [sr_ne (by decide), hz2]
      refine r_icmp_ge (tgt := 127) hX dX8_pour_34 rfl (fun h34 => ?_) (fun h34 => RR.pc (b := 37) rfl ?_)
      · have hk2 : k = min z n := by
          first | (rw [nI_leI (by omega) (by omega)] at h44; omega) | (rw [nI_leI (by omega) (by omega)] at h34; omega)
        subst hk2
        refine r_iload_n (i := 0) hX dX8_pour_127 rfl (RR.pc (b := 128) rfl ?_)
        exact r_iret hX hZ dX8_pour_128 ⟨_, rfl, by rw [hF]; exact ⟨rfl, rfl⟩⟩
      · have hk2 : k < z := by rw [nI_leI (by omega) (by omega)] at h34; omega
        refine r_iload_n (i := 0) hX dX8_pour_37 rfl (RR.pc (b := 38) rfl ?_)
        refine r_aload_n hX dX8_pour_38 rfl ⟨_, rfl⟩ (RR.pc (b := 39) rfl ?_)
        refine r_getr hX dX8_pour_39 fl_X8_7 (by first | rfl | assumption) rfl (RR.pc (b := 42) rfl ?_)
        refine r_iconst (v := 0) hX dX8_pour_42 (by decide) (RR.pc (b := 43) rfl ?_)
        refine r_iald hX dX8_pour_43 (by first | rfl | assumption) (by first | rfl | assumption) (by first | decide | assumption | omega) (by decide) (by first | exact Nat.zero_add _ | rfl) (RR.pc (b := 44) rfl ?_)
        rw [sr_eq, pouW_out (i := 0) (fun j _ => by omega), hN]
        refine r_icmp_ge (tgt := 127) hX dX8_pour_44 rfl (fun h44 => ?_) (fun h44 => RR.pc (b := 47) rfl ?_)
        · have hk2 : k = min z n := by
            first | (rw [nI_leI (by omega) (by omega)] at h44; omega) | (rw [nI_leI (by omega) (by omega)] at h34; omega)
          subst hk2
          refine r_iload_n (i := 0) hX dX8_pour_127 rfl (RR.pc (b := 128) rfl ?_)
          exact r_iret hX hZ dX8_pour_128 ⟨_, rfl, by rw [hF]; exact ⟨rfl, rfl⟩⟩
        · have hk3 : k < n := by rw [nI_leI (by omega) (by omega)] at h44; omega
          refine r_aload_n hX dX8_pour_47 rfl ⟨_, rfl⟩ (RR.pc (b := 48) rfl ?_)
          refine r_getr hX dX8_pour_48 fl_X8_25 (by first | rfl | assumption) rfl (RR.pc (b := 51) rfl ?_)
          refine r_bipush (v := 24) hX dX8_pour_51 (by decide) (RR.pc (b := 53) rfl ?_)
          refine r_iload_n (i := 0) hX dX8_pour_53 rfl (RR.pc (b := 54) rfl ?_)
          refine r_imul hX dX8_pour_54 (RR.pc (b := 55) rfl ?_)
          refine r_iload_n (i := 0) hX dX8_pour_55 rfl (RR.pc (b := 56) rfl ?_)
          refine r_iadd hX dX8_pour_56 (RR.pc (b := 57) rfl ?_)
          refine r_iald hX dX8_pour_57 (by first | rfl | assumption) (ix24 a k) (by omega) (by decide) (by first | exact Nat.zero_add _ | rfl) (RR.pc (b := 58) rfl ?_)
          rw [sr_ne (by decide), ← shR_pl (σ := σ) (a := a) (j := k) (by omega)]
          refine r_istore hX dX8_pour_58 (by decide) (RR.pc (b := 60) rfl ?_)
          refine r_iload hX dX8_pour_60 rfl (RR.pc (b := 62) rfl ?_)
          refine r_ldc hX dX8_pour_62 kc_X8_64 (RR.pc (b := 64) rfl ?_)
          refine r_dia2 91 (if shR σ a k = vNONE then sr σ 20 (pouW (σ 20) (shR σ a) k) 20 (131 + 5 * k + 4) else hold (shR σ a k) 50) (fun hj64 => ?_) ?_
          · refine r_icmp_ne (tgt := 84) hX dX8_pour_64 rfl (fun h64 => ?_) (fun h64 => RR.pc (b := 67) rfl ?_)
            · refine r_iload hX dX8_pour_84 rfl (RR.pc (b := 86) rfl ?_)
              refine r_bipush (v := 50) hX dX8_pour_86 (by decide) (RR.pc (b := 88) rfl ?_)
              refine r_callSie hX dX8_pour_88 ml_X8_101 cd_X8_within st_X8_within c_X8_within (by decide) rfl rfl (Nat.le_of_ble_eq_true rfl) (RR.pc (b := 91) rfl ?_)
              exact RR.eqt (congrArg (fun q => Value.int q :: _) (if_neg h64).symm) hj64
            · refine r_aload_n hX dX8_pour_67 rfl ⟨_, rfl⟩ (RR.pc (b := 68) rfl ?_)
              refine r_getr hX dX8_pour_68 fl_X8_7 (by first | rfl | assumption) rfl (RR.pc (b := 71) rfl ?_)
              refine r_sipush (v := 131) hX dX8_pour_71 (by decide) (RR.pc (b := 74) rfl ?_)
              refine r_iconst (v := 5) hX dX8_pour_74 (by decide) (RR.pc (b := 75) rfl ?_)
              refine r_iload_n (i := 0) hX dX8_pour_75 rfl (RR.pc (b := 76) rfl ?_)
              refine r_imul hX dX8_pour_76 (RR.pc (b := 77) rfl ?_)
              refine r_iadd hX dX8_pour_77 (RR.pc (b := 78) rfl ?_)
              refine r_iconst (v := 4) hX dX8_pour_78 (by decide) (RR.pc (b := 79) rfl ?_)
              refine r_iadd hX dX8_pour_79 (RR.pc (b := 80) rfl ?_)
              refine r_iald hX dX8_pour_80 (by first | rfl | assumption) (ixM k 4) (by omega) (by decide) (by first | exact Nat.zero_add _ | rfl) (RR.pc (b := 81) rfl ?_)
              refine r_goto (tgt := 91) hX dX8_pour_81 rfl ?_
              exact RR.eqt (congrArg (fun q => Value.int q :: _) (if_pos h64).symm) hj64
          refine r_istore hX dX8_pour_91 (by decide) (RR.pc (b := 93) rfl ?_)
          refine r_iload_n (i := 0) hX dX8_pour_93 rfl (RR.pc (b := 94) rfl ?_)
          refine r_iload hX dX8_pour_94 rfl (RR.pc (b := 96) rfl ?_)
          refine r_aload_n hX dX8_pour_96 rfl ⟨_, rfl⟩ (RR.pc (b := 97) rfl ?_)
          refine r_sipush (v := 131) hX dX8_pour_97 (by decide) (RR.pc (b := 100) rfl ?_)
          refine r_iconst (v := 5) hX dX8_pour_100 (by decide) (RR.pc (b := 101) rfl ?_)
          refine r_iload_n (i := 0) hX dX8_pour_101 rfl (RR.pc (b := 102) rfl ?_)
          refine r_imul hX dX8_pour_102 (RR.pc (b := 103) rfl ?_)
          refine r_iadd hX dX8_pour_103 (RR.pc (b := 104) rfl ?_)
          refine r_iconst (v := 4) hX dX8_pour_104 (by decide) (RR.pc (b := 105) rfl ?_)
          refine r_iadd hX dX8_pour_105 (RR.pc (b := 106) rfl ?_)
          refine r_iload hX dX8_pour_106 rfl (RR.pc (b := 108) rfl ?_)
          refine r_callVie hX dX8_pour_108 ml_X8_122 cd_X8_becomes iv_X8_becomes (c_X8_becomes (n := 131 + 5 * k + 4) (ixM k 4) (by omega)) (by decide) (by first | rfl | assumption) rfl rfl rfl rfl (Nat.le_of_ble_eq_true rfl) (RR.pc (b := 111) rfl ?_)
          refine r_dia2 119 (if (if shR σ a k = vNONE then sr σ 20 (pouW (σ 20) (shR σ a) k) 20 (131 + 5 * k + 4) else hold (shR σ a k) 50) = sr σ 20 (pouW (σ 20) (shR σ a) k) 20 (131 + 5 * k + 4) then 0 else 1) (fun hj111 => ?_) ?_
          · refine r_icmp_ne (tgt := 118) hX dX8_pour_111 rfl (fun h111 => ?_) (fun h111 => RR.pc (b := 114) rfl ?_)
            · refine r_iconst (v := 1) hX dX8_pour_118 (by decide) (RR.pc (b := 119) rfl ?_)
              exact RR.eqt (congrArg (fun q => Value.int q :: _) (if_neg h111).symm) hj111
            · refine r_iconst (v := 0) hX dX8_pour_114 (by decide) (RR.pc (b := 115) rfl ?_)
              refine r_goto (tgt := 119) hX dX8_pour_115 rfl ?_
              exact RR.eqt (congrArg (fun q => Value.int q :: _) (if_pos h111).symm) hj111
          refine r_iadd hX dX8_pour_119 (RR.pc (b := 120) rfl ?_)
          refine r_istore_n hX dX8_pour_120 (by decide) (RR.pc (b := 121) rfl ?_)
          refine r_iinc hX dX8_pour_121 rfl (by decide) (nI_1 k) (RR.pc (b := 124) rfl ?_)
          refine r_goto (tgt := 27) hX dX8_pour_124 rfl ?_
          simp only [sr_eq]
          exact RR.eqs su_sr (RR.cut (ih (by omega)) (List.forall_mem_cons.mpr ⟨rfl, List.forall_mem_cons.mpr ⟨rfl, List.forall_mem_cons.mpr ⟨rfl, List.forall_mem_cons.mpr ⟨rfl, fun _ h => absurd h List.not_mem_nil⟩⟩⟩⟩))
      )
    refine r_iconst (v := 0) hX dX8_pour_23 (by decide) (RR.pc (b := 24) rfl ?_)
    refine r_istore_n hX dX8_pour_24 (by decide) (RR.pc (b := 25) rfl ?_)
    refine r_iconst (v := 0) hX dX8_pour_25 (by decide) (RR.pc (b := 26) rfl ?_)
    refine r_istore_n hX dX8_pour_26 (by decide) (RR.pc (b := 27) rfl ?_)
    exact RR.eqs (sr_self (r := 20)).symm (RR.cut (loop 0 (by omega)) (List.forall_mem_cons.mpr ⟨rfl, List.forall_mem_cons.mpr ⟨rfl, List.forall_mem_cons.mpr ⟨rfl, List.forall_mem_cons.mpr ⟨rfl, fun _ h => absurd h List.not_mem_nil⟩⟩⟩⟩))
  refine r_iload_n (i := 0) hX dX8_pour_0 rfl (RR.pc (b := 1) rfl ?_)
  refine r_callSie hX dX8_pour_1 ml_X8_285 cd_X8_isSheet st_X8_isSheet c_X8_isSheet (by decide) rfl rfl (Nat.le_of_ble_eq_true rfl) (RR.pc (b := 4) rfl ?_)
  refine r_if_ne_b (tgt := 10) hX dX8_pour_4 rfl (fun h4 => ?_) (fun h4 => RR.pc (b := 7) rfl ?_)
  · obtain ⟨a, ha, rfl⟩ := ix_of (n := 4) (k := sheet) ⟨by omega, by omega⟩ (by omega)
    obtain ⟨z, hz1, hz2⟩ := hz a ha
    have q24 := shR_sort (σ := σ) (a := a)
    have q25 : (shR σ a 25).toNatClampNeg = z := by rw [shR_size, hz2, nI_clamp (by omega)]
    refine r_aload_n hX dX8_pour_10 rfl ⟨_, rfl⟩ (RR.pc (b := 11) rfl ?_)
    refine r_getr hX dX8_pour_11 fl_X8_19 (by first | rfl | assumption) rfl (RR.pc (b := 14) rfl ?_)
    refine r_iload_n (i := 0) hX dX8_pour_14 rfl (RR.pc (b := 15) rfl ?_)
    refine r_iald hX dX8_pour_15 (by first | rfl | assumption) rfl (by omega) (by decide) (by first | exact Nat.zero_add _ | rfl) (RR.pc (b := 16) rfl ?_)
    refine r_if_ge (tgt := 23) hX dX8_pour_16 rfl (fun h16 => ?_) (fun h16 => RR.pc (b := 19) rfl ?_)
    · exact RR.cut (go a z ha rfl hz1 hz2 (by unfold pourF; rw [ix_some ha (by omega)]; dsimp only; rw [q24, if_neg (Int32.not_lt.mpr h16), q25])) (List.forall_mem_cons.mpr ⟨rfl, List.forall_mem_cons.mpr ⟨rfl, fun _ h => absurd h List.not_mem_nil⟩⟩)
    · refine r_ldcw hX dX8_pour_19 kc_X8_291 (RR.pc (b := 22) rfl ?_)
      exact r_iret hX hZ dX8_pour_22 ⟨_, rfl, (by unfold pourF; rw [ix_some ha (by omega)]; dsimp only; rw [q24, if_pos (Int32.not_le.mp h16)]; exact ⟨rfl, sr_self.symm⟩)⟩
  · refine r_ldc hX dX8_pour_7 kc_X8_84 (RR.pc (b := 9) rfl ?_)
    exact r_iret hX hZ dX8_pour_9 ⟨_, rfl, (by unfold pourF; rw [ix_none (by omega)]; exact ⟨rfl, sr_self.symm⟩)⟩
/-- reads: the first place from k on -/
def reaN (f w : Nat → Int32) (z : Nat) : Nat → Int32
  | 0 => vNONE
  | j + 1 => if ¬ f (z - (j + 1)) = vNONE ∧ ¬ f (z - (j + 1)) = w (11 + (z - (j + 1))) then nI (z - (j + 1)) else reaN f w z j
def readF (S : Nat → Nat → Int32) (w : Nat → Int32) (sheet : Int32) : Int32 := match ix sheet 4 with
  | none => vBAD
  | some a => if S a 24 < 0 then vNOTH else reaN (S a) w (S a 25).toNatClampNeg (S a 25).toNatClampNeg
set_option maxHeartbeats 4000000 in
set_option maxRecDepth 100000 in
theorem c_X8_reads {G : GM} {σ : SG} {sheet : Int32} (hz : ∀ a, a < 4 → ∃ z : Nat, z ≤ 24 ∧ σ 24 a = nI z) : CI G yX8_reads cX8_reads 4 (some .int) 2 [rf G 109, .int sheet] σ (fun r s => r = readF (shR σ) (σ 20) sheet ∧ s = σ) := by
  refine Con.of cd_X8_reads (Nat.le_of_ble_eq_true rfl) ?_
  intro X hX hZ
  have hX : Fx X G RX8 cX8_reads 4 2 := hX
  show RR X G 4 0 (ll [(0, rf G 109), (1, .int sheet)]) [] σ
  have go : ∀ (a z : Nat), a < 4 → sheet = nI a → z ≤ 24 → σ 24 a = nI z → readF (shR σ) (σ 20) sheet = reaN (shR σ a) (σ 20) z z → RR X G 4 23 (ll [(0, rf G 109), (1, .int sheet)]) [] σ := by
    intro a z ha e hz1 hz2 hF
    subst e
    have loop := loopK z (fun k => reaN (shR σ a) (σ 20) z z = reaN (shR σ a) (σ 20) z (z - k) → RR X G 4 25 (ll [(0, rf G 109), (1, .int (nI a)), (2, .int (nI k))]) [] σ) (by
      intro k hk ih he
      refine r_iload_n (i := 0) hX dX8_reads_25 rfl (RR.pc (b := 26) rfl ?_)
      refine r_aload_n hX dX8_reads_26 rfl ⟨_, rfl⟩ (RR.pc (b := 27) rfl ?_)
      refine r_getr hX dX8_reads_27 fl_X8_22 (by first | rfl | assumption) rfl (RR.pc (b := 30) rfl ?_)
      refine r_iload_n (i := 0) hX dX8_reads_30 rfl (RR.pc (b := 31) rfl ?_)
      refine r_iald hX dX8_reads_31 (by first | rfl | assumption) rfl (by omega) (by decide) (by first | exact Nat.zero_add _ | rfl) (RR.pc (b := 32) rfl ?_)
      rw [hz2]
      refine r_icmp_ge (tgt := 74) hX dX8_reads_32 rfl (fun h32 => ?_) (fun h32 => RR.pc (b := 35) rfl ?_)
      · have hk2 : k = z := by rw [nI_leI (by omega) (by omega)] at h32; omega
        subst hk2
        refine r_ldc hX dX8_reads_74 kc_X8_64 (RR.pc (b := 76) rfl ?_)
        exact r_iret hX hZ dX8_reads_76 ⟨_, rfl, ⟨by rw [hF, he, Nat.sub_self]; rfl, rfl⟩⟩
      · have hk2 : k < z := by rw [nI_leI (by omega) (by omega)] at h32; omega
        have e1 : reaN (shR σ a) (σ 20) z (z - k) = if ¬ shR σ a k = vNONE ∧ ¬ shR σ a k = σ 20 (11 + k) then nI k else reaN (shR σ a) (σ 20) z (z - (k + 1)) := by
          rw [show z - k = (z - (k + 1)) + 1 by omega, reaN, show z - (z - (k + 1) + 1) = k by omega]
        refine r_aload_n hX dX8_reads_35 rfl ⟨_, rfl⟩ (RR.pc (b := 36) rfl ?_)
        refine r_getr hX dX8_reads_36 fl_X8_25 (by first | rfl | assumption) rfl (RR.pc (b := 39) rfl ?_)
        refine r_bipush (v := 24) hX dX8_reads_39 (by decide) (RR.pc (b := 41) rfl ?_)
        refine r_iload_n (i := 0) hX dX8_reads_41 rfl (RR.pc (b := 42) rfl ?_)
        refine r_imul hX dX8_reads_42 (RR.pc (b := 43) rfl ?_)
        refine r_iload_n (i := 0) hX dX8_reads_43 rfl (RR.pc (b := 44) rfl ?_)
        refine r_iadd hX dX8_reads_44 (RR.pc (b := 45) rfl ?_)
        refine r_iald hX dX8_reads_45 (by first | rfl | assumption) (ix24 a k) (by omega) (by decide) (by first | exact Nat.zero_add _ | rfl) (RR.pc (b := 46) rfl ?_)
        rw [← shR_pl (σ := σ) (a := a) (j := k) (by omega)]
        refine r_istore_n hX dX8_reads_46 (by decide) (RR.pc (b := 47) rfl ?_)
        refine r_iload_n (i := 0) hX dX8_reads_47 rfl (RR.pc (b := 48) rfl ?_)
        refine r_ldc hX dX8_reads_48 kc_X8_64 (RR.pc (b := 50) rfl ?_)
        refine r_icmp_eq (tgt := 68) hX dX8_reads_50 rfl (fun h50 => ?_) (fun h50 => RR.pc (b := 53) rfl ?_)
        · refine r_iinc hX dX8_reads_68 rfl (by decide) (nI_1 k) (RR.pc (b := 71) rfl ?_)
          refine r_goto (tgt := 25) hX dX8_reads_71 rfl ?_
          exact RR.cut (ih hk2 (by rw [he, e1, if_neg (fun q => by first | exact q.1 h50 | exact q.2 h63)])) (List.forall_mem_cons.mpr ⟨rfl, List.forall_mem_cons.mpr ⟨rfl, List.forall_mem_cons.mpr ⟨rfl, fun _ h => absurd h List.not_mem_nil⟩⟩⟩)
        · refine r_iload_n (i := 0) hX dX8_reads_53 rfl (RR.pc (b := 54) rfl ?_)
          refine r_aload_n hX dX8_reads_54 rfl ⟨_, rfl⟩ (RR.pc (b := 55) rfl ?_)
          refine r_getr hX dX8_reads_55 fl_X8_7 (by first | rfl | assumption) rfl (RR.pc (b := 58) rfl ?_)
          refine r_bipush (v := 11) hX dX8_reads_58 (by decide) (RR.pc (b := 60) rfl ?_)
          refine r_iload_n (i := 0) hX dX8_reads_60 rfl (RR.pc (b := 61) rfl ?_)
          refine r_iadd hX dX8_reads_61 (RR.pc (b := 62) rfl ?_)
          refine r_iald hX dX8_reads_62 (by first | rfl | assumption) (nI_add 11 k) (by omega) (by decide) (by first | exact Nat.zero_add _ | rfl) (RR.pc (b := 63) rfl ?_)
          refine r_icmp_eq (tgt := 68) hX dX8_reads_63 rfl (fun h63 => ?_) (fun h63 => RR.pc (b := 66) rfl ?_)
          · refine r_iinc hX dX8_reads_68 rfl (by decide) (nI_1 k) (RR.pc (b := 71) rfl ?_)
            refine r_goto (tgt := 25) hX dX8_reads_71 rfl ?_
            exact RR.cut (ih hk2 (by rw [he, e1, if_neg (fun q => by first | exact q.1 h50 | exact q.2 h63)])) (List.forall_mem_cons.mpr ⟨rfl, List.forall_mem_cons.mpr ⟨rfl, List.forall_mem_cons.mpr ⟨rfl, fun _ h => absurd h List.not_mem_nil⟩⟩⟩)
          · refine r_iload_n (i := 0) hX dX8_reads_66 rfl (RR.pc (b := 67) rfl ?_)
            exact r_iret hX hZ dX8_reads_67 ⟨_, rfl, ⟨by rw [hF, he, e1, if_pos ⟨h50, h63⟩], rfl⟩⟩
      )
    refine r_iconst (v := 0) hX dX8_reads_23 (by decide) (RR.pc (b := 24) rfl ?_)
    refine r_istore_n hX dX8_reads_24 (by decide) (RR.pc (b := 25) rfl ?_)
    exact RR.cut (loop 0 (by omega) rfl) (List.forall_mem_cons.mpr ⟨rfl, List.forall_mem_cons.mpr ⟨rfl, List.forall_mem_cons.mpr ⟨rfl, fun _ h => absurd h List.not_mem_nil⟩⟩⟩)
  refine r_iload_n (i := 0) hX dX8_reads_0 rfl (RR.pc (b := 1) rfl ?_)
  refine r_callSie hX dX8_reads_1 ml_X8_285 cd_X8_isSheet st_X8_isSheet c_X8_isSheet (by decide) rfl rfl (Nat.le_of_ble_eq_true rfl) (RR.pc (b := 4) rfl ?_)
  refine r_if_ne_b (tgt := 10) hX dX8_reads_4 rfl (fun h4 => ?_) (fun h4 => RR.pc (b := 7) rfl ?_)
  · obtain ⟨a, ha, rfl⟩ := ix_of (n := 4) (k := sheet) ⟨by omega, by omega⟩ (by omega)
    obtain ⟨z, hz1, hz2⟩ := hz a ha
    have q24 := shR_sort (σ := σ) (a := a)
    have q25 : (shR σ a 25).toNatClampNeg = z := by rw [shR_size, hz2, nI_clamp (by omega)]
    refine r_aload_n hX dX8_reads_10 rfl ⟨_, rfl⟩ (RR.pc (b := 11) rfl ?_)
    refine r_getr hX dX8_reads_11 fl_X8_19 (by first | rfl | assumption) rfl (RR.pc (b := 14) rfl ?_)
    refine r_iload_n (i := 0) hX dX8_reads_14 rfl (RR.pc (b := 15) rfl ?_)
    refine r_iald hX dX8_reads_15 (by first | rfl | assumption) rfl (by omega) (by decide) (by first | exact Nat.zero_add _ | rfl) (RR.pc (b := 16) rfl ?_)
    refine r_if_ge (tgt := 23) hX dX8_reads_16 rfl (fun h16 => ?_) (fun h16 => RR.pc (b := 19) rfl ?_)
    · exact RR.cut (go a z ha rfl hz1 hz2 (by unfold readF; rw [ix_some ha (by omega)]; dsimp only; rw [q24, if_neg (Int32.not_lt.mpr h16), q25])) (List.forall_mem_cons.mpr ⟨rfl, List.forall_mem_cons.mpr ⟨rfl, fun _ h => absurd h List.not_mem_nil⟩⟩)
    · refine r_ldcw hX dX8_reads_19 kc_X8_291 (RR.pc (b := 22) rfl ?_)
      exact r_iret hX hZ dX8_reads_22 ⟨_, rfl, (by unfold readF; rw [ix_some ha (by omega)]; dsimp only; rw [q24, if_pos (Int32.not_le.mp h16)]; exact ⟨rfl, rfl⟩)⟩
  · refine r_ldc hX dX8_reads_7 kc_X8_84 (RR.pc (b := 9) rfl ?_)
    exact r_iret hX hZ dX8_reads_9 ⟨_, rfl, (by unfold readF; rw [ix_none (by omega)]; exact ⟨rfl, rfl⟩)⟩
