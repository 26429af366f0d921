/-! the reference: sheets -/
def shR (σ : SG) (a j : Nat) : Int32 := if j < 24 then σ 25 (24 * a + j) else if j = 24 then σ 23 a else σ 24 a
def shEq (S S' : Nat → Nat → Int32) : Prop := ∀ a, a < 4 → ∀ j, j < 26 → S a j = S' a j
def rowS (S : Nat → Nat → Int32) (a : Nat) (f : Nat → Int32) : Nat → Nat → Int32 := fun b => if b = a then f else S b
def rowN (sort n : Int32) : Nat → Int32 := fun j => if j < 24 then 0 else if j = 24 then sort else n
def sheetF (S : Nat → Nat → Int32) (sheet sort n : Int32) : Int32 × (Nat → Nat → Int32) := match ix sheet 4 with
  | none => (vBAD, S)
  | some a => if ¬ (-1 ≤ sort.toInt ∧ sort.toInt ≤ 1) then (vBAD, S) else if sort.toInt < 0 then (0, rowS S a (rowN sort 0)) else if 24 < n.toInt then (vBAD, S) else if n.toInt < 0 then (vSIZE, S) else (n, rowS S a (rowN sort n))
theorem shR_sort {σ : SG} {a : Nat} : shR σ a 24 = σ 23 a := by simp [shR]
theorem shR_size {σ : SG} {a : Nat} : shR σ a 25 = σ 24 a := by simp [shR]
theorem shR_pl {σ : SG} {a j : Nat} (h : j < 24) : shR σ a j = σ 25 (24 * a + j) := if_pos h
/-- k places of a row are 0 -/
def zerL (f : Nat → Int32) (o : Nat) : Nat → (Nat → Int32)
  | 0 => f
  | k + 1 => upd (zerL f o k) (o + k) 0
theorem zerL_at {f : Nat → Int32} {o i : Nat} : ∀ {k : Nat}, zerL f o k i = if o ≤ i ∧ i < o + k then 0 else f i := by
  intro k
  induction k with
  | zero => rw [if_neg (by omega)]; rfl
  | succ k ih =>
    unfold zerL
    by_cases e : i = o + k
    · subst e
      rw [pk_us, if_pos (by omega)]
    · rw [pk_un e, ih]
      by_cases h : o ≤ i ∧ i < o + k
      · rw [if_pos h, if_pos (by omega)]
      · rw [if_neg h, if_neg (by omega)]
theorem ix24 (a k : Nat) : (24 : Int32) * nI a + nI k = nI (24 * a + k) := by show nI 24 * nI a + nI k = _; rw [pk_mul, nI_add]
theorem i32_0 : (0 : Int32).toInt = 0 := by decide
theorem sheet_eq {σ : SG} {a : Nat} {sort v : Int32} (ha : a < 4) : shEq (shR (sr (su (su σ 23 a sort) 24 a v) 25 (zerL (σ 25) (24 * a) 24))) (rowS (shR σ) a (rowN sort v)) := by
  intro b hb j hj
  unfold rowS
  by_cases e : b = a
  · subst e
    rw [if_pos rfl]
    unfold rowN
    by_cases h : j < 24
    · rw [if_pos h, shR_pl h, sr_eq, zerL_at, if_pos (by omega)]
    · rw [if_neg h]
      by_cases h2 : j = 24
      · subst h2
        rw [if_pos rfl, shR_sort, sr_ne (by decide), su_ne (by decide), su_eq, pk_us]
      · have : j = 25 := by omega
        subst this
        rw [if_neg (by decide), shR_size, sr_ne (by decide), su_eq, pk_us]
  · rw [if_neg e]
    by_cases h : j < 24
    · rw [shR_pl h, shR_pl h, sr_eq, zerL_at, if_neg (by omega)]
    · by_cases h2 : j = 24
      · subst h2
        rw [shR_sort, shR_sort, sr_ne (by decide), su_ne (by decide), su_eq, pk_un e]
      · have : j = 25 := by omega
        subst this
        rw [shR_size, shR_size, sr_ne (by decide), su_eq, pk_un e, su_ne (by decide)]
set_option maxHeartbeats 4000000 in
set_option maxRecDepth 100000 in
theorem c_X8_sheet {G : GM} {σ : SG} {sheet sort n : Int32} : CI G yX8_sheet cX8_sheet 5 (some .int) 2 [rf G 109, .int sheet, .int sort, .int n] σ (fun r s => r = (sheetF (shR σ) sheet sort n).1 ∧ shEq (shR s) (sheetF (shR σ) sheet sort n).2 ∧ same [23, 24, 25] σ s) := by
  refine Con.of cd_X8_sheet (Nat.le_of_ble_eq_true rfl) ?_
  intro X hX hZ
  have hX : Fx X G RX8 cX8_sheet 5 2 := hX
  show RR X G 5 0 (ll [(0, rf G 109), (1, .int sheet), (2, .int sort), (3, .int n)]) [] σ
  have go : ∀ (a : Nat) (v : Int32), a < 4 → sheet = nI a → v = (if 0 ≤ sort then n else 0) → sheetF (shR σ) sheet sort n = (v, rowS (shR σ) a (rowN sort v)) → RR X G 5 44 (ll [(0, rf G 109), (1, .int sheet), (2, .int sort), (3, .int n)]) [] σ := by
    intro a v ha e hv hF
    subst e
    have loop := loopK 24 (fun k => RR X G 5 69 (ll [(0, rf G 109), (1, .int (nI a)), (4, .int (nI k))]) [] (sr (su (su σ 23 a sort) 24 a v) 25 (zerL (σ 25) (24 * a) k))) (by
      intro k hk ih
      refine r_iload hX dX8_sheet_69 rfl (RR.pc (b := 71) rfl ?_)
      refine r_bipush (v := 24) hX dX8_sheet_71 (by decide) (RR.pc (b := 73) rfl ?_)
      refine r_icmp_ge (tgt := 95) hX dX8_sheet_73 rfl (fun h73 => ?_) (fun h73 => RR.pc (b := 76) rfl ?_)
      · have hk2 : k = 24 := by rw [show (24 : Int32) = nI 24 from rfl, nI_leI (by omega) (by omega)] at h73; omega
        subst hk2
        refine r_aload_n hX dX8_sheet_95 rfl ⟨_, rfl⟩ (RR.pc (b := 96) rfl ?_)
        refine r_getr hX dX8_sheet_96 fl_X8_22 (by first | rfl | assumption) rfl (RR.pc (b := 99) rfl ?_)
        refine r_iload_n (i := 0) hX dX8_sheet_99 rfl (RR.pc (b := 100) rfl ?_)
        refine r_iald hX dX8_sheet_100 (by first | rfl | assumption) rfl (by omega) (by decide) (by first | exact Nat.zero_add _ | rfl) (RR.pc (b := 101) rfl ?_)
        rw [sr_ne (by decide), su_eq, pk_us]
        exact r_iret hX hZ dX8_sheet_101 ⟨_, rfl, ⟨by rw [hF], by rw [hF]; exact sheet_eq ha, (((same.rf.su (by simp)).su (by simp)).sr (by simp))⟩⟩
      · have hk2 : k < 24 := by rw [show (24 : Int32) = nI 24 from rfl, nI_leI (by omega) (by omega)] at h73; omega
        refine r_aload_n hX dX8_sheet_76 rfl ⟨_, rfl⟩ (RR.pc (b := 77) rfl ?_)
        refine r_getr hX dX8_sheet_77 fl_X8_25 (by first | rfl | assumption) rfl (RR.pc (b := 80) rfl ?_)
        refine r_bipush (v := 24) hX dX8_sheet_80 (by decide) (RR.pc (b := 82) rfl ?_)
        refine r_iload_n (i := 0) hX dX8_sheet_82 rfl (RR.pc (b := 83) rfl ?_)
        refine r_imul hX dX8_sheet_83 (RR.pc (b := 84) rfl ?_)
        refine r_iload hX dX8_sheet_84 rfl (RR.pc (b := 86) rfl ?_)
        refine r_iadd hX dX8_sheet_86 (RR.pc (b := 87) rfl ?_)
        refine r_iconst (v := 0) hX dX8_sheet_87 (by decide) (RR.pc (b := 88) rfl ?_)
        refine r_iast hX dX8_sheet_88 (by first | rfl | assumption) (ix24 a k) (by omega) (by decide) (by first | exact Nat.zero_add _ | rfl) (RR.pc (b := 89) rfl ?_)
        refine r_iinc hX dX8_sheet_89 rfl (by decide) (nI_1 k) (RR.pc (b := 92) rfl ?_)
        refine r_goto (tgt := 69) hX dX8_sheet_92 rfl ?_
        exact RR.eqs su_sr (RR.cut (ih hk2) (List.forall_mem_cons.mpr ⟨rfl, List.forall_mem_cons.mpr ⟨rfl, List.forall_mem_cons.mpr ⟨rfl, fun _ h => absurd h List.not_mem_nil⟩⟩⟩))
      )
    refine r_aload_n hX dX8_sheet_44 rfl ⟨_, rfl⟩ (RR.pc (b := 45) rfl ?_)
    refine r_getr hX dX8_sheet_45 fl_X8_19 (by first | rfl | assumption) rfl (RR.pc (b := 48) rfl ?_)
    refine r_iload_n (i := 0) hX dX8_sheet_48 rfl (RR.pc (b := 49) rfl ?_)
    refine r_iload_n (i := 0) hX dX8_sheet_49 rfl (RR.pc (b := 50) rfl ?_)
    refine r_iast hX dX8_sheet_50 (by first | rfl | assumption) rfl (by omega) (by decide) (by first | exact Nat.zero_add _ | rfl) (RR.pc (b := 51) rfl ?_)
    refine r_aload_n hX dX8_sheet_51 rfl ⟨_, rfl⟩ (RR.pc (b := 52) rfl ?_)
    refine r_getr hX dX8_sheet_52 fl_X8_22 (by first | rfl | assumption) rfl (RR.pc (b := 55) rfl ?_)
    refine r_iload_n (i := 0) hX dX8_sheet_55 rfl (RR.pc (b := 56) rfl ?_)
    refine r_iload_n (i := 0) hX dX8_sheet_56 rfl (RR.pc (b := 57) rfl ?_)
    refine r_dia1 65 (if 0 ≤ sort then n else 0) (fun hj57 => ?_) ?_
    · refine r_if_ge (tgt := 64) hX dX8_sheet_57 rfl (fun h57 => ?_) (fun h57 => RR.pc (b := 60) rfl ?_)
      · refine r_iload_n (i := 0) hX dX8_sheet_64 rfl (RR.pc (b := 65) rfl ?_)
        exact RR.eqt (congrArg (fun q => Value.int q :: _) (if_pos h57).symm) hj57
      · refine r_iconst (v := 0) hX dX8_sheet_60 (by decide) (RR.pc (b := 61) rfl ?_)
        refine r_goto (tgt := 65) hX dX8_sheet_61 rfl ?_
        exact RR.eqt (congrArg (fun q => Value.int q :: _) (if_neg h57).symm) hj57
    refine r_iast hX dX8_sheet_65 (by first | rfl | assumption) rfl (by omega) (by decide) (by first | exact Nat.zero_add _ | rfl) (RR.pc (b := 66) rfl ?_)
    refine r_iconst (v := 0) hX dX8_sheet_66 (by decide) (RR.pc (b := 67) rfl ?_)
    refine r_istore hX dX8_sheet_67 (by decide) (RR.pc (b := 69) rfl ?_)
    refine RR.eqs ?_ (RR.cut (loop 0 (by omega)) (List.forall_mem_cons.mpr ⟨rfl, List.forall_mem_cons.mpr ⟨rfl, List.forall_mem_cons.mpr ⟨rfl, fun _ h => absurd h List.not_mem_nil⟩⟩⟩))
    rw [← hv, show zerL (σ 25) (24 * a) 0 = (su (su σ 23 a sort) 24 a v) 25 from by rw [su_ne (by decide), su_ne (by decide)]; rfl, sr_self]
  refine r_iload_n (i := 0) hX dX8_sheet_0 rfl (RR.pc (b := 1) rfl ?_)
  refine r_callSie hX dX8_sheet_1 ml_X8_285 cd_X8_isSheet st_X8_isSheet c_X8_isSheet (by decide) rfl rfl (Nat.le_of_ble_eq_true rfl) (RR.pc (b := 4) rfl ?_)
  refine r_if_eq_b (tgt := 29) hX dX8_sheet_4 rfl (fun h4 => ?_) (fun h4 => RR.pc (b := 7) rfl ?_)
  · refine r_ldc hX dX8_sheet_29 kc_X8_84 (RR.pc (b := 31) rfl ?_)
    exact r_iret hX hZ dX8_sheet_31 ⟨_, rfl, (by unfold sheetF; first | (rw [ix_none (by omega)]; exact ⟨rfl, fun _ _ _ _ => rfl, same.rf⟩) | (rw [ix_some ha (by omega)]; dsimp only; first | (rw [if_pos h16]; exact ⟨rfl, fun _ _ _ _ => rfl, same.rf⟩) | (rw [if_neg (fun z => z h16), if_neg (by rw [Int32.lt_iff_toInt_lt, i32_0] at h20; exact h20), if_pos (by rw [Int32.le_iff_toInt_le] at h26; exact Int.not_le.mp h26)]; exact ⟨rfl, fun _ _ _ _ => rfl, same.rf⟩)))⟩
  · obtain ⟨a, ha, rfl⟩ := ix_of (n := 4) (k := sheet) ⟨by omega, by omega⟩ (by omega)
    refine r_iload_n (i := 0) hX dX8_sheet_7 rfl (RR.pc (b := 8) rfl ?_)
    refine r_i2l hX dX8_sheet_8 (RR.pc (b := 9) rfl ?_)
    refine r_ldc2 hX dX8_sheet_9 k2_X8_288 (RR.pc (b := 12) rfl ?_)
    refine r_lconst (v := 1) hX dX8_sheet_12 rfl (RR.pc (b := 13) rfl ?_)
    refine r_callSie hX dX8_sheet_13 ml_X8_65 cd_X8_isIn st_X8_isIn c_X8_isIn (by decide) rfl rfl (Nat.le_of_ble_eq_true rfl) (RR.pc (b := 16) rfl ?_)
    refine r_if_eq_b (tgt := 29) hX dX8_sheet_16 rfl (fun h16 => ?_) (fun h16 => RR.pc (b := 19) rfl ?_)
    · simp only [Int32.toInt_toInt64, Int64.reduceToInt] at h16
      refine r_ldc hX dX8_sheet_29 kc_X8_84 (RR.pc (b := 31) rfl ?_)
      exact r_iret hX hZ dX8_sheet_31 ⟨_, rfl, (by unfold sheetF; first | (rw [ix_none (by omega)]; exact ⟨rfl, fun _ _ _ _ => rfl, same.rf⟩) | (rw [ix_some ha (by omega)]; dsimp only; first | (rw [if_pos h16]; exact ⟨rfl, fun _ _ _ _ => rfl, same.rf⟩) | (rw [if_neg (fun z => z h16), if_neg (by rw [Int32.lt_iff_toInt_lt, i32_0] at h20; exact h20), if_pos (by rw [Int32.le_iff_toInt_le] at h26; exact Int.not_le.mp h26)]; exact ⟨rfl, fun _ _ _ _ => rfl, same.rf⟩)))⟩
    · simp only [Int32.toInt_toInt64, Int64.reduceToInt] at h16
      refine r_iload_n (i := 0) hX dX8_sheet_19 rfl (RR.pc (b := 20) rfl ?_)
      refine r_if_lt (tgt := 32) hX dX8_sheet_20 rfl (fun h20 => ?_) (fun h20 => RR.pc (b := 23) rfl ?_)
      · refine r_iload_n (i := 0) hX dX8_sheet_32 rfl (RR.pc (b := 33) rfl ?_)
        refine r_if_lt (tgt := 44) hX dX8_sheet_33 rfl (fun h33 => ?_) (fun h33 => RR.pc (b := 36) rfl ?_)
        · first | exact RR.cut (go a 0 ha rfl (by rw [if_neg (Int32.not_le.mpr h33)]) (by unfold sheetF; rw [ix_some ha (by omega)]; dsimp only; rw [if_neg (fun z => z h16), if_pos (show sort.toInt < 0 from Int32.lt_iff_toInt_lt.mp h33)])) (List.forall_mem_cons.mpr ⟨rfl, List.forall_mem_cons.mpr ⟨rfl, List.forall_mem_cons.mpr ⟨rfl, List.forall_mem_cons.mpr ⟨rfl, fun _ h => absurd h List.not_mem_nil⟩⟩⟩⟩) | exact RR.cut (go a n ha rfl (by rw [if_pos (Int32.not_lt.mp h33)]) (by unfold sheetF; rw [ix_some ha (by omega)]; dsimp only; rw [if_neg (fun z => z h16), if_neg (show ¬ sort.toInt < 0 from fun z => h33 (Int32.lt_iff_toInt_lt.mpr z)), if_neg (by first | (rw [Int32.le_iff_toInt_le] at h26; exact Int.not_lt.mpr h26) | exact absurd h20 h33), if_neg (by rw [Int32.le_iff_toInt_le, i32_0] at h37; omega)])) (List.forall_mem_cons.mpr ⟨rfl, List.forall_mem_cons.mpr ⟨rfl, List.forall_mem_cons.mpr ⟨rfl, List.forall_mem_cons.mpr ⟨rfl, fun _ h => absurd h List.not_mem_nil⟩⟩⟩⟩)
        · refine r_iload_n (i := 0) hX dX8_sheet_36 rfl (RR.pc (b := 37) rfl ?_)
          refine r_if_ge (tgt := 44) hX dX8_sheet_37 rfl (fun h37 => ?_) (fun h37 => RR.pc (b := 40) rfl ?_)
          · first | exact RR.cut (go a 0 ha rfl (by rw [if_neg (Int32.not_le.mpr h33)]) (by unfold sheetF; rw [ix_some ha (by omega)]; dsimp only; rw [if_neg (fun z => z h16), if_pos (show sort.toInt < 0 from Int32.lt_iff_toInt_lt.mp h33)])) (List.forall_mem_cons.mpr ⟨rfl, List.forall_mem_cons.mpr ⟨rfl, List.forall_mem_cons.mpr ⟨rfl, List.forall_mem_cons.mpr ⟨rfl, fun _ h => absurd h List.not_mem_nil⟩⟩⟩⟩) | exact RR.cut (go a n ha rfl (by rw [if_pos (Int32.not_lt.mp h33)]) (by unfold sheetF; rw [ix_some ha (by omega)]; dsimp only; rw [if_neg (fun z => z h16), if_neg (show ¬ sort.toInt < 0 from fun z => h33 (Int32.lt_iff_toInt_lt.mpr z)), if_neg (by first | (rw [Int32.le_iff_toInt_le] at h26; exact Int.not_lt.mpr h26) | exact absurd h20 h33), if_neg (by rw [Int32.le_iff_toInt_le, i32_0] at h37; omega)])) (List.forall_mem_cons.mpr ⟨rfl, List.forall_mem_cons.mpr ⟨rfl, List.forall_mem_cons.mpr ⟨rfl, List.forall_mem_cons.mpr ⟨rfl, fun _ h => absurd h List.not_mem_nil⟩⟩⟩⟩)
          · refine r_ldcw hX dX8_sheet_40 kc_X8_290 (RR.pc (b := 43) rfl ?_)
            exact r_iret hX hZ dX8_sheet_43 ⟨_, rfl, (by unfold sheetF; rw [ix_some ha (by omega)]; dsimp only; rw [Int32.lt_iff_toInt_lt, i32_0] at h33; rw [if_neg (fun z => z h16), if_neg h33]; first | (rw [if_neg (by rw [Int32.le_iff_toInt_le] at h26; exact Int.not_lt.mpr h26), if_pos (by rw [Int32.le_iff_toInt_le, i32_0] at h37; exact Int.not_le.mp h37)]; exact ⟨rfl, fun _ _ _ _ => rfl, same.rf⟩) | exact absurd (Int32.lt_iff_toInt_lt.mp h20) h33)⟩
      · refine r_iload_n (i := 0) hX dX8_sheet_23 rfl (RR.pc (b := 24) rfl ?_)
        refine r_bipush (v := 24) hX dX8_sheet_24 (by decide) (RR.pc (b := 26) rfl ?_)
        refine r_icmp_le (tgt := 32) hX dX8_sheet_26 rfl (fun h26 => ?_) (fun h26 => RR.pc (b := 29) rfl ?_)
        · refine r_iload_n (i := 0) hX dX8_sheet_32 rfl (RR.pc (b := 33) rfl ?_)
          refine r_if_lt (tgt := 44) hX dX8_sheet_33 rfl (fun h33 => ?_) (fun h33 => RR.pc (b := 36) rfl ?_)
          · first | exact RR.cut (go a 0 ha rfl (by rw [if_neg (Int32.not_le.mpr h33)]) (by unfold sheetF; rw [ix_some ha (by omega)]; dsimp only; rw [if_neg (fun z => z h16), if_pos (show sort.toInt < 0 from Int32.lt_iff_toInt_lt.mp h33)])) (List.forall_mem_cons.mpr ⟨rfl, List.forall_mem_cons.mpr ⟨rfl, List.forall_mem_cons.mpr ⟨rfl, List.forall_mem_cons.mpr ⟨rfl, fun _ h => absurd h List.not_mem_nil⟩⟩⟩⟩) | exact RR.cut (go a n ha rfl (by rw [if_pos (Int32.not_lt.mp h33)]) (by unfold sheetF; rw [ix_some ha (by omega)]; dsimp only; rw [if_neg (fun z => z h16), if_neg (show ¬ sort.toInt < 0 from fun z => h33 (Int32.lt_iff_toInt_lt.mpr z)), if_neg (by first | (rw [Int32.le_iff_toInt_le] at h26; exact Int.not_lt.mpr h26) | exact absurd h20 h33), if_neg (by rw [Int32.le_iff_toInt_le, i32_0] at h37; omega)])) (List.forall_mem_cons.mpr ⟨rfl, List.forall_mem_cons.mpr ⟨rfl, List.forall_mem_cons.mpr ⟨rfl, List.forall_mem_cons.mpr ⟨rfl, fun _ h => absurd h List.not_mem_nil⟩⟩⟩⟩)
          · refine r_iload_n (i := 0) hX dX8_sheet_36 rfl (RR.pc (b := 37) rfl ?_)
            refine r_if_ge (tgt := 44) hX dX8_sheet_37 rfl (fun h37 => ?_) (fun h37 => RR.pc (b := 40) rfl ?_)
            · first | exact RR.cut (go a 0 ha rfl (by rw [if_neg (Int32.not_le.mpr h33)]) (by unfold sheetF; rw [ix_some ha (by omega)]; dsimp only; rw [if_neg (fun z => z h16), if_pos (show sort.toInt < 0 from Int32.lt_iff_toInt_lt.mp h33)])) (List.forall_mem_cons.mpr ⟨rfl, List.forall_mem_cons.mpr ⟨rfl, List.forall_mem_cons.mpr ⟨rfl, List.forall_mem_cons.mpr ⟨rfl, fun _ h => absurd h List.not_mem_nil⟩⟩⟩⟩) | exact RR.cut (go a n ha rfl (by rw [if_pos (Int32.not_lt.mp h33)]) (by unfold sheetF; rw [ix_some ha (by omega)]; dsimp only; rw [if_neg (fun z => z h16), if_neg (show ¬ sort.toInt < 0 from fun z => h33 (Int32.lt_iff_toInt_lt.mpr z)), if_neg (by first | (rw [Int32.le_iff_toInt_le] at h26; exact Int.not_lt.mpr h26) | exact absurd h20 h33), if_neg (by rw [Int32.le_iff_toInt_le, i32_0] at h37; omega)])) (List.forall_mem_cons.mpr ⟨rfl, List.forall_mem_cons.mpr ⟨rfl, List.forall_mem_cons.mpr ⟨rfl, List.forall_mem_cons.mpr ⟨rfl, fun _ h => absurd h List.not_mem_nil⟩⟩⟩⟩)
            · refine r_ldcw hX dX8_sheet_40 kc_X8_290 (RR.pc (b := 43) rfl ?_)
              exact r_iret hX hZ dX8_sheet_43 ⟨_, rfl, (by unfold sheetF; rw [ix_some ha (by omega)]; dsimp only; rw [Int32.lt_iff_toInt_lt, i32_0] at h33; rw [if_neg (fun z => z h16), if_neg h33]; first | (rw [if_neg (by rw [Int32.le_iff_toInt_le] at h26; exact Int.not_lt.mpr h26), if_pos (by rw [Int32.le_iff_toInt_le, i32_0] at h37; exact Int.not_le.mp h37)]; exact ⟨rfl, fun _ _ _ _ => rfl, same.rf⟩) | exact absurd (Int32.lt_iff_toInt_lt.mp h20) h33)⟩
        · refine r_ldc hX dX8_sheet_29 kc_X8_84 (RR.pc (b := 31) rfl ?_)
          exact r_iret hX hZ dX8_sheet_31 ⟨_, rfl, (by unfold sheetF; first | (rw [ix_none (by omega)]; exact ⟨rfl, fun _ _ _ _ => rfl, same.rf⟩) | (rw [ix_some ha (by omega)]; dsimp only; first | (rw [if_pos h16]; exact ⟨rfl, fun _ _ _ _ => rfl, same.rf⟩) | (rw [if_neg (fun z => z h16), if_neg (by rw [Int32.lt_iff_toInt_lt, i32_0] at h20; exact h20), if_pos (by rw [Int32.le_iff_toInt_le] at h26; exact Int.not_le.mp h26)]; exact ⟨rfl, fun _ _ _ _ => rfl, same.rf⟩)))⟩
