/-! the reference: signs, words, steps -/
set_option maxHeartbeats 4000000 in
set_option maxRecDepth 100000 in
theorem c_X8_isSign {G : GM} {σ : SG} {tp : Nat → Int32} {k b e : Nat} {c : Int32} (hR : RK σ tp k b e) (hk : k ≤ 4) : CI G yX8_isSign cX8_isSign 2 (some .boolean) 0 [rf G 109, .int c] σ (fun r s => r = bz (k = 1 ∧ tp b = c) ∧ s = σ) := by
  refine Con.of cd_X8_isSign (Nat.le_of_ble_eq_true rfl) ?_
  intro X hX hZ
  have hX : Fx X G RX8 cX8_isSign 2 0 := hX
  show RR X G 2 0 (ll [(0, rf G 109), (1, .int c)]) [] σ
  obtain ⟨q0, q1, q2, q3, q4⟩ := tkR_le k hk
  refine r_aload_n hX dX8_isSign_0 rfl ⟨_, rfl⟩ (RR.pc (b := 1) rfl ?_)
  refine r_geti hX dX8_isSign_1 fl_X8_199 (by first | rfl | assumption) rfl (RR.pc (b := 4) rfl ?_)
  rw [hR.2.2.1]
  refine r_iconst (v := 3) hX dX8_isSign_4 (by decide) (RR.pc (b := 5) rfl ?_)
  refine r_icmp_ne (tgt := 20) hX dX8_isSign_5 rfl (fun h5 => ?_) (fun h5 => RR.pc (b := 8) rfl ?_)
  · refine r_iconst (v := 0) hX dX8_isSign_20 (by decide) (RR.pc (b := 21) rfl ?_)
    exact r_zret hX hZ dX8_isSign_21 (by first | rfl | exact nar_bz _) ⟨_, rfl, ⟨by first | exact (bz_t ⟨k1, h13⟩).symm | exact (bz_f (fun z => h13 z.2)).symm | exact (bz_f (fun z => h5 (by rw [q4.mpr z.1]; rfl))).symm, rfl⟩⟩
  · have k1 : k = 1 := q4.mp ((nI_eq (b := 3) (by omega) (by omega)).mp h5)
    refine r_aload_n hX dX8_isSign_8 rfl ⟨_, rfl⟩ (RR.pc (b := 9) rfl ?_)
    refine r_geti hX dX8_isSign_9 fl_X8_208 (by first | rfl | assumption) rfl (RR.pc (b := 12) rfl ?_)
    rw [hR.2.2.2.1 k1]
    refine r_iload_n (i := 0) hX dX8_isSign_12 rfl (RR.pc (b := 13) rfl ?_)
    refine r_icmp_ne (tgt := 20) hX dX8_isSign_13 rfl (fun h13 => ?_) (fun h13 => RR.pc (b := 16) rfl ?_)
    · refine r_iconst (v := 0) hX dX8_isSign_20 (by decide) (RR.pc (b := 21) rfl ?_)
      exact r_zret hX hZ dX8_isSign_21 (by first | rfl | exact nar_bz _) ⟨_, rfl, ⟨by first | exact (bz_t ⟨k1, h13⟩).symm | exact (bz_f (fun z => h13 z.2)).symm | exact (bz_f (fun z => h5 (by rw [q4.mpr z.1]; rfl))).symm, rfl⟩⟩
    · refine r_iconst (v := 1) hX dX8_isSign_16 (by decide) (RR.pc (b := 17) rfl ?_)
      refine r_goto (tgt := 21) hX dX8_isSign_17 rfl ?_
      exact r_zret hX hZ dX8_isSign_21 (by first | rfl | exact nar_bz _) ⟨_, rfl, ⟨by first | exact (bz_t ⟨k1, h13⟩).symm | exact (bz_f (fun z => h13 z.2)).symm | exact (bz_f (fun z => h5 (by rw [q4.mpr z.1]; rfl))).symm, rfl⟩⟩
set_option maxHeartbeats 4000000 in
set_option maxRecDepth 100000 in
theorem c_X8_isName {G : GM} {σ : SG} {key c : Int32} : CI G yX8_isName cX8_isName 2 (some .boolean) 0 [.int key, .int c] σ (fun r s => r = bz (c ∈ nmK key) ∧ s = σ) := by
  refine Con.of cd_X8_isName (Nat.le_of_ble_eq_true rfl) ?_
  intro X hX hZ
  have hX : Fx X G RX8 cX8_isName 2 0 := hX
  show RR X G 2 0 (ll [(0, .int key), (1, .int c)]) [] σ
  have n0 : key = 0 → nmK key = [104, 112, 103] := fun h => by unfold nmK; rw [if_pos h]
  have n1 : ¬ key = 0 → key = 1 → nmK key = [101, 98] := fun h g => by unfold nmK; rw [if_neg h, if_pos g]
  have n2 : ¬ key = 0 → ¬ key = 1 → nmK key = [103, 121] := fun h g => by unfold nmK; rw [if_neg h, if_neg g]
  refine r_iload_n (i := 0) hX dX8_isName_0 rfl (RR.pc (b := 1) rfl ?_)
  by_cases h1_0 : key = 0
  · refine r_lookup (off := 27) (tgt := 28) hX dX8_isName_1 (by decide) (by rw [h1_0]; try rfl) rfl ?_
    refine r_iload_n (i := 0) hX dX8_isName_28 rfl (RR.pc (b := 29) rfl ?_)
    refine r_bipush (v := 104) hX dX8_isName_29 (by decide) (RR.pc (b := 31) rfl ?_)
    refine r_icmp_eq (tgt := 46) hX dX8_isName_31 rfl (fun h31 => ?_) (fun h31 => RR.pc (b := 34) rfl ?_)
    · refine r_iconst (v := 1) hX dX8_isName_46 (by decide) (RR.pc (b := 47) rfl ?_)
      refine r_goto (tgt := 51) hX dX8_isName_47 rfl ?_
      exact r_zret hX hZ dX8_isName_51 (by first | rfl | exact nar_bz _) ⟨_, rfl, ⟨by rw [n0 h1_0]; unfold bz; simp only [List.mem_cons, List.not_mem_nil, or_false]; first | rw [if_pos (Or.inl h31)] | rw [if_pos (Or.inr (Or.inl h37))] | rw [if_pos (Or.inr (Or.inr h43))] | rw [if_neg (fun z => z.elim h31 (fun y => y.elim h37 h43))], rfl⟩⟩
    · refine r_iload_n (i := 0) hX dX8_isName_34 rfl (RR.pc (b := 35) rfl ?_)
      refine r_bipush (v := 112) hX dX8_isName_35 (by decide) (RR.pc (b := 37) rfl ?_)
      refine r_icmp_eq (tgt := 46) hX dX8_isName_37 rfl (fun h37 => ?_) (fun h37 => RR.pc (b := 40) rfl ?_)
      · refine r_iconst (v := 1) hX dX8_isName_46 (by decide) (RR.pc (b := 47) rfl ?_)
        refine r_goto (tgt := 51) hX dX8_isName_47 rfl ?_
        exact r_zret hX hZ dX8_isName_51 (by first | rfl | exact nar_bz _) ⟨_, rfl, ⟨by rw [n0 h1_0]; unfold bz; simp only [List.mem_cons, List.not_mem_nil, or_false]; first | rw [if_pos (Or.inl h31)] | rw [if_pos (Or.inr (Or.inl h37))] | rw [if_pos (Or.inr (Or.inr h43))] | rw [if_neg (fun z => z.elim h31 (fun y => y.elim h37 h43))], rfl⟩⟩
      · refine r_iload_n (i := 0) hX dX8_isName_40 rfl (RR.pc (b := 41) rfl ?_)
        refine r_bipush (v := 103) hX dX8_isName_41 (by decide) (RR.pc (b := 43) rfl ?_)
        refine r_icmp_ne (tgt := 50) hX dX8_isName_43 rfl (fun h43 => ?_) (fun h43 => RR.pc (b := 46) rfl ?_)
        · refine r_iconst (v := 0) hX dX8_isName_50 (by decide) (RR.pc (b := 51) rfl ?_)
          exact r_zret hX hZ dX8_isName_51 (by first | rfl | exact nar_bz _) ⟨_, rfl, ⟨by rw [n0 h1_0]; unfold bz; simp only [List.mem_cons, List.not_mem_nil, or_false]; first | rw [if_pos (Or.inl h31)] | rw [if_pos (Or.inr (Or.inl h37))] | rw [if_pos (Or.inr (Or.inr h43))] | rw [if_neg (fun z => z.elim h31 (fun y => y.elim h37 h43))], rfl⟩⟩
        · refine r_iconst (v := 1) hX dX8_isName_46 (by decide) (RR.pc (b := 47) rfl ?_)
          refine r_goto (tgt := 51) hX dX8_isName_47 rfl ?_
          exact r_zret hX hZ dX8_isName_51 (by first | rfl | exact nar_bz _) ⟨_, rfl, ⟨by rw [n0 h1_0]; unfold bz; simp only [List.mem_cons, List.not_mem_nil, or_false]; first | rw [if_pos (Or.inl h31)] | rw [if_pos (Or.inr (Or.inl h37))] | rw [if_pos (Or.inr (Or.inr h43))] | rw [if_neg (fun z => z.elim h31 (fun y => y.elim h37 h43))], rfl⟩⟩
  by_cases h1_1 : key = 1
  · refine r_lookup (off := 51) (tgt := 52) hX dX8_isName_1 (by decide) (by rw [h1_1]; try rfl) rfl ?_
    refine r_iload_n (i := 0) hX dX8_isName_52 rfl (RR.pc (b := 53) rfl ?_)
    refine r_bipush (v := 101) hX dX8_isName_53 (by decide) (RR.pc (b := 55) rfl ?_)
    refine r_icmp_eq (tgt := 64) hX dX8_isName_55 rfl (fun h55 => ?_) (fun h55 => RR.pc (b := 58) rfl ?_)
    · refine r_iconst (v := 1) hX dX8_isName_64 (by decide) (RR.pc (b := 65) rfl ?_)
      refine r_goto (tgt := 69) hX dX8_isName_65 rfl ?_
      exact r_zret hX hZ dX8_isName_69 (by first | rfl | exact nar_bz _) ⟨_, rfl, ⟨by rw [n1 h1_0 h1_1]; unfold bz; simp only [List.mem_cons, List.not_mem_nil, or_false]; first | rw [if_pos (Or.inl h55)] | rw [if_pos (Or.inr h61)] | rw [if_neg (fun z => z.elim h55 h61)], rfl⟩⟩
    · refine r_iload_n (i := 0) hX dX8_isName_58 rfl (RR.pc (b := 59) rfl ?_)
      refine r_bipush (v := 98) hX dX8_isName_59 (by decide) (RR.pc (b := 61) rfl ?_)
      refine r_icmp_ne (tgt := 68) hX dX8_isName_61 rfl (fun h61 => ?_) (fun h61 => RR.pc (b := 64) rfl ?_)
      · refine r_iconst (v := 0) hX dX8_isName_68 (by decide) (RR.pc (b := 69) rfl ?_)
        exact r_zret hX hZ dX8_isName_69 (by first | rfl | exact nar_bz _) ⟨_, rfl, ⟨by rw [n1 h1_0 h1_1]; unfold bz; simp only [List.mem_cons, List.not_mem_nil, or_false]; first | rw [if_pos (Or.inl h55)] | rw [if_pos (Or.inr h61)] | rw [if_neg (fun z => z.elim h55 h61)], rfl⟩⟩
      · refine r_iconst (v := 1) hX dX8_isName_64 (by decide) (RR.pc (b := 65) rfl ?_)
        refine r_goto (tgt := 69) hX dX8_isName_65 rfl ?_
        exact r_zret hX hZ dX8_isName_69 (by first | rfl | exact nar_bz _) ⟨_, rfl, ⟨by rw [n1 h1_0 h1_1]; unfold bz; simp only [List.mem_cons, List.not_mem_nil, or_false]; first | rw [if_pos (Or.inl h55)] | rw [if_pos (Or.inr h61)] | rw [if_neg (fun z => z.elim h55 h61)], rfl⟩⟩
  refine r_lookup (off := 69) (tgt := 70) hX dX8_isName_1 (by decide) (by have n0 : (key).toInt ≠ 0 := ne_toInt h1_0; have n1 : (key).toInt ≠ 1 := ne_toInt h1_1; simp [Op.lookupswitch.offset, List.find?, n0, Ne.symm n0, n1, Ne.symm n1]) rfl ?_
  refine r_iload_n (i := 0) hX dX8_isName_70 rfl (RR.pc (b := 71) rfl ?_)
  refine r_bipush (v := 103) hX dX8_isName_71 (by decide) (RR.pc (b := 73) rfl ?_)
  refine r_icmp_eq (tgt := 82) hX dX8_isName_73 rfl (fun h73 => ?_) (fun h73 => RR.pc (b := 76) rfl ?_)
  · refine r_iconst (v := 1) hX dX8_isName_82 (by decide) (RR.pc (b := 83) rfl ?_)
    refine r_goto (tgt := 87) hX dX8_isName_83 rfl ?_
    exact r_zret hX hZ dX8_isName_87 (by first | rfl | exact nar_bz _) ⟨_, rfl, ⟨by rw [n2 h1_0 h1_1]; unfold bz; simp only [List.mem_cons, List.not_mem_nil, or_false]; first | rw [if_pos (Or.inl h73)] | rw [if_pos (Or.inr h79)] | rw [if_neg (fun z => z.elim h73 h79)], rfl⟩⟩
  · refine r_iload_n (i := 0) hX dX8_isName_76 rfl (RR.pc (b := 77) rfl ?_)
    refine r_bipush (v := 121) hX dX8_isName_77 (by decide) (RR.pc (b := 79) rfl ?_)
    refine r_icmp_ne (tgt := 86) hX dX8_isName_79 rfl (fun h79 => ?_) (fun h79 => RR.pc (b := 82) rfl ?_)
    · refine r_iconst (v := 0) hX dX8_isName_86 (by decide) (RR.pc (b := 87) rfl ?_)
      exact r_zret hX hZ dX8_isName_87 (by first | rfl | exact nar_bz _) ⟨_, rfl, ⟨by rw [n2 h1_0 h1_1]; unfold bz; simp only [List.mem_cons, List.not_mem_nil, or_false]; first | rw [if_pos (Or.inl h73)] | rw [if_pos (Or.inr h79)] | rw [if_neg (fun z => z.elim h73 h79)], rfl⟩⟩
    · refine r_iconst (v := 1) hX dX8_isName_82 (by decide) (RR.pc (b := 83) rfl ?_)
      refine r_goto (tgt := 87) hX dX8_isName_83 rfl ?_
      exact r_zret hX hZ dX8_isName_87 (by first | rfl | exact nar_bz _) ⟨_, rfl, ⟨by rw [n2 h1_0 h1_1]; unfold bz; simp only [List.mem_cons, List.not_mem_nil, or_false]; first | rw [if_pos (Or.inl h73)] | rw [if_pos (Or.inr h79)] | rw [if_neg (fun z => z.elim h73 h79)], rfl⟩⟩
set_option maxHeartbeats 4000000 in
set_option maxRecDepth 100000 in
theorem c_X8_isWordAt {G : GM} {σ : SG} {tp : Nat → Int32} {L k b e : Nat} {x0 x1 x2 x3 : Int32} (hT : TPR σ tp L) (hR : RK σ tp k b e) (hk : k ≤ 4) (hbe : b ≤ e) (heL : e ≤ L) : CI G yX8_isWordAt cX8_isWordAt 6 (some .boolean) 0 [rf G 109, .int x0, .int x1, .int x2, .int x3] σ (fun r s => r = bz (k = 2 ∧ e - b = (if x3 = 0 then 3 else 4) ∧ tp b = x0 ∧ tp (b + 1) = x1 ∧ tp (b + 2) = x2 ∧ (x3 = 0 ∨ tp (b + 3) = x3)) ∧ s = σ) := by
  refine Con.of cd_X8_isWordAt (Nat.le_of_ble_eq_true rfl) ?_
  intro X hX hZ
  have hX : Fx X G RX8 cX8_isWordAt 6 0 := hX
  show RR X G 6 0 (ll [(0, rf G 109), (1, .int x0), (2, .int x1), (3, .int x2), (4, .int x3)]) [] σ
  have h96 := hT.1
  obtain ⟨q0, q1, q2, q3, q4⟩ := tkR_le k hk
  have no : ¬ (k = 2 ∧ e - b = (if x3 = 0 then 3 else 4) ∧ tp b = x0 ∧ tp (b + 1) = x1 ∧ tp (b + 2) = x2 ∧ (x3 = 0 ∨ tp (b + 3) = x3)) → RR X G 6 102 (ll []) [] σ := by
    intro h
    refine r_iconst (v := 0) hX dX8_isWordAt_102 (by decide) (RR.pc (b := 103) rfl ?_)
    exact r_zret hX hZ dX8_isWordAt_103 (by first | rfl | exact nar_bz _) ⟨_, rfl, ⟨(bz_f h).symm, rfl⟩⟩
  have go : ∀ z : Nat, z ≤ 4 → z = (if x3 = 0 then 3 else 4) → RR X G 6 10 (ll [(0, rf G 109), (1, .int x0), (2, .int x1), (3, .int x2), (4, .int x3)]) [.int (nI z)] σ := by
    intro z hz ez
    rw [← ez] at no hZ
    refine r_istore hX dX8_isWordAt_10 (by decide) (RR.pc (b := 12) rfl ?_)
    refine r_aload_n hX dX8_isWordAt_12 rfl ⟨_, rfl⟩ (RR.pc (b := 13) rfl ?_)
    refine r_geti hX dX8_isWordAt_13 fl_X8_199 (by first | rfl | assumption) rfl (RR.pc (b := 16) rfl ?_)
    rw [hR.2.2.1]
    refine r_iconst (v := 1) hX dX8_isWordAt_16 (by decide) (RR.pc (b := 17) rfl ?_)
    refine r_icmp_ne (tgt := 102) hX dX8_isWordAt_17 rfl (fun h17 => ?_) (fun h17 => RR.pc (b := 20) rfl ?_)
    · refine RR.cut (no ?_) (fun _ h => absurd h List.not_mem_nil)
      rintro ⟨a1, a2, a3, a4, a5, a6⟩
      first | exact h17 (by rw [q2.mpr a1]; rfl) | exact h31 (by rw [a2]) | exact h44 a3 | exact h59 a4 | exact h74 a5 | exact a6.elim h79 h95
    · have k2 : k = 2 := q2.mp ((nI_eq (b := 1) (by omega) (by omega)).mp h17)
      refine r_aload_n hX dX8_isWordAt_20 rfl ⟨_, rfl⟩ (RR.pc (b := 21) rfl ?_)
      refine r_geti hX dX8_isWordAt_21 fl_X8_196 (by first | rfl | assumption) rfl (RR.pc (b := 24) rfl ?_)
      rw [hR.2.1]
      refine r_aload_n hX dX8_isWordAt_24 rfl ⟨_, rfl⟩ (RR.pc (b := 25) rfl ?_)
      refine r_geti hX dX8_isWordAt_25 fl_X8_202 (by first | rfl | assumption) rfl (RR.pc (b := 28) rfl ?_)
      rw [hR.1]
      refine r_isub hX dX8_isWordAt_28 (RR.pc (b := 29) rfl ?_)
      rw [pk_sub hbe]
      refine r_iload hX dX8_isWordAt_29 rfl (RR.pc (b := 31) rfl ?_)
      refine r_icmp_ne (tgt := 102) hX dX8_isWordAt_31 rfl (fun h31 => ?_) (fun h31 => RR.pc (b := 34) rfl ?_)
      · refine RR.cut (no ?_) (fun _ h => absurd h List.not_mem_nil)
        rintro ⟨a1, a2, a3, a4, a5, a6⟩
        first | exact h17 (by rw [q2.mpr a1]; rfl) | exact h31 (by rw [a2]) | exact h44 a3 | exact h59 a4 | exact h74 a5 | exact a6.elim h79 h95
      · have hez : e - b = z := (nI_eq (by omega) (by omega)).mp h31
        have hz3 : 3 ≤ z := by rw [ez]; split <;> omega
        refine r_aload_n hX dX8_isWordAt_34 rfl ⟨_, rfl⟩ (RR.pc (b := 35) rfl ?_)
        refine r_getr hX dX8_isWordAt_35 fl_X8_46 (by first | rfl | assumption) rfl (RR.pc (b := 38) rfl ?_)
        refine r_aload_n hX dX8_isWordAt_38 rfl ⟨_, rfl⟩ (RR.pc (b := 39) rfl ?_)
        refine r_geti hX dX8_isWordAt_39 fl_X8_202 (by first | rfl | assumption) rfl (RR.pc (b := 42) rfl ?_)
        rw [hR.1]
        refine r_iald hX dX8_isWordAt_42 (by first | rfl | assumption) rfl (by omega) (by first | decide | omega) (by first | exact Nat.zero_add _ | rfl) (RR.pc (b := 43) rfl ?_)
        rw [hT.2.2.1 _ (by omega)]
        refine r_iload_n (i := 0) hX dX8_isWordAt_43 rfl (RR.pc (b := 44) rfl ?_)
        refine r_icmp_ne (tgt := 102) hX dX8_isWordAt_44 rfl (fun h44 => ?_) (fun h44 => RR.pc (b := 47) rfl ?_)
        · refine RR.cut (no ?_) (fun _ h => absurd h List.not_mem_nil)
          rintro ⟨a1, a2, a3, a4, a5, a6⟩
          first | exact h17 (by rw [q2.mpr a1]; rfl) | exact h31 (by rw [a2]) | exact h44 a3 | exact h59 a4 | exact h74 a5 | exact a6.elim h79 h95
        · refine r_aload_n hX dX8_isWordAt_47 rfl ⟨_, rfl⟩ (RR.pc (b := 48) rfl ?_)
          refine r_getr hX dX8_isWordAt_48 fl_X8_46 (by first | rfl | assumption) rfl (RR.pc (b := 51) rfl ?_)
          refine r_aload_n hX dX8_isWordAt_51 rfl ⟨_, rfl⟩ (RR.pc (b := 52) rfl ?_)
          refine r_geti hX dX8_isWordAt_52 fl_X8_202 (by first | rfl | assumption) rfl (RR.pc (b := 55) rfl ?_)
          rw [hR.1]
          refine r_iconst (v := 1) hX dX8_isWordAt_55 (by decide) (RR.pc (b := 56) rfl ?_)
          refine r_iadd hX dX8_isWordAt_56 (RR.pc (b := 57) rfl ?_)
          refine r_iald hX dX8_isWordAt_57 (by first | rfl | assumption) (nI_1 b) (by omega) (by first | decide | omega) (by first | exact Nat.zero_add _ | rfl) (RR.pc (b := 58) rfl ?_)
          rw [hT.2.2.1 _ (by omega)]
          refine r_iload_n (i := 0) hX dX8_isWordAt_58 rfl (RR.pc (b := 59) rfl ?_)
          refine r_icmp_ne (tgt := 102) hX dX8_isWordAt_59 rfl (fun h59 => ?_) (fun h59 => RR.pc (b := 62) rfl ?_)
          · refine RR.cut (no ?_) (fun _ h => absurd h List.not_mem_nil)
            rintro ⟨a1, a2, a3, a4, a5, a6⟩
            first | exact h17 (by rw [q2.mpr a1]; rfl) | exact h31 (by rw [a2]) | exact h44 a3 | exact h59 a4 | exact h74 a5 | exact a6.elim h79 h95
          · refine r_aload_n hX dX8_isWordAt_62 rfl ⟨_, rfl⟩ (RR.pc (b := 63) rfl ?_)
            refine r_getr hX dX8_isWordAt_63 fl_X8_46 (by first | rfl | assumption) rfl (RR.pc (b := 66) rfl ?_)
            refine r_aload_n hX dX8_isWordAt_66 rfl ⟨_, rfl⟩ (RR.pc (b := 67) rfl ?_)
            refine r_geti hX dX8_isWordAt_67 fl_X8_202 (by first | rfl | assumption) rfl (RR.pc (b := 70) rfl ?_)
            rw [hR.1]
            refine r_iconst (v := 2) hX dX8_isWordAt_70 (by decide) (RR.pc (b := 71) rfl ?_)
            refine r_iadd hX dX8_isWordAt_71 (RR.pc (b := 72) rfl ?_)
            refine r_iald hX dX8_isWordAt_72 (by first | rfl | assumption) (j := b + 2) (nI_add b 2) (by omega) (by first | decide | omega) (by first | exact Nat.zero_add _ | rfl) (RR.pc (b := 73) rfl ?_)
            rw [hT.2.2.1 _ (by omega)]
            refine r_iload_n (i := 0) hX dX8_isWordAt_73 rfl (RR.pc (b := 74) rfl ?_)
            refine r_icmp_ne (tgt := 102) hX dX8_isWordAt_74 rfl (fun h74 => ?_) (fun h74 => RR.pc (b := 77) rfl ?_)
            · refine RR.cut (no ?_) (fun _ h => absurd h List.not_mem_nil)
              rintro ⟨a1, a2, a3, a4, a5, a6⟩
              first | exact h17 (by rw [q2.mpr a1]; rfl) | exact h31 (by rw [a2]) | exact h44 a3 | exact h59 a4 | exact h74 a5 | exact a6.elim h79 h95
            · refine r_iload hX dX8_isWordAt_77 rfl (RR.pc (b := 79) rfl ?_)
              refine r_if_eq (tgt := 98) hX dX8_isWordAt_79 rfl (fun h79 => ?_) (fun h79 => RR.pc (b := 82) rfl ?_)
              · have hx3 : x3 = 0 ∨ tp (b + 3) = x3 := by first | (left; exact h79) | (right; exact h95)
                refine r_iconst (v := 1) hX dX8_isWordAt_98 (by decide) (RR.pc (b := 99) rfl ?_)
                refine r_goto (tgt := 103) hX dX8_isWordAt_99 rfl ?_
                exact r_zret hX hZ dX8_isWordAt_103 (by first | rfl | exact nar_bz _) ⟨_, rfl, ⟨(bz_t ⟨k2, hez, h44, h59, h74, hx3⟩).symm, rfl⟩⟩
              · have hz4 : z = 4 := by rw [ez, if_neg h79]
                refine r_aload_n hX dX8_isWordAt_82 rfl ⟨_, rfl⟩ (RR.pc (b := 83) rfl ?_)
                refine r_getr hX dX8_isWordAt_83 fl_X8_46 (by first | rfl | assumption) rfl (RR.pc (b := 86) rfl ?_)
                refine r_aload_n hX dX8_isWordAt_86 rfl ⟨_, rfl⟩ (RR.pc (b := 87) rfl ?_)
                refine r_geti hX dX8_isWordAt_87 fl_X8_202 (by first | rfl | assumption) rfl (RR.pc (b := 90) rfl ?_)
                rw [hR.1]
                refine r_iconst (v := 3) hX dX8_isWordAt_90 (by decide) (RR.pc (b := 91) rfl ?_)
                refine r_iadd hX dX8_isWordAt_91 (RR.pc (b := 92) rfl ?_)
                refine r_iald hX dX8_isWordAt_92 (by first | rfl | assumption) (j := b + 3) (nI_add b 3) (by omega) (by first | decide | omega) (by first | exact Nat.zero_add _ | rfl) (RR.pc (b := 93) rfl ?_)
                rw [hT.2.2.1 _ (by omega)]
                refine r_iload hX dX8_isWordAt_93 rfl (RR.pc (b := 95) rfl ?_)
                refine r_icmp_ne (tgt := 102) hX dX8_isWordAt_95 rfl (fun h95 => ?_) (fun h95 => RR.pc (b := 98) rfl ?_)
                · refine RR.cut (no ?_) (fun _ h => absurd h List.not_mem_nil)
                  rintro ⟨a1, a2, a3, a4, a5, a6⟩
                  first | exact h17 (by rw [q2.mpr a1]; rfl) | exact h31 (by rw [a2]) | exact h44 a3 | exact h59 a4 | exact h74 a5 | exact a6.elim h79 h95
                · have hx3 : x3 = 0 ∨ tp (b + 3) = x3 := by first | (left; exact h79) | (right; exact h95)
                  refine r_iconst (v := 1) hX dX8_isWordAt_98 (by decide) (RR.pc (b := 99) rfl ?_)
                  refine r_goto (tgt := 103) hX dX8_isWordAt_99 rfl ?_
                  exact r_zret hX hZ dX8_isWordAt_103 (by first | rfl | exact nar_bz _) ⟨_, rfl, ⟨(bz_t ⟨k2, hez, h44, h59, h74, hx3⟩).symm, rfl⟩⟩
  refine r_iload hX dX8_isWordAt_0 rfl (RR.pc (b := 2) rfl ?_)
  refine r_if_ne (tgt := 9) hX dX8_isWordAt_2 rfl (fun h2 => ?_) (fun h2 => RR.pc (b := 5) rfl ?_)
  · refine r_iconst (v := 4) hX dX8_isWordAt_9 (by decide) (RR.pc (b := 10) rfl ?_)
    first | exact RR.cut (go 3 (by omega) (by rw [if_pos h2])) (List.forall_mem_cons.mpr ⟨rfl, List.forall_mem_cons.mpr ⟨rfl, List.forall_mem_cons.mpr ⟨rfl, List.forall_mem_cons.mpr ⟨rfl, List.forall_mem_cons.mpr ⟨rfl, fun _ h => absurd h List.not_mem_nil⟩⟩⟩⟩⟩) | exact RR.cut (go 4 (by omega) (by rw [if_neg h2])) (List.forall_mem_cons.mpr ⟨rfl, List.forall_mem_cons.mpr ⟨rfl, List.forall_mem_cons.mpr ⟨rfl, List.forall_mem_cons.mpr ⟨rfl, List.forall_mem_cons.mpr ⟨rfl, fun _ h => absurd h List.not_mem_nil⟩⟩⟩⟩⟩)
  · refine r_iconst (v := 3) hX dX8_isWordAt_5 (by decide) (RR.pc (b := 6) rfl ?_)
    refine r_goto (tgt := 10) hX dX8_isWordAt_6 rfl ?_
    first | exact RR.cut (go 3 (by omega) (by rw [if_pos h2])) (List.forall_mem_cons.mpr ⟨rfl, List.forall_mem_cons.mpr ⟨rfl, List.forall_mem_cons.mpr ⟨rfl, List.forall_mem_cons.mpr ⟨rfl, List.forall_mem_cons.mpr ⟨rfl, fun _ h => absurd h List.not_mem_nil⟩⟩⟩⟩⟩) | exact RR.cut (go 4 (by omega) (by rw [if_neg h2])) (List.forall_mem_cons.mpr ⟨rfl, List.forall_mem_cons.mpr ⟨rfl, List.forall_mem_cons.mpr ⟨rfl, List.forall_mem_cons.mpr ⟨rfl, List.forall_mem_cons.mpr ⟨rfl, fun _ h => absurd h List.not_mem_nil⟩⟩⟩⟩⟩)
theorem wd4 {tp : Nat → Int32} {b : Nat} {l : List Int32} : (∀ j, j < 4 → tp (b + j) = l.getD j 0) ↔ (tp b = l.getD 0 0 ∧ tp (b + 1) = l.getD 1 0 ∧ tp (b + 2) = l.getD 2 0 ∧ tp (b + 3) = l.getD 3 0) := by
  constructor
  · intro h
    exact ⟨h 0 (by decide), h 1 (by decide), h 2 (by decide), h 3 (by decide)⟩
  · rintro ⟨h0, h1, h2, h3⟩ j hj
    rcases (show j = 0 ∨ j = 1 ∨ j = 2 ∨ j = 3 by omega) with rfl | rfl | rfl | rfl
    · exact h0
    · exact h1
    · exact h2
    · exact h3
theorem wd3 {tp : Nat → Int32} {b : Nat} {l : List Int32} : (∀ j, j < 3 → tp (b + j) = l.getD j 0) ↔ (tp b = l.getD 0 0 ∧ tp (b + 1) = l.getD 1 0 ∧ tp (b + 2) = l.getD 2 0) := by
  constructor
  · intro h
    exact ⟨h 0 (by decide), h 1 (by decide), h 2 (by decide)⟩
  · rintro ⟨h0, h1, h2⟩ j hj
    rcases (show j = 0 ∨ j = 1 ∨ j = 2 by omega) with rfl | rfl | rfl
    · exact h0
    · exact h1
    · exact h2
theorem ky0 {tp : Nat → Int32} {st : St} : (st.1 = 2 ∧ wdP tp st 0) ↔ (st.1 = 2 ∧ st.2.2.1 - st.2.1 = (if (107 : Int32) = 0 then 3 else 4) ∧ tp st.2.1 = 108 ∧ tp (st.2.1 + 1) = 101 ∧ tp (st.2.1 + 2) = 97 ∧ ((107 : Int32) = 0 ∨ tp (st.2.1 + 3) = 107)) := by
  have e : wdP tp st 0 ↔ (st.2.2.1 - st.2.1 = 4 ∧ ∀ j, j < 4 → tp (st.2.1 + j) = ([108, 101, 97, 107] : List Int32).getD j 0) := Iff.rfl
  rw [e, wd4, if_neg (show ¬ (107 : Int32) = 0 by decide)]
  exact ⟨fun ⟨a, b, c, d, f, g⟩ => ⟨a, b, c, d, f, Or.inr g⟩, fun ⟨a, b, c, d, f, g⟩ => ⟨a, b, c, d, f, g.elim (fun z => absurd z (by decide)) id⟩⟩
theorem ky1 {tp : Nat → Int32} {st : St} : (st.1 = 2 ∧ wdP tp st 1) ↔ (st.1 = 2 ∧ st.2.2.1 - st.2.1 = (if (0 : Int32) = 0 then 3 else 4) ∧ tp st.2.1 = 102 ∧ tp (st.2.1 + 1) = 101 ∧ tp (st.2.1 + 2) = 101 ∧ ((0 : Int32) = 0 ∨ tp (st.2.1 + 3) = 0)) := by
  have e : wdP tp st 1 ↔ (st.2.2.1 - st.2.1 = 3 ∧ ∀ j, j < 3 → tp (st.2.1 + j) = ([102, 101, 101] : List Int32).getD j 0) := Iff.rfl
  rw [e, wd3, if_pos rfl]
  exact ⟨fun ⟨a, b, c, d, f⟩ => ⟨a, b, c, d, f, Or.inl rfl⟩, fun ⟨a, b, c, d, f, _⟩ => ⟨a, b, c, d, f⟩⟩
theorem ky2 {tp : Nat → Int32} {st : St} : (st.1 = 2 ∧ wdP tp st 2) ↔ (st.1 = 2 ∧ st.2.2.1 - st.2.1 = (if (101 : Int32) = 0 then 3 else 4) ∧ tp st.2.1 = 102 ∧ tp (st.2.1 + 1) = 105 ∧ tp (st.2.1 + 2) = 110 ∧ ((101 : Int32) = 0 ∨ tp (st.2.1 + 3) = 101)) := by
  have e : wdP tp st 2 ↔ (st.2.2.1 - st.2.1 = 4 ∧ ∀ j, j < 4 → tp (st.2.1 + j) = ([102, 105, 110, 101] : List Int32).getD j 0) := Iff.rfl
  rw [e, wd4, if_neg (show ¬ (101 : Int32) = 0 by decide)]
  exact ⟨fun ⟨a, b, c, d, f, g⟩ => ⟨a, b, c, d, f, Or.inr g⟩, fun ⟨a, b, c, d, f, g⟩ => ⟨a, b, c, d, f, g.elim (fun z => absurd z (by decide)) id⟩⟩
def kyI (o : Option Nat) : Int32 := match o with
  | none => -1
  | some k => nI k
set_option maxHeartbeats 4000000 in
set_option maxRecDepth 100000 in
theorem c_X8_key {G : GM} {σ : SG} {tp : Nat → Int32} {L : Nat} {st : St} (hT : TPR σ tp L) (hR : RK σ tp st.1 st.2.1 st.2.2.1) (hV : VS tp L st) : CI G yX8_key cX8_key 1 (some .int) 1 [rf G 109] σ (fun r s => r = kyI (kyF tp st) ∧ s = σ) := by
  refine Con.of cd_X8_key (Nat.le_of_ble_eq_true rfl) ?_
  intro X hX hZ
  have hX : Fx X G RX8 cX8_key 1 1 := hX
  show RR X G 1 0 (ll [(0, rf G 109)]) [] σ
  have c := fun (x0 x1 x2 x3 : Int32) => c_X8_isWordAt (G := G) (x0 := x0) (x1 := x1) (x2 := x2) (x3 := x3) hT hR hV.2.2.1 hV.2.2.2.1 hV.2.1
  refine r_aload_n hX dX8_key_0 rfl ⟨_, rfl⟩ (RR.pc (b := 1) rfl ?_)
  refine r_bipush (v := 108) hX dX8_key_1 (by decide) (RR.pc (b := 3) rfl ?_)
  refine r_bipush (v := 101) hX dX8_key_3 (by decide) (RR.pc (b := 5) rfl ?_)
  refine r_bipush (v := 97) hX dX8_key_5 (by decide) (RR.pc (b := 7) rfl ?_)
  refine r_bipush (v := 107) hX dX8_key_7 (by decide) (RR.pc (b := 9) rfl ?_)
  refine r_callVie hX dX8_key_9 ml_X8_217 cd_X8_isWordAt iv_X8_isWordAt (c 108 101 97 107) (by decide) (by first | rfl | assumption) rfl rfl rfl rfl (Nat.le_of_ble_eq_true rfl) (RR.pc (b := 12) rfl ?_)
  refine r_if_eq_b (tgt := 17) hX dX8_key_12 rfl (fun h12 => ?_) (fun h12 => RR.pc (b := 15) rfl ?_)
  · refine r_aload_n hX dX8_key_17 rfl ⟨_, rfl⟩ (RR.pc (b := 18) rfl ?_)
    refine r_bipush (v := 102) hX dX8_key_18 (by decide) (RR.pc (b := 20) rfl ?_)
    refine r_bipush (v := 101) hX dX8_key_20 (by decide) (RR.pc (b := 22) rfl ?_)
    refine r_bipush (v := 101) hX dX8_key_22 (by decide) (RR.pc (b := 24) rfl ?_)
    refine r_iconst (v := 0) hX dX8_key_24 (by decide) (RR.pc (b := 25) rfl ?_)
    refine r_callVie hX dX8_key_25 ml_X8_217 cd_X8_isWordAt iv_X8_isWordAt (c 102 101 101 0) (by decide) (by first | rfl | assumption) rfl rfl rfl rfl (Nat.le_of_ble_eq_true rfl) (RR.pc (b := 28) rfl ?_)
    refine r_if_eq_b (tgt := 33) hX dX8_key_28 rfl (fun h28 => ?_) (fun h28 => RR.pc (b := 31) rfl ?_)
    · refine r_aload_n hX dX8_key_33 rfl ⟨_, rfl⟩ (RR.pc (b := 34) rfl ?_)
      refine r_bipush (v := 102) hX dX8_key_34 (by decide) (RR.pc (b := 36) rfl ?_)
      refine r_bipush (v := 105) hX dX8_key_36 (by decide) (RR.pc (b := 38) rfl ?_)
      refine r_bipush (v := 110) hX dX8_key_38 (by decide) (RR.pc (b := 40) rfl ?_)
      refine r_bipush (v := 101) hX dX8_key_40 (by decide) (RR.pc (b := 42) rfl ?_)
      refine r_callVie hX dX8_key_42 ml_X8_217 cd_X8_isWordAt iv_X8_isWordAt (c 102 105 110 101) (by decide) (by first | rfl | assumption) rfl rfl rfl rfl (Nat.le_of_ble_eq_true rfl) (RR.pc (b := 45) rfl ?_)
      refine r_if_eq_b (tgt := 52) hX dX8_key_45 rfl (fun h45 => ?_) (fun h45 => RR.pc (b := 48) rfl ?_)
      · refine r_iconst (v := -1) hX dX8_key_52 (by decide) (RR.pc (b := 53) rfl ?_)
        exact r_iret hX hZ dX8_key_53 ⟨_, rfl, ⟨by unfold kyF; first | (rw [if_pos (ky0.mpr h12)]; rfl) | (rw [if_neg (fun z => h12 (ky0.mp z)), if_pos (ky1.mpr h28)]; rfl) | (rw [if_neg (fun z => h12 (ky0.mp z)), if_neg (fun z => h28 (ky1.mp z)), if_pos (ky2.mpr h45)]; rfl) | (rw [if_neg (fun z => h12 (ky0.mp z)), if_neg (fun z => h28 (ky1.mp z)), if_neg (fun z => h45 (ky2.mp z))]; rfl), rfl⟩⟩
      · refine r_iconst (v := 2) hX dX8_key_48 (by decide) (RR.pc (b := 49) rfl ?_)
        refine r_goto (tgt := 53) hX dX8_key_49 rfl ?_
        exact r_iret hX hZ dX8_key_53 ⟨_, rfl, ⟨by unfold kyF; first | (rw [if_pos (ky0.mpr h12)]; rfl) | (rw [if_neg (fun z => h12 (ky0.mp z)), if_pos (ky1.mpr h28)]; rfl) | (rw [if_neg (fun z => h12 (ky0.mp z)), if_neg (fun z => h28 (ky1.mp z)), if_pos (ky2.mpr h45)]; rfl) | (rw [if_neg (fun z => h12 (ky0.mp z)), if_neg (fun z => h28 (ky1.mp z)), if_neg (fun z => h45 (ky2.mp z))]; rfl), rfl⟩⟩
    · refine r_iconst (v := 1) hX dX8_key_31 (by decide) (RR.pc (b := 32) rfl ?_)
      exact r_iret hX hZ dX8_key_32 ⟨_, rfl, ⟨by unfold kyF; first | (rw [if_pos (ky0.mpr h12)]; rfl) | (rw [if_neg (fun z => h12 (ky0.mp z)), if_pos (ky1.mpr h28)]; rfl) | (rw [if_neg (fun z => h12 (ky0.mp z)), if_neg (fun z => h28 (ky1.mp z)), if_pos (ky2.mpr h45)]; rfl) | (rw [if_neg (fun z => h12 (ky0.mp z)), if_neg (fun z => h28 (ky1.mp z)), if_neg (fun z => h45 (ky2.mp z))]; rfl), rfl⟩⟩
  · refine r_iconst (v := 0) hX dX8_key_15 (by decide) (RR.pc (b := 16) rfl ?_)
    exact r_iret hX hZ dX8_key_16 ⟨_, rfl, ⟨by unfold kyF; first | (rw [if_pos (ky0.mpr h12)]; rfl) | (rw [if_neg (fun z => h12 (ky0.mp z)), if_pos (ky1.mpr h28)]; rfl) | (rw [if_neg (fun z => h12 (ky0.mp z)), if_neg (fun z => h28 (ky1.mp z)), if_pos (ky2.mpr h45)]; rfl) | (rw [if_neg (fun z => h12 (ky0.mp z)), if_neg (fun z => h28 (ky1.mp z)), if_neg (fun z => h45 (ky2.mp z))]; rfl), rfl⟩⟩
set_option maxHeartbeats 4000000 in
set_option maxRecDepth 100000 in
theorem c_X8_step {G : GM} {σ : SG} {a m : Nat} {w v : Int32} (ha : σ 38 10 = nI a) (hm : σ 38 9 = nI m) (hn : a + 2 * m + 1 < 3171) : CU G yX8_step cX8_step 3 none 0 [rf G 109, .int w, .int v] σ (fun s => s = su (sr σ 20 (upd (upd (σ 20) (a + 2 * m) w) (a + 2 * m + 1) v)) 38 9 (nI (m + 1))) := by
  refine Con.of cd_X8_step (Nat.le_of_ble_eq_true rfl) ?_
  intro X hX hZ
  have hX : Fx X G RX8 cX8_step 3 0 := hX
  show RR X G 3 0 (ll [(0, rf G 109), (1, .int w), (2, .int v)]) [] σ
  refine r_aload_n hX dX8_step_0 rfl ⟨_, rfl⟩ (RR.pc (b := 1) rfl ?_)
  refine r_getr hX dX8_step_1 fl_X8_7 (by first | rfl | assumption) rfl (RR.pc (b := 4) rfl ?_)
  refine r_aload_n hX dX8_step_4 rfl ⟨_, rfl⟩ (RR.pc (b := 5) rfl ?_)
  refine r_geti hX dX8_step_5 fl_X8_221 (by first | rfl | assumption) rfl (RR.pc (b := 8) rfl ?_)
  rw [ha]
  refine r_iconst (v := 2) hX dX8_step_8 (by decide) (RR.pc (b := 9) rfl ?_)
  refine r_aload_n hX dX8_step_9 rfl ⟨_, rfl⟩ (RR.pc (b := 10) rfl ?_)
  refine r_geti hX dX8_step_10 fl_X8_224 (by first | rfl | assumption) rfl (RR.pc (b := 13) rfl ?_)
  rw [hm]
  refine r_imul hX dX8_step_13 (RR.pc (b := 14) rfl ?_)
  refine r_iadd hX dX8_step_14 (RR.pc (b := 15) rfl ?_)
  refine r_iload_n (i := 0) hX dX8_step_15 rfl (RR.pc (b := 16) rfl ?_)
  refine r_iast hX dX8_step_16 (by first | rfl | assumption) (j := a + 2 * m) (by show nI a + nI 2 * nI m = _; rw [pk_mul, nI_add]) (by omega) (by first | decide | omega) (by first | exact Nat.zero_add _ | rfl) (RR.pc (b := 17) rfl ?_)
  refine r_aload_n hX dX8_step_17 rfl ⟨_, rfl⟩ (RR.pc (b := 18) rfl ?_)
  refine r_getr hX dX8_step_18 fl_X8_7 (by first | rfl | assumption) rfl (RR.pc (b := 21) rfl ?_)
  refine r_aload_n hX dX8_step_21 rfl ⟨_, rfl⟩ (RR.pc (b := 22) rfl ?_)
  refine r_geti hX dX8_step_22 fl_X8_221 (by first | rfl | assumption) rfl (RR.pc (b := 25) rfl ?_)
  rw [su_ne (by decide), ha]
  refine r_iconst (v := 2) hX dX8_step_25 (by decide) (RR.pc (b := 26) rfl ?_)
  refine r_aload_n hX dX8_step_26 rfl ⟨_, rfl⟩ (RR.pc (b := 27) rfl ?_)
  refine r_geti hX dX8_step_27 fl_X8_224 (by first | rfl | assumption) rfl (RR.pc (b := 30) rfl ?_)
  rw [su_ne (by decide), hm]
  refine r_imul hX dX8_step_30 (RR.pc (b := 31) rfl ?_)
  refine r_iadd hX dX8_step_31 (RR.pc (b := 32) rfl ?_)
  refine r_iconst (v := 1) hX dX8_step_32 (by decide) (RR.pc (b := 33) rfl ?_)
  refine r_iadd hX dX8_step_33 (RR.pc (b := 34) rfl ?_)
  refine r_iload_n (i := 0) hX dX8_step_34 rfl (RR.pc (b := 35) rfl ?_)
  refine r_iast hX dX8_step_35 (by first | rfl | assumption) (j := a + 2 * m + 1) (by show nI a + nI 2 * nI m + nI 1 = _; rw [pk_mul, nI_add, nI_add]) (by omega) (by first | decide | omega) (by first | exact Nat.zero_add _ | rfl) (RR.pc (b := 36) rfl ?_)
  refine r_aload_n hX dX8_step_36 rfl ⟨_, rfl⟩ (RR.pc (b := 37) rfl ?_)
  refine r_dup hX dX8_step_37 rfl (RR.pc (b := 38) rfl ?_)
  refine r_geti hX dX8_step_38 fl_X8_224 (by first | rfl | assumption) rfl (RR.pc (b := 41) rfl ?_)
  rw [su_ne (by decide), su_ne (by decide), hm]
  refine r_iconst (v := 1) hX dX8_step_41 (by decide) (RR.pc (b := 42) rfl ?_)
  refine r_iadd hX dX8_step_42 (RR.pc (b := 43) rfl ?_)
  rw [nI_1]
  refine r_puti hX dX8_step_43 fl_X8_224 (by first | rfl | assumption) rfl ft_8_22 (RR.pc (b := 46) rfl ?_)
  exact r_vret hX hZ dX8_step_46 ⟨rfl, by simp only [su, sr_eq, sr_sr]⟩
/-- the reference's store holds a state of the reading -/
def PSR (tp : Nat → Int32) (L a o n : Nat) (σ : SG) (st : St) : Prop := TPR σ tp L ∧ RK σ tp st.1 st.2.1 st.2.2.1 ∧ σ 38 7 = nI o ∧ σ 38 8 = nI n ∧ σ 38 9 = nI st.2.2.2.2.length ∧ σ 38 10 = nI a ∧ σ 38 11 = nI st.2.2.2.1 ∧ ∀ j, j < st.2.2.2.2.length → σ 20 (a + 2 * j) = (st.2.2.2.2.getD j (0, 0)).1 ∧ σ 20 (a + 2 * j + 1) = (st.2.2.2.2.getD j (0, 0)).2
def PFR (a : Nat) (σ s : SG) : Prop := same [20, 38] σ s ∧ (∀ i, i < a → s 20 i = σ 20 i) ∧ s 38 0 = σ 38 0 ∧ s 38 1 = σ 38 1 ∧ s 38 12 = σ 38 12
theorem PFR.rf {a : Nat} {σ : SG} : PFR a σ σ := ⟨same.rf, fun _ _ => rfl, rfl, rfl, rfl⟩
theorem PFR.tr {a : Nat} {x y z : SG} (h : PFR a x y) (g : PFR a y z) : PFR a x z := ⟨h.1.tr g.1, fun i hi => (g.2.1 i hi).trans (h.2.1 i hi), g.2.2.1.trans h.2.2.1, g.2.2.2.1.trans h.2.2.2.1, g.2.2.2.2.trans h.2.2.2.2⟩
theorem PFR.s38 {a o : Nat} {σ : SG} {v : Int32} (h0 : o ≠ 0) (h1 : o ≠ 1) (h2 : o ≠ 12) : PFR a σ (su σ 38 o v) := ⟨same.rf.su (by simp), fun i _ => by rw [su_ne (by decide)], by rw [su_eq, pk_un (Ne.symm h0)], by rw [su_eq, pk_un (Ne.symm h1)], by rw [su_eq, pk_un (Ne.symm h2)]⟩
theorem RK.s {σ s : SG} {tp : Nat → Int32} {k b e : Nat} (h : RK σ tp k b e) (q : ∀ i, 2 ≤ i → i < 7 → s 38 i = σ 38 i) : RK s tp k b e := by
  obtain ⟨h1, h2, h3, h4, h5, h6⟩ := h
  exact ⟨by rw [q 2 (by omega) (by omega)]; exact h1, by rw [q 3 (by omega) (by omega)]; exact h2, by rw [q 4 (by omega) (by omega)]; exact h3, by rw [q 6 (by omega) (by omega)]; exact h4, by rw [q 6 (by omega) (by omega)]; exact h5, by rw [q 5 (by omega) (by omega)]; exact h6⟩
/-- deeper, turned -/
theorem PSR.on {tp : Nat → Int32} {L a o n p v : Nat} {σ : SG} {st : St} (h : PSR tp L a o n σ st) (hp : p = 7 ∨ p = 8) : PSR tp L a (if p = 7 then v else o) (if p = 8 then v else n) (su σ 38 p (nI v)) st := by
  obtain ⟨h1, h2, h3, h4, h5, h6, h7, h8⟩ := h
  refine ⟨⟨h1.1, by rw [su_eq, pk_un (by omega)]; exact h1.2.1, by rw [su_ne (by decide)]; exact h1.2.2.1, h1.2.2.2⟩, h2.s (fun i g1 g2 => by rw [su_eq, pk_un (by omega)]), ?_, ?_, by rw [su_eq, pk_un (by omega)]; exact h5, by rw [su_eq, pk_un (by omega)]; exact h6, by rw [su_eq, pk_un (by omega)]; exact h7, fun j hj => by rw [su_ne (by decide)]; exact h8 j hj⟩
  · rcases hp with rfl | rfl
    · rw [su_eq, pk_us, if_pos rfl]
    · rw [su_eq, pk_un (by decide), if_neg (by decide)]; exact h3
  · rcases hp with rfl | rfl
    · rw [su_eq, pk_un (by decide), if_neg (by decide)]; exact h4
    · rw [su_eq, pk_us, if_pos rfl]
theorem PSR.leaf {tp : Nat → Int32} {L a o n k b e l : Nat} {ls : List (Int32 × Int32)} {σ : SG} (h : PSR tp L a o n σ (k, b, e, l, ls)) : PSR tp L a o n (su σ 38 11 (nI (l + 1))) (k, b, e, l + 1, ls) := by
  obtain ⟨h1, h2, h3, h4, h5, h6, h7, h8⟩ := h
  exact ⟨⟨h1.1, by rw [su_eq, pk_un (by omega)]; exact h1.2.1, by rw [su_ne (by decide)]; exact h1.2.2.1, h1.2.2.2⟩, h2.s (fun i g1 g2 => by rw [su_eq, pk_un (by omega)]), by rw [su_eq, pk_un (by omega)]; exact h3, by rw [su_eq, pk_un (by omega)]; exact h4, by rw [su_eq, pk_un (by omega)]; exact h5, by rw [su_eq, pk_un (by omega)]; exact h6, by rw [su_eq, pk_us], fun j hj => by rw [su_ne (by decide)]; exact h8 j hj⟩
theorem c_stp {G : GM} {tp : Nat → Int32} {L a o n : Nat} {σ : SG} {st : St} {w v : Int32} (h : PSR tp L a o n σ st) (hl : st.2.2.2.2.length < 96) (ha : a ≤ 2971) : CU G yX8_step cX8_step 3 none 0 [rf G 109, .int w, .int v] σ (fun s => PSR tp L a o n s (st.1, st.2.1, st.2.2.1, st.2.2.2.1, st.2.2.2.2 ++ [(w, v)]) ∧ PFR a σ s) := by
  obtain ⟨h1, h2, h3, h4, h5, h6, h7, h8⟩ := h
  refine Con.mono (c_X8_step h6 h5 (by omega)) ?_
  rintro z s ⟨e, rfl⟩
  refine ⟨e, ⟨⟨h1.1, by rw [su_eq, pk_un (by omega), sr_ne (by decide)]; exact h1.2.1, by rw [su_ne (by decide), sr_ne (by decide)]; exact h1.2.2.1, h1.2.2.2⟩, h2.s (fun i g1 g2 => by rw [su_eq, pk_un (by omega), sr_ne (by decide)]), by rw [su_eq, pk_un (by omega), sr_ne (by decide)]; exact h3, by rw [su_eq, pk_un (by omega), sr_ne (by decide)]; exact h4, by rw [su_eq, pk_us, List.length_append]; rfl, by rw [su_eq, pk_un (by omega), sr_ne (by decide)]; exact h6, by rw [su_eq, pk_un (by omega), sr_ne (by decide)]; exact h7, fun j hj => ?_⟩, (same.rf.sr (by simp)).su (by simp), fun i hi => by rw [su_ne (by decide), sr_eq, pk_un (by omega), pk_un (by omega)], by rw [su_eq, pk_un (by omega), sr_ne (by decide)], by rw [su_eq, pk_un (by omega), sr_ne (by decide)], by rw [su_eq, pk_un (by omega), sr_ne (by decide)]⟩
  have hj' : j < st.2.2.2.2.length + 1 := by rw [List.length_append] at hj; exact hj
  rw [su_ne (by decide), sr_eq]
  show _ = ((st.2.2.2.2 ++ [(w, v)]).getD j (0, 0)).1 ∧ _ = ((st.2.2.2.2 ++ [(w, v)]).getD j (0, 0)).2
  rw [List.getD_eq_getElem?_getD]
  by_cases e : j = st.2.2.2.2.length
  · subst e
    rw [List.getElem?_append_right (Nat.le_refl _), Nat.sub_self]
    exact ⟨by rw [pk_un (by omega), pk_us]; rfl, by rw [pk_us]; rfl⟩
  · rw [List.getElem?_append_left (by omega), ← List.getD_eq_getElem?_getD, pk_un (by omega), pk_un (by omega), pk_un (by omega), pk_un (by omega)]
    exact h8 j (by omega)
theorem c_nxt {G : GM} {tp : Nat → Int32} {L a o n : Nat} {σ : SG} {st : St} (h : PSR tp L a o n σ st) (hV : VS tp L st) : CU G yX8_nextToken cX8_nextToken 3 none 2 [rf G 109] σ (fun s => PSR tp L a o n s (nx tp L st) ∧ PFR a σ s) := by
  obtain ⟨h1, h2, h3, h4, h5, h6, h7, h8⟩ := h
  refine Con.mono (c_X8_nextToken h1 h2.2.1 h2.2.2.1 hV.2.1 hV.2.2.1 (fun z => by have := hV.2.2.2.2.1 (by omega); omega)) ?_
  rintro v s ⟨e, hR, hs⟩
  refine ⟨e, ⟨h1.fr hs, hR, by rw [hs.2 7 (by omega)]; exact h3, by rw [hs.2 8 (by omega)]; exact h4, by rw [hs.2 9 (by omega)]; exact h5, by rw [hs.2 10 (by omega)]; exact h6, by rw [hs.2 11 (by omega)]; exact h7, fun j hj => by rw [hs.1 20 (by decide)]; exact h8 j hj⟩, hs.1.mono (by simp), fun i _ => by rw [hs.1 20 (by decide)], hs.2 0 (by omega), hs.2 1 (by omega), hs.2 12 (by omega)⟩
def PQR (tp : Nat → Int32) (L a o n : Nat) (σ : SG) (R : Bool × St) (r : Int32) (s : SG) : Prop := r = bz (R.1 = true) ∧ s 38 2 = nI R.2.2.1 ∧ PFR a σ s ∧ (R.1 = true → PSR tp L a o n s R.2)
