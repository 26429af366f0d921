/-! the class: words of the tape, steps of the draft -/
section RRO
variable {X : CX} {G : GM} {own : String} {cc : ByteArray} {nL d pc : Nat} {lv : LVs} {st : List Value} {σ : SG}
theorem r_callSre {a : Value} {b : SG} {y : MethodName} {cy : ByteArray} {maxL n d' idx : Nat} {ret : Option FieldType} {As st0 : List Value} (hX : Fx X G own cc nL d) (hd : decode cc pc = .ok (.invokestatic idx, 3)) (hm : ML own idx y) (hy : CD y cy maxL ret n) (hv : CS y)
    (hc : Con G y cy maxL ret d' As σ (fun v s => v = some a ∧ s = b)) (hdd : d' + 1 ≤ d) (hn : As.length = n) (hst : st0 = As.reverse ++ st) (hcat : (st.map fun v => v.category).sum ≤ 8)
    (kk : RR X G nL (pc + 3) lv (a :: st) b) : RR X G nL pc lv st0 σ := by
  refine r_callS hX hd hm hy hv hc hdd hn hst hcat ?_
  rintro v s ⟨rfl, rfl⟩
  exact kk
end RRO
set_option maxHeartbeats 4000000 in
set_option maxRecDepth 100000 in
theorem c_X5_wordOf {G : GM} {σ : SG} {k : Int32} : Con G yX5_wordOf cX5_wordOf 1 (some (.object "java/lang/String")) 0 [.int k] σ (fun v s => v = some (sf G (if k = 0 then 0 else if k = 1 then 1 else 2)) ∧ s = σ) := by
  refine Con.of cd_X5_wordOf (Nat.le_of_ble_eq_true rfl) ?_
  intro X hX hZ
  have hX : Fx X G RX5 cX5_wordOf 1 0 := hX
  show RR X G 1 0 (ll [(0, .int k)]) [] σ
  refine r_iload_n (i := 0) hX dX5_wordOf_0 rfl (RR.pc (b := 1) rfl ?_)
  by_cases h1_0 : k = 0
  · refine r_lookup (off := 27) (tgt := 28) hX dX5_wordOf_1 (by decide) (by rw [h1_0]; try rfl) rfl ?_
    refine r_ldcS (i := 0) hX dX5_wordOf_28 (by decide) rfl (RR.pc (b := 30) rfl ?_)
    exact r_aret hX hZ dX5_wordOf_30 ⟨_, rfl⟩ (⟨by rw [if_pos h1_0], rfl⟩)
  by_cases h1_1 : k = 1
  · refine r_lookup (off := 30) (tgt := 31) hX dX5_wordOf_1 (by decide) (by rw [h1_1]; try rfl) rfl ?_
    refine r_ldcS (i := 1) hX dX5_wordOf_31 (by decide) rfl (RR.pc (b := 33) rfl ?_)
    exact r_aret hX hZ dX5_wordOf_33 ⟨_, rfl⟩ (⟨by rw [if_neg h1_0, if_pos h1_1], rfl⟩)
  refine r_lookup (off := 33) (tgt := 34) hX dX5_wordOf_1 (by decide) (by have n0 : (k).toInt ≠ 0 := ne_toInt h1_0; have n1 : (k).toInt ≠ 1 := ne_toInt h1_1; simp [Op.lookupswitch.offset, List.find?, n0, Ne.symm n0, n1, Ne.symm n1]) rfl ?_
  refine r_ldcS (i := 2) hX dX5_wordOf_34 (by decide) rfl (RR.pc (b := 36) rfl ?_)
  exact r_aret hX hZ dX5_wordOf_36 ⟨_, rfl⟩ (⟨by rw [if_neg h1_0, if_neg h1_1], rfl⟩)
set_option maxHeartbeats 4000000 in
set_option maxRecDepth 100000 in
theorem c_X5_namesOf {G : GM} {σ : SG} {k : Int32} : Con G yX5_namesOf cX5_namesOf 1 (some (.object "java/lang/String")) 0 [.int k] σ (fun v s => v = some (sf G (if k = 0 then 3 else if k = 1 then 4 else 5)) ∧ s = σ) := by
  refine Con.of cd_X5_namesOf (Nat.le_of_ble_eq_true rfl) ?_
  intro X hX hZ
  have hX : Fx X G RX5 cX5_namesOf 1 0 := hX
  show RR X G 1 0 (ll [(0, .int k)]) [] σ
  refine r_iload_n (i := 0) hX dX5_namesOf_0 rfl (RR.pc (b := 1) rfl ?_)
  by_cases h1_0 : k = 0
  · refine r_lookup (off := 27) (tgt := 28) hX dX5_namesOf_1 (by decide) (by rw [h1_0]; try rfl) rfl ?_
    refine r_ldcS (i := 3) hX dX5_namesOf_28 (by decide) rfl (RR.pc (b := 30) rfl ?_)
    exact r_aret hX hZ dX5_namesOf_30 ⟨_, rfl⟩ (⟨by rw [if_pos h1_0], rfl⟩)
  by_cases h1_1 : k = 1
  · refine r_lookup (off := 30) (tgt := 31) hX dX5_namesOf_1 (by decide) (by rw [h1_1]; try rfl) rfl ?_
    refine r_ldcS (i := 4) hX dX5_namesOf_31 (by decide) rfl (RR.pc (b := 33) rfl ?_)
    exact r_aret hX hZ dX5_namesOf_33 ⟨_, rfl⟩ (⟨by rw [if_neg h1_0, if_pos h1_1], rfl⟩)
  refine r_lookup (off := 33) (tgt := 34) hX dX5_namesOf_1 (by decide) (by have n0 : (k).toInt ≠ 0 := ne_toInt h1_0; have n1 : (k).toInt ≠ 1 := ne_toInt h1_1; simp [Op.lookupswitch.offset, List.find?, n0, Ne.symm n0, n1, Ne.symm n1]) rfl ?_
  refine r_ldcS (i := 5) hX dX5_namesOf_34 (by decide) rfl (RR.pc (b := 36) rfl ?_)
  exact r_aret hX hZ dX5_namesOf_36 ⟨_, rfl⟩ (⟨by rw [if_neg h1_0, if_neg h1_1], rfl⟩)
set_option maxHeartbeats 4000000 in
set_option maxRecDepth 100000 in
theorem c_X5_signsOf {G : GM} {σ : SG} {k : Int32} : Con G yX5_signsOf cX5_signsOf 1 (some (.object "java/lang/String")) 0 [.int k] σ (fun v s => v = some (sf G (if k = 0 then 6 else if k = 1 then 7 else if k = 2 then 8 else if k = 3 then 9 else 10)) ∧ s = σ) := by
  refine Con.of cd_X5_signsOf (Nat.le_of_ble_eq_true rfl) ?_
  intro X hX hZ
  have hX : Fx X G RX5 cX5_signsOf 1 0 := hX
  show RR X G 1 0 (ll [(0, .int k)]) [] σ
  refine r_iload_n (i := 0) hX dX5_signsOf_0 rfl (RR.pc (b := 1) rfl ?_)
  by_cases h1_0 : k = 0
  · refine r_tableIn (tgt := 32) hX dX5_signsOf_1 (by rw [h1_0]; decide) (by rw [h1_0]; decide) (by rw [h1_0]; rfl) rfl ?_
    refine r_ldcS (i := 6) hX dX5_signsOf_32 (by decide) rfl (RR.pc (b := 34) rfl ?_)
    exact r_aret hX hZ dX5_signsOf_34 ⟨_, rfl⟩ (⟨by rw [if_pos h1_0], rfl⟩)
  by_cases h1_1 : k = 1
  · refine r_tableIn (tgt := 35) hX dX5_signsOf_1 (by rw [h1_1]; decide) (by rw [h1_1]; decide) (by rw [h1_1]; rfl) rfl ?_
    refine r_ldcS (i := 7) hX dX5_signsOf_35 (by decide) rfl (RR.pc (b := 37) rfl ?_)
    exact r_aret hX hZ dX5_signsOf_37 ⟨_, rfl⟩ (⟨by rw [if_neg h1_0, if_pos h1_1], rfl⟩)
  by_cases h1_2 : k = 2
  · refine r_tableIn (tgt := 38) hX dX5_signsOf_1 (by rw [h1_2]; decide) (by rw [h1_2]; decide) (by rw [h1_2]; rfl) rfl ?_
    refine r_ldcS (i := 8) hX dX5_signsOf_38 (by decide) rfl (RR.pc (b := 40) rfl ?_)
    exact r_aret hX hZ dX5_signsOf_40 ⟨_, rfl⟩ (⟨by rw [if_neg h1_0, if_neg h1_1, if_pos h1_2], rfl⟩)
  by_cases h1_3 : k = 3
  · refine r_tableIn (tgt := 41) hX dX5_signsOf_1 (by rw [h1_3]; decide) (by rw [h1_3]; decide) (by rw [h1_3]; rfl) rfl ?_
    refine r_ldcS (i := 9) hX dX5_signsOf_41 (by decide) rfl (RR.pc (b := 43) rfl ?_)
    exact r_aret hX hZ dX5_signsOf_43 ⟨_, rfl⟩ (⟨by rw [if_neg h1_0, if_neg h1_1, if_neg h1_2, if_pos h1_3], rfl⟩)
  refine r_tableOut (tgt := 44) hX dX5_signsOf_1 (by have n0 : (k).toInt ≠ 0 := ne_toInt h1_0; have n1 : (k).toInt ≠ 1 := ne_toInt h1_1; have n2 : (k).toInt ≠ 2 := ne_toInt h1_2; have n3 : (k).toInt ≠ 3 := ne_toInt h1_3; omega) rfl ?_
  refine r_ldcS (i := 10) hX dX5_signsOf_44 (by decide) rfl (RR.pc (b := 46) rfl ?_)
  exact r_aret hX hZ dX5_signsOf_46 ⟨_, rfl⟩ (⟨by rw [if_neg h1_0, if_neg h1_1, if_neg h1_2, if_neg h1_3], rfl⟩)
theorem ixF_nn {c : Int32} : ∀ {l : List Int32} {k : Nat}, k + l.length < 2 ^ 31 → (ixF c l k < 0 ↔ c ∉ l) := by
  intro l
  induction l with
  | nil => intro k _; exact ⟨fun _ => List.not_mem_nil, fun _ => (by decide : (-1 : Int32) < 0)⟩
  | cons b l ih =>
    intro k hk
    rw [List.length_cons] at hk
    unfold ixF
    by_cases e : b = c
    · rw [if_pos e]
      exact ⟨fun z => absurd z (nI_pos (by omega)), fun z => absurd (by rw [e]; exact List.mem_cons_self) z⟩
    · rw [if_neg e, ih (by omega)]
      exact ⟨fun z y => (List.mem_cons.mp y).elim (fun q => e q.symm) z, fun z y => z (List.mem_cons_of_mem _ y)⟩
theorem i2c_b : ∀ x, x < 256 → ((nI x).toUInt32 % 65536).toInt32 = nI x := by decide +kernel
set_option maxHeartbeats 4000000 in
set_option maxRecDepth 100000 in
theorem c_X5_isOneOf {G : GM} {σ : SG} {tp : Nat → Int32} {L k b e i : Nat} (hT : TP σ tp L) (hR : RS σ k b e) (hk : k ≤ 4) (hb : k = 1 → b < L) (hi : i < 14) : CI G yX5_isOneOf cX5_isOneOf 2 (some .boolean) 7 [rf G 33, sf G i] σ (fun r s => r = bz (k = 1 ∧ tp b ∈ kByt.getD i []) ∧ s = σ) := by
  refine Con.of cd_X5_isOneOf (Nat.le_of_ble_eq_true rfl) ?_
  intro X hX hZ
  have hX : Fx X G RX5 cX5_isOneOf 2 7 := hX
  show RR X G 2 0 (ll [(0, rf G 33), (1, sf G i)]) [] σ
  have h96 := hT.1
  obtain ⟨r0, r1, r2⟩ := hR
  refine r_aload_n hX dX5_isOneOf_0 rfl ⟨_, rfl⟩ (RR.pc (b := 1) rfl ?_)
  refine r_geti hX dX5_isOneOf_1 fl_X5_23 (by first | rfl | assumption) rfl (RR.pc (b := 4) rfl ?_)
  refine r_iconst (v := 1) hX dX5_isOneOf_4 (by decide) (RR.pc (b := 5) rfl ?_)
  rw [r2]
  refine r_icmp_ne (tgt := 31) hX dX5_isOneOf_5 rfl (fun h5 => ?_) (fun h5 => RR.pc (b := 8) rfl ?_)
  · skip
    refine r_iconst (v := 0) hX dX5_isOneOf_31 (by decide) (RR.pc (b := 32) rfl ?_)
    exact r_zret hX hZ dX5_isOneOf_32 (by first | rfl | exact nar_bz _) ⟨_, rfl, ⟨(bz_f (fun z => h5 (by rw [z.1]; rfl))).symm, rfl⟩⟩
  · have k1 : k = 1 := (nI_eq (b := 1) (by omega) (by omega)).mp h5
    have hbL := hb k1
    obtain ⟨x, hx, ex⟩ := hT.2.2.2 b (by omega)
    have hl := kLen_lt i hi
    refine r_aload_n hX dX5_isOneOf_8 rfl ⟨_, rfl⟩ (RR.pc (b := 9) rfl ?_)
    refine r_aload_n hX dX5_isOneOf_9 rfl ⟨_, rfl⟩ (RR.pc (b := 10) rfl ?_)
    refine r_getr hX dX5_isOneOf_10 fl_X5_9 (by first | rfl | assumption) rfl (RR.pc (b := 13) rfl ?_)
    refine r_aload_n hX dX5_isOneOf_13 rfl ⟨_, rfl⟩ (RR.pc (b := 14) rfl ?_)
    refine r_geti hX dX5_isOneOf_14 fl_X5_61 (by first | rfl | assumption) rfl (RR.pc (b := 17) rfl ?_)
    rw [r0]
    refine r_callVi hX dX5_isOneOf_17 ml_X5_64 cd_X3_byteAt iv_X3_byteAt (c_X3_byteAt (p := b) hT (by omega)) (by decide) (by first | rfl | assumption) rfl rfl rfl rfl (Nat.le_of_ble_eq_true rfl) (fun r_17 s_17 e_17 => RR.pc (b := 20) rfl ?_)
    obtain ⟨rfl, rfl⟩ := e_17
    rw [if_pos hbL, ex]
    refine r_i2c hX dX5_isOneOf_20 (RR.pc (b := 21) rfl ?_)
    rw [i2c_b x hx]
    refine r_callVKie hX dX5_isOneOf_21 ml_X5_99 cd_J0_indexOf_0f7a4 iv_J0_indexOf_0f7a4 (c_J0_indexOf_0f7a4 hi hx) (by decide) (by assumption) rfl rfl rfl (Nat.le_of_ble_eq_true rfl) (RR.pc (b := 24) rfl ?_)
    refine r_if_lt (tgt := 31) hX dX5_isOneOf_24 rfl (fun h24 => ?_) (fun h24 => RR.pc (b := 27) rfl ?_)
    · refine r_iconst (v := 0) hX dX5_isOneOf_31 (by decide) (RR.pc (b := 32) rfl ?_)
      exact r_zret hX hZ dX5_isOneOf_32 (by first | rfl | exact nar_bz _) ⟨_, rfl, ⟨by rw [ixF_nn (by omega), ← ex] at h24; first | exact (bz_f (fun z => h24 z.2)).symm | exact (bz_t ⟨k1, Decidable.not_not.mp h24⟩).symm, rfl⟩⟩
    · refine r_iconst (v := 1) hX dX5_isOneOf_27 (by decide) (RR.pc (b := 28) rfl ?_)
      refine r_goto (tgt := 32) hX dX5_isOneOf_28 rfl ?_
      exact r_zret hX hZ dX5_isOneOf_32 (by first | rfl | exact nar_bz _) ⟨_, rfl, ⟨by rw [ixF_nn (by omega), ← ex] at h24; first | exact (bz_f (fun z => h24 z.2)).symm | exact (bz_t ⟨k1, Decidable.not_not.mp h24⟩).symm, rfl⟩⟩
set_option maxHeartbeats 4000000 in
set_option maxRecDepth 100000 in
theorem c_X5_spells {G : GM} {σ : SG} {tp : Nat → Int32} {L k b e i : Nat} (hT : TP σ tp L) (hR : RS σ k b e) (hbe : b ≤ e) (heL : e ≤ L) (hi : i < 14) : CI G yX5_spells cX5_spells 3 (some .boolean) 5 [rf G 33, sf G i] σ (fun r s => r = bz (e - b = kLen.getD i 0 ∧ ∀ j, j < kLen.getD i 0 → tp (b + j) = (kByt.getD i []).getD j 0) ∧ s = σ) := by
  refine Con.of cd_X5_spells (Nat.le_of_ble_eq_true rfl) ?_
  intro X hX hZ
  have hX : Fx X G RX5 cX5_spells 3 5 := hX
  show RR X G 3 0 (ll [(0, rf G 33), (1, sf G i)]) [] σ
  have h96 := hT.1
  obtain ⟨r0, r1, r2⟩ := hR
  have hl := kLen_lt i hi
  refine r_aload_n hX dX5_spells_0 rfl ⟨_, rfl⟩ (RR.pc (b := 1) rfl ?_)
  refine r_geti hX dX5_spells_1 fl_X5_19 (by first | rfl | assumption) rfl (RR.pc (b := 4) rfl ?_)
  refine r_aload_n hX dX5_spells_4 rfl ⟨_, rfl⟩ (RR.pc (b := 5) rfl ?_)
  refine r_geti hX dX5_spells_5 fl_X5_61 (by first | rfl | assumption) rfl (RR.pc (b := 8) rfl ?_)
  rw [r0, r1]
  refine r_isub hX dX5_spells_8 (RR.pc (b := 9) rfl ?_)
  refine r_aload_n hX dX5_spells_9 rfl ⟨_, rfl⟩ (RR.pc (b := 10) rfl ?_)
  refine r_callVKie hX dX5_spells_10 ml_X5_118 cd_J0_length_8abf5 iv_J0_length_8abf5 (c_J0_length_8abf5 hi) (by decide) (by assumption) rfl rfl rfl (Nat.le_of_ble_eq_true rfl) (RR.pc (b := 13) rfl ?_)
  rw [pk_sub hbe]
  refine r_icmp_eq (tgt := 18) hX dX5_spells_13 rfl (fun h13 => ?_) (fun h13 => RR.pc (b := 16) rfl ?_)
  · have hel : e - b = kLen.getD i 0 := (nI_eq (by omega) (by omega)).mp h13
    have loop := loopK (kLen.getD i 0) (fun j => (∀ q, q < j → tp (b + q) = (kByt.getD i []).getD q 0) → RR X G 3 20 (ll [(0, rf G 33), (1, sf G i), (2, .int (nI j))]) [] σ) (by
      intro j hj ih hq
      refine r_iload_n (i := 0) hX dX5_spells_20 rfl (RR.pc (b := 21) rfl ?_)
      refine r_aload_n hX dX5_spells_21 rfl ⟨_, rfl⟩ (RR.pc (b := 22) rfl ?_)
      refine r_callVKie hX dX5_spells_22 ml_X5_118 cd_J0_length_8abf5 iv_J0_length_8abf5 (c_J0_length_8abf5 hi) (by decide) (by assumption) rfl rfl rfl (Nat.le_of_ble_eq_true rfl) (RR.pc (b := 25) rfl ?_)
      refine r_icmp_ge (tgt := 57) hX dX5_spells_25 rfl (fun h25 => ?_) (fun h25 => RR.pc (b := 28) rfl ?_)
      · have hj2 : j = kLen.getD i 0 := by rw [nI_leI (by omega) (by omega)] at h25; omega
        subst hj2
        refine r_iconst (v := 1) hX dX5_spells_57 (by decide) (RR.pc (b := 58) rfl ?_)
        exact r_zret hX hZ dX5_spells_58 (by first | rfl | exact nar_bz _) ⟨_, rfl, ⟨(bz_t ⟨hel, hq⟩).symm, rfl⟩⟩
      · have hj2 : j < kLen.getD i 0 := by rw [nI_leI (by omega) (by omega)] at h25; omega
        refine r_aload_n hX dX5_spells_28 rfl ⟨_, rfl⟩ (RR.pc (b := 29) rfl ?_)
        refine r_getr hX dX5_spells_29 fl_X5_9 (by first | rfl | assumption) rfl (RR.pc (b := 32) rfl ?_)
        refine r_aload_n hX dX5_spells_32 rfl ⟨_, rfl⟩ (RR.pc (b := 33) rfl ?_)
        refine r_geti hX dX5_spells_33 fl_X5_61 (by first | rfl | assumption) rfl (RR.pc (b := 36) rfl ?_)
        rw [r0]
        refine r_iload_n (i := 0) hX dX5_spells_36 rfl (RR.pc (b := 37) rfl ?_)
        refine r_iadd hX dX5_spells_37 (RR.pc (b := 38) rfl ?_)
        rw [nI_add]
        refine r_callVi hX dX5_spells_38 ml_X5_64 cd_X3_byteAt iv_X3_byteAt (c_X3_byteAt (p := b + j) hT (by omega)) (by decide) (by first | rfl | assumption) rfl rfl rfl rfl (Nat.le_of_ble_eq_true rfl) (fun r_38 s_38 e_38 => RR.pc (b := 41) rfl ?_)
        obtain ⟨rfl, rfl⟩ := e_38
        rw [if_pos (show b + j < L by omega)]
        refine r_aload_n hX dX5_spells_41 rfl ⟨_, rfl⟩ (RR.pc (b := 42) rfl ?_)
        refine r_iload_n (i := 0) hX dX5_spells_42 rfl (RR.pc (b := 43) rfl ?_)
        refine r_callVKie hX dX5_spells_43 ml_X5_121 cd_J0_charAt_5068e iv_J0_charAt_5068e (c_J0_charAt_5068e hi hj2) (by decide) (by assumption) rfl rfl rfl (Nat.le_of_ble_eq_true rfl) (RR.pc (b := 46) rfl ?_)
        refine r_icmp_eq (tgt := 51) hX dX5_spells_46 rfl (fun h46 => ?_) (fun h46 => RR.pc (b := 49) rfl ?_)
        · skip
          refine r_iinc hX dX5_spells_51 rfl (by decide) (nI_1 j) (RR.pc (b := 54) rfl ?_)
          refine r_goto (tgt := 20) hX dX5_spells_54 rfl ?_
          exact RR.cut (ih hj2 (fun q hq2 => by
            by_cases e1 : q = j
            · rw [e1]; exact h46
            · exact hq q (by omega))) (List.forall_mem_cons.mpr ⟨rfl, List.forall_mem_cons.mpr ⟨rfl, List.forall_mem_cons.mpr ⟨rfl, fun _ h => absurd h List.not_mem_nil⟩⟩⟩)
        · skip
          refine r_iconst (v := 0) hX dX5_spells_49 (by decide) (RR.pc (b := 50) rfl ?_)
          exact r_zret hX hZ dX5_spells_50 (by first | rfl | exact nar_bz _) ⟨_, rfl, ⟨(bz_f (fun z => h46 (z.2 j hj2))).symm, rfl⟩⟩
      )
    refine r_iconst (v := 0) hX dX5_spells_18 (by decide) (RR.pc (b := 19) rfl ?_)
    refine r_istore_n hX dX5_spells_19 (by decide) (RR.pc (b := 20) rfl ?_)
    exact RR.cut (loop 0 (by omega) (fun q hq => by omega)) (List.forall_mem_cons.mpr ⟨rfl, List.forall_mem_cons.mpr ⟨rfl, List.forall_mem_cons.mpr ⟨rfl, fun _ h => absurd h List.not_mem_nil⟩⟩⟩)
  · skip
    refine r_iconst (v := 0) hX dX5_spells_16 (by decide) (RR.pc (b := 17) rfl ?_)
    exact r_zret hX hZ dX5_spells_17 (by first | rfl | exact nar_bz _) ⟨_, rfl, ⟨(bz_f (fun z => h13 (by rw [z.1]))).symm, rfl⟩⟩
set_option maxHeartbeats 4000000 in
set_option maxRecDepth 100000 in
theorem c_X5_number {G : GM} {σ : SG} {tp : Nat → Int32} {L k b e : Nat} (hT : TP σ tp L) (hR : RS σ k b e) (hbe : b ≤ e) (heL : e ≤ L) : CI G yX5_number cX5_number 3 (some .int) 1 [rf G 33] σ (fun r s => r = numF tp b (e - b) ∧ s = σ) := by
  refine Con.of cd_X5_number (Nat.le_of_ble_eq_true rfl) ?_
  intro X hX hZ
  have hX : Fx X G RX5 cX5_number 3 1 := hX
  show RR X G 3 0 (ll [(0, rf G 33)]) [] σ
  have h96 := hT.1
  obtain ⟨r0, r1, r2⟩ := hR
  have loop := loopK (e - b) (fun j => RR X G 3 7 (ll [(0, rf G 33), (1, .int (numF tp b j)), (2, .int (nI (b + j)))]) [] σ) (by
    intro j hj ih
    refine r_iload_n (i := 0) hX dX5_number_7 rfl (RR.pc (b := 8) rfl ?_)
    refine r_aload_n hX dX5_number_8 rfl ⟨_, rfl⟩ (RR.pc (b := 9) rfl ?_)
    refine r_geti hX dX5_number_9 fl_X5_19 (by first | rfl | assumption) rfl (RR.pc (b := 12) rfl ?_)
    rw [r1]
    refine r_icmp_ge (tgt := 38) hX dX5_number_12 rfl (fun h12 => ?_) (fun h12 => RR.pc (b := 15) rfl ?_)
    · have hj2 : j = e - b := by rw [nI_leI (by omega) (by omega)] at h12; omega
      rw [← hj2] at hZ
      refine r_iload_n (i := 0) hX dX5_number_38 rfl (RR.pc (b := 39) rfl ?_)
      exact r_iret hX hZ dX5_number_39 ⟨_, rfl, ⟨rfl, rfl⟩⟩
    · have hj2 : j < e - b := by rw [nI_leI (by omega) (by omega)] at h12; omega
      refine r_iload_n (i := 0) hX dX5_number_15 rfl (RR.pc (b := 16) rfl ?_)
      refine r_bipush (v := 10) hX dX5_number_16 (by decide) (RR.pc (b := 18) rfl ?_)
      refine r_imul hX dX5_number_18 (RR.pc (b := 19) rfl ?_)
      refine r_aload_n hX dX5_number_19 rfl ⟨_, rfl⟩ (RR.pc (b := 20) rfl ?_)
      refine r_getr hX dX5_number_20 fl_X5_9 (by first | rfl | assumption) rfl (RR.pc (b := 23) rfl ?_)
      refine r_iload_n (i := 0) hX dX5_number_23 rfl (RR.pc (b := 24) rfl ?_)
      refine r_callVi hX dX5_number_24 ml_X5_64 cd_X3_byteAt iv_X3_byteAt (c_X3_byteAt (p := b + j) hT (by omega)) (by decide) (by first | rfl | assumption) rfl rfl rfl rfl (Nat.le_of_ble_eq_true rfl) (fun r_24 s_24 e_24 => RR.pc (b := 27) rfl ?_)
      obtain ⟨rfl, rfl⟩ := e_24
      rw [if_pos (show b + j < L by omega)]
      refine r_iadd hX dX5_number_27 (RR.pc (b := 28) rfl ?_)
      refine r_bipush (v := 48) hX dX5_number_28 (by decide) (RR.pc (b := 30) rfl ?_)
      refine r_isub hX dX5_number_30 (RR.pc (b := 31) rfl ?_)
      refine r_istore_n hX dX5_number_31 (by decide) (RR.pc (b := 32) rfl ?_)
      refine r_iinc hX dX5_number_32 rfl (by decide) (nI_1 (b + j)) (RR.pc (b := 35) rfl ?_)
      refine r_goto (tgt := 7) hX dX5_number_35 rfl ?_
      exact RR.cut (ih hj2) (List.forall_mem_cons.mpr ⟨rfl, List.forall_mem_cons.mpr ⟨rfl, List.forall_mem_cons.mpr ⟨rfl, fun _ h => absurd h List.not_mem_nil⟩⟩⟩)
    )
  refine r_iconst (v := 0) hX dX5_number_0 (by decide) (RR.pc (b := 1) rfl ?_)
  refine r_istore_n hX dX5_number_1 (by decide) (RR.pc (b := 2) rfl ?_)
  refine r_aload_n hX dX5_number_2 rfl ⟨_, rfl⟩ (RR.pc (b := 3) rfl ?_)
  refine r_geti hX dX5_number_3 fl_X5_61 (by first | rfl | assumption) rfl (RR.pc (b := 6) rfl ?_)
  rw [r0]
  refine r_istore_n hX dX5_number_6 (by decide) (RR.pc (b := 7) rfl ?_)
  exact RR.cut (loop 0 (by omega)) (List.forall_mem_cons.mpr ⟨rfl, List.forall_mem_cons.mpr ⟨rfl, List.forall_mem_cons.mpr ⟨rfl, fun _ h => absurd h List.not_mem_nil⟩⟩⟩)
theorem lay34 : lay 34 = lO 4 [fR 35, fI 3 1496, fI 3 1497, fI 3 1498, fR 2] := rfl
theorem lay35 : lay 35 = lI 96 3 1400 := rfl
set_option maxHeartbeats 4000000 in
set_option maxRecDepth 100000 in
theorem c_X4_addStep {G : GM} {σ : SG} {m : Nat} {v : Int32} (hm : σ 3 1496 = nI m) (h96 : m < 96) : CU G yX4_addStep cX4_addStep 2 none 0 [rf G 34, .int v] σ (fun s => s = sr σ 3 (upd (upd (σ 3) (1400 + m) v) 1496 (nI (m + 1)))) := by
  refine Con.of cd_X4_addStep (Nat.le_of_ble_eq_true rfl) ?_
  intro X hX hZ
  have hX : Fx X G RX4 cX4_addStep 2 0 := hX
  show RR X G 2 0 (ll [(0, rf G 34), (1, .int v)]) [] σ
  refine r_aload_n hX dX4_addStep_0 rfl ⟨_, rfl⟩ (RR.pc (b := 1) rfl ?_)
  refine r_geti hX dX4_addStep_1 fl_X4_22 (by first | rfl | assumption) rfl (RR.pc (b := 4) rfl ?_)
  rw [hm]
  refine r_bipush (v := 96) hX dX4_addStep_4 (by decide) (RR.pc (b := 6) rfl ?_)
  refine r_icmp_ge (tgt := 29) hX dX4_addStep_6 rfl (fun h6 => absurd h6 (nI_ge (b := 96) h96 (by omega))) (fun h6 => RR.pc (b := 9) rfl ?_)
  refine r_aload_n hX dX4_addStep_9 rfl ⟨_, rfl⟩ (RR.pc (b := 10) rfl ?_)
  refine r_getr hX dX4_addStep_10 fl_X4_11 (by first | rfl | assumption) rfl (RR.pc (b := 13) rfl ?_)
  refine r_aload_n hX dX4_addStep_13 rfl ⟨_, rfl⟩ (RR.pc (b := 14) rfl ?_)
  refine r_geti hX dX4_addStep_14 fl_X4_22 (by first | rfl | assumption) rfl (RR.pc (b := 17) rfl ?_)
  rw [hm]
  refine r_iload_n (i := 0) hX dX4_addStep_17 rfl (RR.pc (b := 18) rfl ?_)
  refine r_iast hX dX4_addStep_18 (by first | rfl | assumption) rfl (by omega) (by first | decide | omega) (by first | exact Nat.zero_add _ | rfl) (RR.pc (b := 19) rfl ?_)
  refine r_aload_n hX dX4_addStep_19 rfl ⟨_, rfl⟩ (RR.pc (b := 20) rfl ?_)
  refine r_dup hX dX4_addStep_20 rfl (RR.pc (b := 21) rfl ?_)
  refine r_geti hX dX4_addStep_21 fl_X4_22 (by first | rfl | assumption) rfl (RR.pc (b := 24) rfl ?_)
  rw [su_eq, pk_un (by omega), hm]
  refine r_iconst (v := 1) hX dX4_addStep_24 (by decide) (RR.pc (b := 25) rfl ?_)
  refine r_iadd hX dX4_addStep_25 (RR.pc (b := 26) rfl ?_)
  rw [nI_1]
  refine r_puti hX dX4_addStep_26 fl_X4_22 (by first | rfl | assumption) rfl ft_4_1 (RR.pc (b := 29) rfl ?_)
  exact r_vret hX hZ dX4_addStep_29 ⟨rfl, by simp only [su, sr_eq, sr_sr]⟩
theorem TC_add {f : Nat → Int32} {key lv : Int32} {ls : List (Int32 × Int32)} {q : Int32 × Int32} (h : TC f 14 (key, lv, ls)) (hl : ls.length < 96) : TC (upd (upd f (1400 + ls.length) (encS key q)) 1496 (nI (ls.length + 1))) 14 (key, lv, ls ++ [q]) := by
  obtain ⟨h1, h2, h3, h4⟩ := h
  refine ⟨by rw [List.length_append]; exact pk_us, by rw [pk_un (by omega), pk_un (by omega)]; exact h2, by rw [pk_un (by omega), pk_un (by omega)]; exact h3, fun k hk => ?_⟩
  have hk' : k < ls.length + 1 := by rw [List.length_append] at hk; exact hk
  have e0 : 100 * 14 + k = 1400 + k := rfl
  rw [e0, pk_un (by omega)]
  show _ = encS key ((ls ++ [q]).getD k (0, 0))
  rw [List.getD_eq_getElem?_getD]
  by_cases e : k = ls.length
  · subst e
    rw [pk_us, List.getElem?_append_right (Nat.le_refl _), Nat.sub_self]
    rfl
  · rw [pk_un (by omega), List.getElem?_append_left (by omega), ← List.getD_eq_getElem?_getD]
    exact h4 k (show k < ls.length by omega)
theorem TC_leaf {f : Nat → Int32} {key lv v : Int32} {ls : List (Int32 × Int32)} (h : TC f 14 (key, lv, ls)) (hl : ls.length ≤ 96) : TC (upd f 1498 v) 14 (key, v, ls) := by
  obtain ⟨h1, h2, h3, h4⟩ := h
  have h1 : f 1496 = nI ls.length := h1
  have h2 : f 1497 = key := h2
  refine ⟨?_, ?_, ?_, fun k hk => ?_⟩
  · show upd f 1498 v 1496 = _; rw [pk_un (by decide)]; exact h1
  · show upd f 1498 v 1497 = _; rw [pk_un (by decide)]; exact h2
  · exact pk_us
  · have hk' : k < ls.length := hk
    show upd f 1498 v (1400 + k) = _; rw [pk_un (by omega)]; exact h4 k hk
def PF (σ s : SG) : Prop := same [3, 6] σ s ∧ ∀ i, i < 1400 → s 3 i = σ 3 i
theorem PF.rf {σ : SG} : PF σ σ := ⟨same.rf, fun _ _ => rfl⟩
theorem PF.tr {a b c : SG} (h : PF a b) (h' : PF b c) : PF a c := ⟨h.1.tr h'.1, fun i hi => (h'.2 i hi).trans (h.2 i hi)⟩
theorem PF.w3 {σ : SG} {f : Nat → Int32} (h : ∀ i, i < 1400 → f i = σ 3 i) : PF σ (sr σ 3 f) := ⟨same.rf.sr (by simp), fun i hi => by rw [sr_eq]; exact h i hi⟩
set_option maxHeartbeats 4000000 in
set_option maxRecDepth 100000 in
theorem c_X4_addSign {G : GM} {σ : SG} {key lv c : Int32} {ls : List (Int32 × Int32)} (hT : TC (σ 3) 14 (key, lv, ls)) (hl : ls.length < 96) : CU G yX4_addSign cX4_addSign 2 none 1 [rf G 34, .int c] σ (fun s => ∃ f, s = sr σ 3 f ∧ TC f 14 (key, lv, ls ++ [(2, c)]) ∧ ∀ i, i < 1400 → f i = σ 3 i) := by
  refine Con.of cd_X4_addSign (Nat.le_of_ble_eq_true rfl) ?_
  intro X hX hZ
  have hX : Fx X G RX4 cX4_addSign 2 1 := hX
  show RR X G 2 0 (ll [(0, rf G 34), (1, .int c)]) [] σ
  refine r_aload_n hX dX4_addSign_0 rfl ⟨_, rfl⟩ (RR.pc (b := 1) rfl ?_)
  refine r_sipush (v := 10000) hX dX4_addSign_1 (by decide) (RR.pc (b := 4) rfl ?_)
  refine r_iload_n (i := 0) hX dX4_addSign_4 rfl (RR.pc (b := 5) rfl ?_)
  refine r_iadd hX dX4_addSign_5 (RR.pc (b := 6) rfl ?_)
  refine r_callVve hX dX4_addSign_6 ml_X4_34 cd_X4_addStep iv_X4_addStep (c_X4_addStep (m := ls.length) hT.1 hl) (by decide) (by first | rfl | assumption) rfl rfl rfl rfl (Nat.le_of_ble_eq_true rfl) (RR.pc (b := 9) rfl ?_)
  exact r_vret hX hZ dX4_addSign_9 ⟨rfl, ⟨_, rfl, TC_add (q := (2, c)) hT hl, fun i hi => by rw [pk_un (by omega), pk_un (by omega)]⟩⟩
set_option maxHeartbeats 4000000 in
set_option maxRecDepth 100000 in
theorem c_X4_addNumber {G : GM} {σ : SG} {key c : Int32} {lv : Nat} {ls : List (Int32 × Int32)} (hT : TC (σ 3) 14 (key, nI lv, ls)) (hl : ls.length < 96) : CU G yX4_addNumber cX4_addNumber 2 none 1 [rf G 34, .int c] σ (fun s => ∃ f, s = sr σ 3 f ∧ TC f 14 (key, nI (lv + 1), ls ++ [(0, c)]) ∧ ∀ i, i < 1400 → f i = σ 3 i) := by
  refine Con.of cd_X4_addNumber (Nat.le_of_ble_eq_true rfl) ?_
  intro X hX hZ
  have hX : Fx X G RX4 cX4_addNumber 2 1 := hX
  show RR X G 2 0 (ll [(0, rf G 34), (1, .int c)]) [] σ
  have h3 : σ 3 1498 = nI lv := hT.2.2.1
  refine r_aload_n hX dX4_addNumber_0 rfl ⟨_, rfl⟩ (RR.pc (b := 1) rfl ?_)
  refine r_iload_n (i := 0) hX dX4_addNumber_1 rfl (RR.pc (b := 2) rfl ?_)
  refine r_callVve hX dX4_addNumber_2 ml_X4_34 cd_X4_addStep iv_X4_addStep (c_X4_addStep (m := ls.length) hT.1 hl) (by decide) (by first | rfl | assumption) rfl rfl rfl rfl (Nat.le_of_ble_eq_true rfl) (RR.pc (b := 5) rfl ?_)
  refine r_aload_n hX dX4_addNumber_5 rfl ⟨_, rfl⟩ (RR.pc (b := 6) rfl ?_)
  refine r_dup hX dX4_addNumber_6 rfl (RR.pc (b := 7) rfl ?_)
  refine r_geti hX dX4_addNumber_7 fl_X4_25 (by first | rfl | assumption) rfl (RR.pc (b := 10) rfl ?_)
  rw [sr_eq, pk_un (by decide), pk_un (by omega), h3]
  refine r_iconst (v := 1) hX dX4_addNumber_10 (by decide) (RR.pc (b := 11) rfl ?_)
  refine r_iadd hX dX4_addNumber_11 (RR.pc (b := 12) rfl ?_)
  rw [nI_1]
  refine r_puti hX dX4_addNumber_12 fl_X4_25 (by first | rfl | assumption) rfl ft_4_3 (RR.pc (b := 15) rfl ?_)
  exact r_vret hX hZ dX4_addNumber_15 ⟨rfl, ⟨_, su_sr, TC_leaf (TC_add (q := (0, c)) hT hl) (by rw [List.length_append]; exact hl), fun i hi => by rw [pk_un (by omega), pk_un (by omega), pk_un (by omega)]⟩⟩
set_option maxHeartbeats 4000000 in
set_option maxRecDepth 100000 in
theorem c_X4_addName {G : GM} {σ : SG} {key c x : Int32} {lv : Nat} {ls : List (Int32 × Int32)} (hT : TC (σ 3) 14 (key, nI lv, ls)) (hl : ls.length < 96) (hx : -1 - x = encN key c) : CU G yX4_addName cX4_addName 2 none 1 [rf G 34, .int x] σ (fun s => ∃ f, s = sr σ 3 f ∧ TC f 14 (key, nI (lv + 1), ls ++ [(1, c)]) ∧ ∀ i, i < 1400 → f i = σ 3 i) := by
  refine Con.of cd_X4_addName (Nat.le_of_ble_eq_true rfl) ?_
  intro X hX hZ
  have hX : Fx X G RX4 cX4_addName 2 1 := hX
  show RR X G 2 0 (ll [(0, rf G 34), (1, .int x)]) [] σ
  have h3 : σ 3 1498 = nI lv := hT.2.2.1
  refine r_aload_n hX dX4_addName_0 rfl ⟨_, rfl⟩ (RR.pc (b := 1) rfl ?_)
  refine r_iconst (v := -1) hX dX4_addName_1 (by decide) (RR.pc (b := 2) rfl ?_)
  refine r_iload_n (i := 0) hX dX4_addName_2 rfl (RR.pc (b := 3) rfl ?_)
  refine r_isub hX dX4_addName_3 (RR.pc (b := 4) rfl ?_)
  rw [hx]
  refine r_callVve hX dX4_addName_4 ml_X4_34 cd_X4_addStep iv_X4_addStep (c_X4_addStep (m := ls.length) hT.1 hl) (by decide) (by first | rfl | assumption) rfl rfl rfl rfl (Nat.le_of_ble_eq_true rfl) (RR.pc (b := 7) rfl ?_)
  refine r_aload_n hX dX4_addName_7 rfl ⟨_, rfl⟩ (RR.pc (b := 8) rfl ?_)
  refine r_dup hX dX4_addName_8 rfl (RR.pc (b := 9) rfl ?_)
  refine r_geti hX dX4_addName_9 fl_X4_25 (by first | rfl | assumption) rfl (RR.pc (b := 12) rfl ?_)
  rw [sr_eq, pk_un (by decide), pk_un (by omega), h3]
  refine r_iconst (v := 1) hX dX4_addName_12 (by decide) (RR.pc (b := 13) rfl ?_)
  refine r_iadd hX dX4_addName_13 (RR.pc (b := 14) rfl ?_)
  rw [nI_1]
  refine r_puti hX dX4_addName_14 fl_X4_25 (by first | rfl | assumption) rfl ft_4_3 (RR.pc (b := 17) rfl ?_)
  exact r_vret hX hZ dX4_addName_17 ⟨rfl, ⟨_, su_sr, TC_leaf (TC_add (q := (1, c)) hT hl) (by rw [List.length_append]; exact hl), fun i hi => by rw [pk_un (by omega), pk_un (by omega), pk_un (by omega)]⟩⟩
