/-! the class: keys, texts -/
abbrev wdP (tp : Nat → Int32) (st : St) (i : Nat) : Prop := st.2.2.1 - st.2.1 = kLen.getD i 0 ∧ ∀ j, j < kLen.getD i 0 → tp (st.2.1 + j) = (kByt.getD i []).getD j 0
def kyF (tp : Nat → Int32) (st : St) : Option Nat := if st.1 = 2 ∧ wdP tp st 0 then some 0 else if st.1 = 2 ∧ wdP tp st 1 then some 1 else if st.1 = 2 ∧ wdP tp st 2 then some 2 else none
def st0 (tp : Nat → Int32) (L : Nat) : St := nx tp L (1, 0, 0, 0, [])
def prF (tp : Nat → Int32) (L : Nat) : Bool × Nat × St := match kyF tp (st0 tp L) with
  | none => (false, 0, st0 tp L)
  | some k => (decide ((ps tp L (nI k) 1300 0 0 0 (nx tp L (st0 tp L))).1 = true ∧ (ps tp L (nI k) 1300 0 0 0 (nx tp L (st0 tp L))).2.1 = 0), k, (ps tp L (nI k) 1300 0 0 0 (nx tp L (st0 tp L))).2)
theorem kyF_at {tp : Nat → Int32} {st : St} {k : Nat} (hk : k < 3) (h : ∀ j, j < k → ¬ (st.1 = 2 ∧ wdP tp st j)) (h1 : st.1 = 2 ∧ wdP tp st k) : kyF tp st = some k := by
  unfold kyF
  rcases (show k = 0 ∨ k = 1 ∨ k = 2 by omega) with rfl | rfl | rfl
  · rw [if_pos h1]
  · rw [if_neg (h 0 (by omega)), if_pos h1]
  · rw [if_neg (h 0 (by omega)), if_neg (h 1 (by omega)), if_pos h1]
theorem kyF_no {tp : Nat → Int32} {st : St} (h : ∀ j, j < 3 → ¬ (st.1 = 2 ∧ wdP tp st j)) : kyF tp st = none := by
  unfold kyF
  rw [if_neg (h 0 (by omega)), if_neg (h 1 (by omega)), if_neg (h 2 (by omega))]
theorem wdI : ∀ k, k < 3 → (if nI k = 0 then 0 else if nI k = 1 then 1 else 2) = k := by decide +kernel
theorem k012 : ∀ k, k < 3 → (nI k = 0 ∨ nI k = 1 ∨ nI k = 2) := by decide +kernel
set_option maxHeartbeats 4000000 in
set_option maxRecDepth 100000 in
theorem c_X4_begin {G : GM} {σ : SG} {key : Int32} : CU G yX4_begin cX4_begin 2 none 0 [rf G 34, .int key] σ (fun s => s = sr σ 3 (upd (upd (upd (σ 3) 1497 key) 1496 0) 1498 0)) := by
  refine Con.of cd_X4_begin (Nat.le_of_ble_eq_true rfl) ?_
  intro X hX hZ
  have hX : Fx X G RX4 cX4_begin 2 0 := hX
  show RR X G 2 0 (ll [(0, rf G 34), (1, .int key)]) [] σ
  refine r_aload_n hX dX4_begin_0 rfl ⟨_, rfl⟩ (RR.pc (b := 1) rfl ?_)
  refine r_iload_n (i := 0) hX dX4_begin_1 rfl (RR.pc (b := 2) rfl ?_)
  refine r_puti hX dX4_begin_2 fl_X4_18 (by first | rfl | assumption) rfl ft_4_2 (RR.pc (b := 5) rfl ?_)
  refine r_aload_n hX dX4_begin_5 rfl ⟨_, rfl⟩ (RR.pc (b := 6) rfl ?_)
  refine r_iconst (v := 0) hX dX4_begin_6 (by decide) (RR.pc (b := 7) rfl ?_)
  refine r_puti hX dX4_begin_7 fl_X4_22 (by first | rfl | assumption) rfl ft_4_1 (RR.pc (b := 10) rfl ?_)
  refine r_aload_n hX dX4_begin_10 rfl ⟨_, rfl⟩ (RR.pc (b := 11) rfl ?_)
  refine r_iconst (v := 0) hX dX4_begin_11 (by decide) (RR.pc (b := 12) rfl ?_)
  refine r_puti hX dX4_begin_12 fl_X4_25 (by first | rfl | assumption) rfl ft_4_3 (RR.pc (b := 15) rfl ?_)
  exact r_vret hX hZ dX4_begin_15 ⟨rfl, by simp only [su, sr_eq, sr_sr]⟩
theorem TC_begin {f : Nat → Int32} {key : Int32} : TC (upd (upd (upd f 1497 key) 1496 0) 1498 0) 14 (key, nI 0, []) := by
  refine ⟨?_, ?_, pk_us, fun k hk => absurd hk (Nat.not_lt_zero _)⟩
  · show upd _ 1498 0 1496 = _; rw [pk_un (by decide), pk_us]; rfl
  · show upd _ 1498 0 1497 = _; rw [pk_un (by decide), pk_un (by decide), pk_us]
set_option maxHeartbeats 4000000 in
set_option maxRecDepth 100000 in
theorem c_X5_readKey {G : GM} {σ : SG} {tp : Nat → Int32} {L : Nat} {st : St} (hT : TP σ tp L) (hR : RS σ st.1 st.2.1 st.2.2.1) (hV : VS tp L st) (hl0 : st.2.2.2.1 = 0) (hls : st.2.2.2.2 = []) : CI G yX5_readKey cX5_readKey 2 (some .boolean) 6 [rf G 33] σ (fun r s => (kyF tp st = none → r = 0 ∧ s = σ) ∧ ∀ k, kyF tp st = some k → r = 1 ∧ k < 3 ∧ PSC tp L (nI k) s (nx tp L st) ∧ PF σ s) := by
  refine Con.of cd_X5_readKey (Nat.le_of_ble_eq_true rfl) ?_
  intro X hX hZ
  have hX : Fx X G RX5 cX5_readKey 2 6 := hX
  show RR X G 2 0 (ll [(0, rf G 33)]) [] σ
  have h96 := hT.1
  have hk4 := hV.2.2.1
  have loop := loopK 3 (fun k => (∀ j, j < k → ¬ (st.1 = 2 ∧ wdP tp st j)) → RR X G 2 2 (ll [(0, rf G 33), (1, .int (nI k))]) [] σ) (by
    intro k hk ih hno
    by_cases k3 : k = 3
    · subst k3
      have e := kyF_no hno
      refine r_iload_n (i := 0) hX dX5_readKey_2 rfl (RR.pc (b := 3) rfl ?_)
      refine r_iconst (v := 3) hX dX5_readKey_3 (by decide) (RR.pc (b := 4) rfl ?_)
      refine r_icmp_ge (tgt := 46) hX dX5_readKey_4 rfl (fun h4 => ?_) (fun h4 => absurd (nI_le (a := 3) (b := 3) (by omega) (by omega)) h4)
      refine r_iconst (v := 0) hX dX5_readKey_46 (by decide) (RR.pc (b := 47) rfl ?_)
      exact r_zret hX hZ dX5_readKey_47 (by first | rfl | exact nar_bz _) ⟨_, rfl, ⟨fun _ => ⟨rfl, rfl⟩, fun k z => (ns z e).elim⟩⟩
    · have next : ¬ (st.1 = 2 ∧ wdP tp st k) → RR X G 2 40 (ll [(0, rf G 33), (1, .int (nI k))]) [] σ := by
        intro hn
        refine r_iinc hX dX5_readKey_40 rfl (by decide) (nI_1 k) (RR.pc (b := 43) rfl ?_)
        refine r_goto (tgt := 2) hX dX5_readKey_43 rfl ?_
        exact RR.cut (ih (by omega) (fun j hj => by
          by_cases e : j = k
          · rw [e]; exact hn
          · exact hno j (by omega))) (List.forall_mem_cons.mpr ⟨rfl, List.forall_mem_cons.mpr ⟨rfl, fun _ h => absurd h List.not_mem_nil⟩⟩)
      refine r_iload_n (i := 0) hX dX5_readKey_2 rfl (RR.pc (b := 3) rfl ?_)
      refine r_iconst (v := 3) hX dX5_readKey_3 (by decide) (RR.pc (b := 4) rfl ?_)
      refine r_icmp_ge (tgt := 46) hX dX5_readKey_4 rfl (fun h4 => absurd h4 (nI_ge (b := 3) (by omega) (by omega))) (fun h4 => RR.pc (b := 7) rfl ?_)
      refine r_aload_n hX dX5_readKey_7 rfl ⟨_, rfl⟩ (RR.pc (b := 8) rfl ?_)
      refine r_geti hX dX5_readKey_8 fl_X5_23 (by first | rfl | assumption) rfl (RR.pc (b := 11) rfl ?_)
      refine r_iconst (v := 2) hX dX5_readKey_11 (by decide) (RR.pc (b := 12) rfl ?_)
      rw [hR.2.2]
      refine r_icmp_ne (tgt := 40) hX dX5_readKey_12 rfl (fun h12 => RR.cut (next (fun z => h12 (by rw [z.1]; rfl))) (List.forall_mem_cons.mpr ⟨rfl, List.forall_mem_cons.mpr ⟨rfl, fun _ h => absurd h List.not_mem_nil⟩⟩)) (fun h12 => RR.pc (b := 15) rfl ?_)
      have k2 : st.1 = 2 := (nI_eq (b := 2) (by omega) (by omega)).mp h12
      have hb := hV.2.2.2.2.1 (by omega)
      refine r_aload_n hX dX5_readKey_15 rfl ⟨_, rfl⟩ (RR.pc (b := 16) rfl ?_)
      refine r_iload_n (i := 0) hX dX5_readKey_16 rfl (RR.pc (b := 17) rfl ?_)
      refine r_callSre hX dX5_readKey_17 ml_X5_37 cd_X5_wordOf st_X5_wordOf (c_X5_wordOf (k := nI k)) (by decide) rfl rfl (Nat.le_of_ble_eq_true rfl) (RR.pc (b := 20) rfl ?_)
      rw [wdI k (by omega)]
      refine r_callVie hX dX5_readKey_20 ml_X5_41 cd_X5_spells iv_X5_spells (c_X5_spells (i := k) hT hR (by omega) hV.2.1 (by omega)) (by decide) (by first | rfl | assumption) rfl rfl rfl rfl (Nat.le_of_ble_eq_true rfl) (RR.pc (b := 23) rfl ?_)
      refine r_if_eq_b (tgt := 40) hX dX5_readKey_23 rfl (fun h23 => ?_) (fun h23 => RR.pc (b := 26) rfl ?_)
      · exact RR.cut (next (fun z => h23 z.2)) (List.forall_mem_cons.mpr ⟨rfl, List.forall_mem_cons.mpr ⟨rfl, fun _ h => absurd h List.not_mem_nil⟩⟩)
      · refine r_aload_n hX dX5_readKey_26 rfl ⟨_, rfl⟩ (RR.pc (b := 27) rfl ?_)
        refine r_getr hX dX5_readKey_27 fl_X5_15 (by first | rfl | assumption) rfl (RR.pc (b := 30) rfl ?_)
        refine r_iload_n (i := 0) hX dX5_readKey_30 rfl (RR.pc (b := 31) rfl ?_)
        refine r_callVve hX dX5_readKey_31 ml_X5_45 cd_X4_begin iv_X4_begin (c_X4_begin (key := nI k)) (by decide) (by first | rfl | assumption) rfl rfl rfl rfl (Nat.le_of_ble_eq_true rfl) (RR.pc (b := 34) rfl ?_)
        refine r_aload_n hX dX5_readKey_34 rfl ⟨_, rfl⟩ (RR.pc (b := 35) rfl ?_)
        refine r_callVv hX dX5_readKey_35 ml_X5_26 cd_X5_stepOn iv_X5_stepOn (c_step (key := nI k) (st := st) ⟨hT.same (sr_ne (by decide)), by unfold RS; rw [sr_ne (by decide)]; exact hR, by rw [sr_eq, hl0, hls]; exact TC_begin⟩ hV) (by decide) (by first | rfl | assumption) rfl rfl rfl rfl (Nat.le_of_ble_eq_true rfl) (fun s_35 e_35 => RR.pc (b := 38) rfl ?_)
        obtain ⟨hp, hpf⟩ := e_35
        refine r_iconst (v := 1) hX dX5_readKey_38 (by decide) (RR.pc (b := 39) rfl ?_)
        exact r_zret hX hZ dX5_readKey_39 (by first | rfl | exact nar_bz _) ⟨_, rfl, ⟨fun z => (ns (kyF_at (by omega) hno ⟨k2, h23⟩) z).elim, fun q z => by have e := se (kyF_at (by omega) hno ⟨k2, h23⟩) z; subst e; exact ⟨rfl, by omega, hp, (PF.w3 (fun i hi => by rw [pk_un (by omega), pk_un (by omega), pk_un (by omega)])).tr hpf⟩⟩⟩
    )
  refine r_iconst (v := 0) hX dX5_readKey_0 (by decide) (RR.pc (b := 1) rfl ?_)
  refine r_istore_n hX dX5_readKey_1 (by decide) (RR.pc (b := 2) rfl ?_)
  exact RR.cut (loop 0 (by omega) (fun j hj => by omega)) (List.forall_mem_cons.mpr ⟨rfl, List.forall_mem_cons.mpr ⟨rfl, fun _ h => absurd h List.not_mem_nil⟩⟩)
theorem st0_VS {tp : Nat → Int32} {L : Nat} : VS tp L (st0 tp L) := (nx_VS (tp := tp) (L := L) (st := (1, 0, 0, 0, [])) (Nat.zero_le _)).1
set_option maxHeartbeats 4000000 in
set_option maxRecDepth 100000 in
theorem c_X5_readTape {G : GM} {σ : SG} {tp : Nat → Int32} {L : Nat} (hT : TP σ tp L) : CI G yX5_readTape cX5_readTape 1 (some .boolean) 97 [rf G 33] σ (fun r s => r = bz ((prF tp L).1 = true) ∧ s 6 0 = nI (prF tp L).2.2.2.1 ∧ PF σ s ∧ ((prF tp L).1 = true → (prF tp L).2.1 < 3 ∧ TC (s 3) 14 (nI (prF tp L).2.1, nI (prF tp L).2.2.2.2.2.1, (prF tp L).2.2.2.2.2.2))) := by
  refine Con.of cd_X5_readTape (Nat.le_of_ble_eq_true rfl) ?_
  intro X hX hZ
  have hX : Fx X G RX5 cX5_readTape 1 97 := hX
  show RR X G 1 0 (ll [(0, rf G 33)]) [] σ
  have h96 := hT.1
  have hV0 := st0_VS (tp := tp) (L := L)
  obtain ⟨hV1, hb1⟩ := nx_VS (tp := tp) (L := L) (st := st0 tp L) hV0.2.1
  refine r_aload_n hX dX5_readTape_0 rfl ⟨_, rfl⟩ (RR.pc (b := 1) rfl ?_)
  refine r_iconst (v := 0) hX dX5_readTape_1 (by decide) (RR.pc (b := 2) rfl ?_)
  refine r_puti hX dX5_readTape_2 fl_X5_19 (by first | rfl | assumption) rfl ft_5_3 (RR.pc (b := 5) rfl ?_)
  refine r_aload_n hX dX5_readTape_5 rfl ⟨_, rfl⟩ (RR.pc (b := 6) rfl ?_)
  refine r_iconst (v := 1) hX dX5_readTape_6 (by decide) (RR.pc (b := 7) rfl ?_)
  refine r_puti hX dX5_readTape_7 fl_X5_23 (by first | rfl | assumption) rfl ft_5_4 (RR.pc (b := 10) rfl ?_)
  refine r_aload_n hX dX5_readTape_10 rfl ⟨_, rfl⟩ (RR.pc (b := 11) rfl ?_)
  refine r_callVv hX dX5_readTape_11 ml_X5_26 cd_X5_stepOn iv_X5_stepOn (c_X5_stepOn (tp := tp) (L := L) (k := 1) (e := 0) (hT.same (by rw [su_ne (by decide), su_ne (by decide)])) (by rw [su_eq, su_eq, pk_un (by decide), pk_us]; rfl) (by rw [su_eq, pk_us]; rfl) (Nat.zero_le _) (by omega)) (by decide) (by first | rfl | assumption) rfl rfl rfl rfl (Nat.le_of_ble_eq_true rfl) (fun s_11 e_11 => RR.pc (b := 14) rfl ?_)
  obtain ⟨hR, hs⟩ := e_11
  have hR : RS s_11 (st0 tp L).1 (st0 tp L).2.1 (st0 tp L).2.2.1 := hR
  have hs1 : same [6] σ s_11 := fun r hr => by
    rw [hs r hr]
    have : r ≠ 6 := fun e => hr (by rw [e]; simp)
    rw [su_ne this, su_ne this]
  have hT1 : TP s_11 tp L := hT.same (hs1 5 (by decide))
  have hpf1 : PF σ s_11 := ⟨hs1.mono (by simp), fun i _ => by rw [hs1 3 (by decide)]⟩
  refine r_aload_n hX dX5_readTape_14 rfl ⟨_, rfl⟩ (RR.pc (b := 15) rfl ?_)
  refine r_callVi hX dX5_readTape_15 ml_X5_29 cd_X5_readKey iv_X5_readKey (c_X5_readKey (st := st0 tp L) hT1 hR hV0 rfl rfl) (by decide) (by first | rfl | assumption) rfl rfl rfl rfl (Nat.le_of_ble_eq_true rfl) (fun r_15 s_15 e_15 => RR.pc (b := 18) rfl ?_)
  obtain ⟨kN, kS⟩ := e_15
  cases hk : kyF tp (st0 tp L) with
  | none =>
    obtain ⟨rfl, rfl⟩ := kN hk
    have eP : prF tp L = (false, 0, st0 tp L) := by unfold prF; rw [hk]
    rw [eP] at hZ
    refine r_if_eq (tgt := 42) hX dX5_readTape_18 rfl (fun h18 => ?_) (fun h18 => absurd rfl h18)
    refine r_iconst (v := 0) hX dX5_readTape_42 (by decide) (RR.pc (b := 43) rfl ?_)
    exact r_zret hX hZ dX5_readTape_43 (by first | rfl | exact nar_bz _) ⟨_, rfl, ⟨rfl, hR.1, hpf1, fun z => absurd z (by simp)⟩⟩
  | some k =>
    obtain ⟨rfl, k3, hp, hpf⟩ := kS k hk
    have eP : prF tp L = (decide ((ps tp L (nI k) 1300 0 0 0 (nx tp L (st0 tp L))).1 = true ∧ (ps tp L (nI k) 1300 0 0 0 (nx tp L (st0 tp L))).2.1 = 0), k, (ps tp L (nI k) 1300 0 0 0 (nx tp L (st0 tp L))).2) := by unfold prF; rw [hk]
    rw [eP] at hZ
    have iA := (all_C (G := G) (tp := tp) (L := L) (k012 k k3) 1300).1 0 0 0 (nx tp L (st0 tp L)) s_15 (by omega) (by omega) (by omega) hV1 (Nat.zero_le _) (by omega) hp
    have hok := ps_ok (tp := tp) (L := L) (key := nI k) 1300 0 0 0 (nx tp L (st0 tp L))
    generalize ps tp L (nI k) 1300 0 0 0 (nx tp L (st0 tp L)) = R at hZ iA hok
    refine r_if_eq (tgt := 42) hX dX5_readTape_18 rfl (fun h18 => absurd h18 (by decide)) (fun h18 => RR.pc (b := 21) rfl ?_)
    refine r_aload_n hX dX5_readTape_21 rfl ⟨_, rfl⟩ (RR.pc (b := 22) rfl ?_)
    refine r_iconst (v := 0) hX dX5_readTape_22 (by decide) (RR.pc (b := 23) rfl ?_)
    refine r_iconst (v := 0) hX dX5_readTape_23 (by decide) (RR.pc (b := 24) rfl ?_)
    refine r_iconst (v := 0) hX dX5_readTape_24 (by decide) (RR.pc (b := 25) rfl ?_)
    refine r_callVi hX dX5_readTape_25 ml_X5_33 cd_X5_readLevel iv_X5_readLevel iA (by decide) (by first | rfl | assumption) rfl rfl rfl rfl (Nat.le_of_ble_eq_true rfl) (fun r_25 s_25 e_25 => RR.pc (b := 28) rfl ?_)
    obtain ⟨rfl, hp2, hpf2⟩ := e_25
    refine r_if_eq_b (tgt := 42) hX dX5_readTape_28 rfl (fun h28 => ?_) (fun h28 => RR.pc (b := 31) rfl ?_)
    · first | have hno : ¬ (R.1 = true ∧ R.2.1 = 0) := fun z => h35 (by rw [z.2]; rfl) | have hno : ¬ (R.1 = true ∧ R.2.1 = 0) := fun z => h28 z.1
      refine r_iconst (v := 0) hX dX5_readTape_42 (by decide) (RR.pc (b := 43) rfl ?_)
      exact r_zret hX hZ dX5_readTape_43 (by first | rfl | exact nar_bz _) ⟨_, rfl, (by first | exact ⟨(bz_f (fun z => hno (of_decide_eq_true z))).symm, hp2.2.1.1, (hpf1.tr hpf).tr hpf2, fun z => absurd (of_decide_eq_true z) hno⟩ | exact ⟨(bz_t (decide_eq_true hyes)).symm, hp2.2.1.1, (hpf1.tr hpf).tr hpf2, fun _ => ⟨k3, hp2.2.2⟩⟩)⟩
    · refine r_aload_n hX dX5_readTape_31 rfl ⟨_, rfl⟩ (RR.pc (b := 32) rfl ?_)
      refine r_geti hX dX5_readTape_32 fl_X5_23 (by first | rfl | assumption) rfl (RR.pc (b := 35) rfl ?_)
      rw [hp2.2.1.2.2]
      refine r_if_ne (tgt := 42) hX dX5_readTape_35 rfl (fun h35 => ?_) (fun h35 => RR.pc (b := 38) rfl ?_)
      · first | have hno : ¬ (R.1 = true ∧ R.2.1 = 0) := fun z => h35 (by rw [z.2]; rfl) | have hno : ¬ (R.1 = true ∧ R.2.1 = 0) := fun z => h28 z.1
        refine r_iconst (v := 0) hX dX5_readTape_42 (by decide) (RR.pc (b := 43) rfl ?_)
        exact r_zret hX hZ dX5_readTape_43 (by first | rfl | exact nar_bz _) ⟨_, rfl, (by first | exact ⟨(bz_f (fun z => hno (of_decide_eq_true z))).symm, hp2.2.1.1, (hpf1.tr hpf).tr hpf2, fun z => absurd (of_decide_eq_true z) hno⟩ | exact ⟨(bz_t (decide_eq_true hyes)).symm, hp2.2.1.1, (hpf1.tr hpf).tr hpf2, fun _ => ⟨k3, hp2.2.2⟩⟩)⟩
      · have hok1 := hok R.2 (by omega) hV1 (by rw [← h28])
        have hyes : (R.1 = true ∧ R.2.1 = 0) := ⟨h28, (nI_eq (b := 0) (by have := hok1.1.2.2.1; omega) (by omega)).mp h35⟩
        refine r_iconst (v := 1) hX dX5_readTape_38 (by decide) (RR.pc (b := 39) rfl ?_)
        refine r_goto (tgt := 43) hX dX5_readTape_39 rfl ?_
        exact r_zret hX hZ dX5_readTape_43 (by first | rfl | exact nar_bz _) ⟨_, rfl, (by first | exact ⟨(bz_f (fun z => hno (of_decide_eq_true z))).symm, hp2.2.1.1, (hpf1.tr hpf).tr hpf2, fun z => absurd (of_decide_eq_true z) hno⟩ | exact ⟨(bz_t (decide_eq_true hyes)).symm, hp2.2.1.1, (hpf1.tr hpf).tr hpf2, fun _ => ⟨k3, hp2.2.2⟩⟩)⟩
/-- the text that is told -/
def prT (tp : Nat → Int32) (L : Nat) : Tx := (nI (prF tp L).2.1, nI (prF tp L).2.2.2.2.2.1, (prF tp L).2.2.2.2.2.2)
theorem prT_ok {tp : Nat → Int32} {L : Nat} (hL : L ≤ 96) (h : (prF tp L).1 = true) : okT (prT tp L) ∧ (prF tp L).2.1 < 3 := by
  have hV0 := st0_VS (tp := tp) (L := L)
  obtain ⟨hV1, hb1⟩ := nx_VS (tp := tp) (L := L) (st := st0 tp L) hV0.2.1
  unfold prT
  cases hk : kyF tp (st0 tp L) with
  | none =>
    have eP : prF tp L = (false, 0, st0 tp L) := by unfold prF; rw [hk]
    rw [eP] at h
    exact absurd h (by simp)
  | some k =>
    have eP : prF tp L = (decide ((ps tp L (nI k) 1300 0 0 0 (nx tp L (st0 tp L))).1 = true ∧ (ps tp L (nI k) 1300 0 0 0 (nx tp L (st0 tp L))).2.1 = 0), k, (ps tp L (nI k) 1300 0 0 0 (nx tp L (st0 tp L))).2) := by unfold prF; rw [hk]
    have k3 : k < 3 := by
      unfold kyF at hk
      split at hk
      · cases hk; decide
      · split at hk
        · cases hk; decide
        · split at hk
          · cases hk; decide
          · cases hk
    rw [eP] at h ⊢
    have h1 := of_decide_eq_true h
    have hok := ps_ok (tp := tp) (L := L) (key := nI k) 1300 0 0 0 (nx tp L (st0 tp L))
    generalize ps tp L (nI k) 1300 0 0 0 (nx tp L (st0 tp L)) = R at h1 hok
    obtain ⟨v1, a1, a2, new, b1, b2, b3, b4, -⟩ := hok R.2 (by omega) hV1 (by rw [← h1.1])
    have e0 : (nx tp L (st0 tp L)).2.2.2.2 = [] := rfl
    rw [e0, List.nil_append] at b1
    have hv := v1.1
    refine ⟨⟨k012 k k3, ?_, ?_, ?_⟩, k3⟩
    · show hgt R.2.2.2.2.2 0 = some 1
      rw [b1]
      exact b4 (by omega) 0
    · show R.2.2.2.2.2.length ≤ 96
      rw [b1]
      omega
    · show ∀ q ∈ R.2.2.2.2.2, okS (nI k) q
      rw [b1]
      exact b3
def updT (Ts : Nat → Tx) (nt : Nat) (T : Tx) : Nat → Tx := fun t => if t = nt then T else Ts t
theorem cnt_congr {Ts Ts' : Nat → Tx} {key : Int32} : ∀ {n : Nat}, (∀ t, t < n → Ts' t = Ts t) → cnt Ts' key n = cnt Ts key n := by
  intro n
  induction n with
  | zero => intro _; rfl
  | succ n ih =>
    intro h
    unfold cnt
    rw [h n (by omega), ih (fun t ht => h t (by omega))]
theorem cnt_updT {Ts : Nat → Tx} {nt : Nat} {T : Tx} {key : Int32} : cnt (updT Ts nt T) key (nt + 1) = if T.1 = key then some nt else cnt Ts key nt := by
  rw [cnt, show updT Ts nt T nt = T from if_pos rfl, cnt_congr (Ts := Ts) (Ts' := updT Ts nt T) (fun t ht => if_neg (by omega))]
def bcT (f : Nat → Int32) (t : Nat) : Nat → Int32 := upd (upd (upd (cpR f f 1400 (100 * t) 96) (100 * t + 96) (f 1496)) (100 * t + 97) (f 1497)) (100 * t + 98) (f 1498)
set_option maxHeartbeats 4000000 in
set_option maxRecDepth 100000 in
theorem c_X4_become {G : GM} {σ : SG} {t : Nat} (ht : t < 14) : CU G yX4_become cX4_become 2 none 1 [rf G (3 + 2 * t), rf G 34] σ (fun s => s = sr σ 3 (bcT (σ 3) t)) := by
  refine Con.of cd_X4_become (Nat.le_of_ble_eq_true rfl) ?_
  intro X hX hZ
  have hX : Fx X G RX4 cX4_become 2 1 := hX
  show RR X G 2 0 (ll [(0, rf G (3 + 2 * t)), (1, rf G 34)]) [] σ
  obtain ⟨m1, m2⟩ := layT ht
  have c0 : ∀ i, 1400 ≤ i → cpR (σ 3) (σ 3) 1400 (100 * t) 96 i = σ 3 i := fun i hi => by unfold cpR; rw [if_neg (by omega)]
  refine r_aload_n hX dX4_become_0 rfl ⟨_, rfl⟩ (RR.pc (b := 1) rfl ?_)
  refine r_getr hX dX4_become_1 fl_X4_11 (by first | rfl | assumption) rfl (RR.pc (b := 4) rfl ?_)
  refine r_iconst (v := 0) hX dX4_become_4 (by decide) (RR.pc (b := 5) rfl ?_)
  refine r_aload_n hX dX4_become_5 rfl ⟨_, rfl⟩ (RR.pc (b := 6) rfl ?_)
  refine r_getr hX dX4_become_6 fl_X4_11 (by first | rfl | assumption) rfl (RR.pc (b := 9) rfl ?_)
  refine r_iconst (v := 0) hX dX4_become_9 (by decide) (RR.pc (b := 10) rfl ?_)
  refine r_bipush (v := 96) hX dX4_become_10 (by decide) (RR.pc (b := 12) rfl ?_)
  refine r_copy hX (by decide) dX4_become_12 ml_X4_28 lay35 m2 (by decide) (by decide) (by decide) (by decide) (by decide) (by decide) (Nat.le_of_ble_eq_true rfl) rfl rfl rfl (RR.pc (b := 15) rfl ?_)
  refine r_aload_n hX dX4_become_15 rfl ⟨_, rfl⟩ (RR.pc (b := 16) rfl ?_)
  refine r_aload_n hX dX4_become_16 rfl ⟨_, rfl⟩ (RR.pc (b := 17) rfl ?_)
  refine r_geti hX dX4_become_17 fl_X4_22 (by first | rfl | assumption) rfl (RR.pc (b := 20) rfl ?_)
  refine r_puti hX dX4_become_20 fl_X4_22 (by first | rfl | assumption) rfl ft_4_1 (RR.pc (b := 23) rfl ?_)
  refine r_aload_n hX dX4_become_23 rfl ⟨_, rfl⟩ (RR.pc (b := 24) rfl ?_)
  refine r_aload_n hX dX4_become_24 rfl ⟨_, rfl⟩ (RR.pc (b := 25) rfl ?_)
  refine r_geti hX dX4_become_25 fl_X4_18 (by first | rfl | assumption) rfl (RR.pc (b := 28) rfl ?_)
  refine r_puti hX dX4_become_28 fl_X4_18 (by first | rfl | assumption) rfl ft_4_2 (RR.pc (b := 31) rfl ?_)
  refine r_aload_n hX dX4_become_31 rfl ⟨_, rfl⟩ (RR.pc (b := 32) rfl ?_)
  refine r_aload_n hX dX4_become_32 rfl ⟨_, rfl⟩ (RR.pc (b := 33) rfl ?_)
  refine r_geti hX dX4_become_33 fl_X4_25 (by first | rfl | assumption) rfl (RR.pc (b := 36) rfl ?_)
  refine r_puti hX dX4_become_36 fl_X4_25 (by first | rfl | assumption) rfl ft_4_3 (RR.pc (b := 39) rfl ?_)
  exact r_vret hX hZ dX4_become_39 ⟨rfl, by simp only [su, sr_eq, sr_sr, Nat.add_zero]; unfold bcT; rw [c0 1496 (by omega), pk_un (show (1497 : Nat) ≠ 100 * t + 96 by omega), c0 1497 (by omega), pk_un (show (1498 : Nat) ≠ 100 * t + 97 by omega), pk_un (show (1498 : Nat) ≠ 100 * t + 96 by omega), c0 1498 (by omega)]⟩
theorem bcT_self {f : Nat → Int32} {t : Nat} {T : Tx} (ht : t < 14) (h : TC f 14 T) (hl : T.2.2.length ≤ 96) : TC (bcT f t) t T := by
  obtain ⟨h1, h2, h3, h4⟩ := h
  unfold bcT
  refine ⟨?_, ?_, ?_, fun k hk => ?_⟩
  · rw [pk_un (by omega), pk_un (by omega), pk_us]; exact h1
  · rw [pk_un (by omega), pk_us]; exact h2
  · rw [pk_us]; exact h3
  · rw [pk_un (by omega), pk_un (by omega), pk_un (by omega)]
    unfold cpR
    rw [if_pos (by omega), show 1400 + (100 * t + k - 100 * t) = 100 * 14 + k by omega]
    exact h4 k hk
theorem bcT_other {f g : Nat → Int32} {t t' : Nat} {T : Tx} (ht : t < 14) (ht' : t' < 14) (hne : t' ≠ t) (e : ∀ i, i < 1400 → g i = f i) (h : TC f t' T) (hl : T.2.2.length ≤ 96) : TC (bcT g t) t' T := by
  have q : ∀ i, i < 1400 → (i < 100 * t ∨ 100 * t + 99 ≤ i) → bcT g t i = f i := by
    intro i hi hh
    unfold bcT
    rw [pk_un (by omega), pk_un (by omega), pk_un (by omega)]
    unfold cpR
    rw [if_neg (by omega)]
    exact e i hi
  obtain ⟨h1, h2, h3, h4⟩ := h
  exact ⟨by rw [q _ (by omega) (by omega)]; exact h1, by rw [q _ (by omega) (by omega)]; exact h2, by rw [q _ (by omega) (by omega)]; exact h3, fun k hk => by rw [q _ (by omega) (by omega)]; exact h4 k hk⟩
theorem TC.congr {f g : Nat → Int32} {t : Nat} {T : Tx} (ht : t < 14) (h : TC f t T) (hl : T.2.2.length ≤ 96) (e : ∀ i, i < 1400 → g i = f i) : TC g t T := by
  obtain ⟨h1, h2, h3, h4⟩ := h
  exact ⟨by rw [e _ (by omega)]; exact h1, by rw [e _ (by omega)]; exact h2, by rw [e _ (by omega)]; exact h3, fun k hk => by rw [e _ (by omega)]; exact h4 k hk⟩
/-- what text() does to the world, by the class -/
def txW (w : Nat → Int32) (key nt : Nat) : Nat → Int32 := upd (upd w (171 + key) (nI nt)) 1 (nI (nt + 1))
set_option maxHeartbeats 4000000 in
set_option maxRecDepth 100000 in
theorem c_X7_text {G : GM} {σ : SG} {tp : Nat → Int32} {L nt : Nat} {Ts : Nat → Tx} (hT : TP σ tp L) (hC : CT (σ 3) (σ 0) Ts nt) : CI G yX7_text cX7_text 3 (some .int) 98 [rf G 0] σ (fun r s => same [0, 3, 5, 6] σ s ∧ s 5 = upd (σ 5) 96 0 ∧ (¬ (prF tp L).1 = true → r = -100 - nI (prF tp L).2.2.2.1 ∧ s 0 = σ 0 ∧ ∀ i, i < 1400 → s 3 i = σ 3 i) ∧ ((prF tp L).1 = true → (nt = 14 → r = vFULL ∧ s 0 = σ 0 ∧ ∀ i, i < 1400 → s 3 i = σ 3 i) ∧ (nt < 14 → r = nI nt ∧ s 0 = txW (σ 0) (prF tp L).2.1 nt ∧ CT (s 3) (s 0) (updT Ts nt (prT tp L)) (nt + 1) ∧ ∀ t, t < nt → TC (s 3) t (Ts t)))) := by
  refine Con.of cd_X7_text (Nat.le_of_ble_eq_true rfl) ?_
  intro X hX hZ
  have hX : Fx X G RX7 cX7_text 3 98 := hX
  show RR X G 3 0 (ll [(0, rf G 0)]) [] σ
  have h96 := hT.1
  have h14 := hC.2.1
  have hpo := prT_ok (tp := tp) (L := L) h96
  have eT : prT tp L = (nI (prF tp L).2.1, nI (prF tp L).2.2.2.2.2.1, (prF tp L).2.2.2.2.2.2) := rfl
  refine r_aload_n hX dX7_text_0 rfl ⟨_, rfl⟩ (RR.pc (b := 1) rfl ?_)
  refine r_getr hX dX7_text_1 fl_X7_30 (by first | rfl | assumption) rfl (RR.pc (b := 4) rfl ?_)
  refine r_callVi hX dX7_text_4 ml_X7_227 cd_X5_readTape iv_X5_readTape (c_X5_readTape (tp := tp) (L := L) hT) (by decide) (by first | rfl | assumption) rfl rfl rfl rfl (Nat.le_of_ble_eq_true rfl) (fun r_4 s_4 e_4 => RR.pc (b := 7) rfl ?_)
  obtain ⟨rfl, h6, hpf, hyes⟩ := e_4
  rw [← eT] at hyes
  generalize prT tp L = T at hpo hyes hZ eT
  generalize prF tp L = P at h6 hyes hpo hZ eT
  have w0 := hpf.1 0 (by decide)
  have w5 := hpf.1 5 (by decide)
  have eq5 : (su s_4 5 96 0) 5 = upd (σ 5) 96 0 := by rw [su_eq, w5]
  have hsm : same [0, 3, 5, 6] σ (su s_4 5 96 0) := (hpf.1.mono (by simp)).su (by simp)
  by_cases hP : P.1 = true
  · obtain ⟨k3, hTC⟩ := hyes hP
    obtain ⟨hok, -⟩ := hpo hP
    have ek : s_4 3 1497 = nI P.2.1 := by rw [show s_4 3 1497 = T.1 from hTC.2.1, eT]
    rw [bz_t hP]
    by_cases n14 : nt = 14
    · skip
      refine r_istore_n hX dX7_text_7 (by decide) (RR.pc (b := 8) rfl ?_)
      refine r_aload_n hX dX7_text_8 rfl ⟨_, rfl⟩ (RR.pc (b := 9) rfl ?_)
      refine r_getr hX dX7_text_9 fl_X7_21 (by first | rfl | assumption) rfl (RR.pc (b := 12) rfl ?_)
      refine r_iconst (v := 0) hX dX7_text_12 (by decide) (RR.pc (b := 13) rfl ?_)
      refine r_puti hX dX7_text_13 fl_X7_221 (by first | rfl | assumption) rfl ft_3_1 (RR.pc (b := 16) rfl ?_)
      refine r_iload_n (i := 0) hX dX7_text_16 rfl (RR.pc (b := 17) rfl ?_)
      refine r_if_ne (tgt := 31) hX dX7_text_17 rfl (fun h17 => ?_) (fun h17 => absurd h17 (by decide))
      refine r_aload_n hX dX7_text_31 rfl ⟨_, rfl⟩ (RR.pc (b := 32) rfl ?_)
      refine r_getr hX dX7_text_32 fl_X7_39 (by first | rfl | assumption) rfl (RR.pc (b := 35) rfl ?_)
      refine r_geti hX dX7_text_35 fl_X7_233 (by first | rfl | assumption) rfl (RR.pc (b := 38) rfl ?_)
      rw [su_ne (by decide), w0, hC.1, n14]
      refine r_bipush (v := 14) hX dX7_text_38 (by decide) (RR.pc (b := 40) rfl ?_)
      refine r_icmp_lt (tgt := 46) hX dX7_text_40 rfl (fun h40 => absurd h40 (nI_nlt (a := 14) (b := 14) (by omega) (by omega))) (fun h40 => RR.pc (b := 43) rfl ?_)
      refine r_ldc hX dX7_text_43 kc_X7_80 (RR.pc (b := 45) rfl ?_)
      exact r_iret hX hZ dX7_text_45 ⟨_, rfl, ⟨hsm, eq5, fun z => absurd hP z, fun _ => ⟨fun _ => ⟨rfl, by rw [su_ne (by decide)]; exact w0, fun i hi => by rw [su_ne (by decide)]; exact hpf.2 i hi⟩, fun z => absurd n14 (by omega)⟩⟩⟩
    · have nl : nt < 14 := by omega
      obtain ⟨m1, m2⟩ := layT nl
      refine r_istore_n hX dX7_text_7 (by decide) (RR.pc (b := 8) rfl ?_)
      refine r_aload_n hX dX7_text_8 rfl ⟨_, rfl⟩ (RR.pc (b := 9) rfl ?_)
      refine r_getr hX dX7_text_9 fl_X7_21 (by first | rfl | assumption) rfl (RR.pc (b := 12) rfl ?_)
      refine r_iconst (v := 0) hX dX7_text_12 (by decide) (RR.pc (b := 13) rfl ?_)
      refine r_puti hX dX7_text_13 fl_X7_221 (by first | rfl | assumption) rfl ft_3_1 (RR.pc (b := 16) rfl ?_)
      refine r_iload_n (i := 0) hX dX7_text_16 rfl (RR.pc (b := 17) rfl ?_)
      refine r_if_ne (tgt := 31) hX dX7_text_17 rfl (fun h17 => ?_) (fun h17 => absurd h17 (by decide))
      refine r_aload_n hX dX7_text_31 rfl ⟨_, rfl⟩ (RR.pc (b := 32) rfl ?_)
      refine r_getr hX dX7_text_32 fl_X7_39 (by first | rfl | assumption) rfl (RR.pc (b := 35) rfl ?_)
      refine r_geti hX dX7_text_35 fl_X7_233 (by first | rfl | assumption) rfl (RR.pc (b := 38) rfl ?_)
      rw [su_ne (by decide), w0, hC.1]
      refine r_bipush (v := 14) hX dX7_text_38 (by decide) (RR.pc (b := 40) rfl ?_)
      refine r_icmp_lt (tgt := 46) hX dX7_text_40 rfl (fun h40 => ?_) (fun h40 => absurd (nI_lt (b := 14) nl (by omega)) h40)
      refine r_aload_n hX dX7_text_46 rfl ⟨_, rfl⟩ (RR.pc (b := 47) rfl ?_)
      refine r_getr hX dX7_text_47 fl_X7_39 (by first | rfl | assumption) rfl (RR.pc (b := 50) rfl ?_)
      refine r_geti hX dX7_text_50 fl_X7_233 (by first | rfl | assumption) rfl (RR.pc (b := 53) rfl ?_)
      rw [su_ne (by decide), w0, hC.1]
      refine r_istore_n hX dX7_text_53 (by decide) (RR.pc (b := 54) rfl ?_)
      refine r_aload_n hX dX7_text_54 rfl ⟨_, rfl⟩ (RR.pc (b := 55) rfl ?_)
      refine r_getr hX dX7_text_55 fl_X7_11 (by first | rfl | assumption) rfl (RR.pc (b := 58) rfl ?_)
      refine r_iload_n (i := 0) hX dX7_text_58 rfl (RR.pc (b := 59) rfl ?_)
      refine r_aald hX dX7_text_59 (by first | rfl | assumption) ⟨_, rfl⟩ (j := nt) rfl nl (by decide) (RR.pc (b := 60) rfl ?_)
      refine r_aload_n hX dX7_text_60 rfl ⟨_, rfl⟩ (RR.pc (b := 61) rfl ?_)
      refine r_getr hX dX7_text_61 fl_X7_30 (by first | rfl | assumption) rfl (RR.pc (b := 64) rfl ?_)
      refine r_getr hX dX7_text_64 fl_X7_236 (by first | rfl | assumption) rfl (RR.pc (b := 67) rfl ?_)
      refine r_callVve hX dX7_text_67 ml_X7_240 cd_X4_become iv_X4_become (c_X4_become nl) (by decide) (by first | rfl | assumption) rfl rfl rfl rfl (Nat.le_of_ble_eq_true rfl) (RR.pc (b := 70) rfl ?_)
      refine r_aload_n hX dX7_text_70 rfl ⟨_, rfl⟩ (RR.pc (b := 71) rfl ?_)
      refine r_getr hX dX7_text_71 fl_X7_39 (by first | rfl | assumption) rfl (RR.pc (b := 74) rfl ?_)
      refine r_getr hX dX7_text_74 fl_X7_243 (by first | rfl | assumption) rfl (RR.pc (b := 77) rfl ?_)
      refine r_aload_n hX dX7_text_77 rfl ⟨_, rfl⟩ (RR.pc (b := 78) rfl ?_)
      refine r_getr hX dX7_text_78 fl_X7_30 (by first | rfl | assumption) rfl (RR.pc (b := 81) rfl ?_)
      refine r_getr hX dX7_text_81 fl_X7_236 (by first | rfl | assumption) rfl (RR.pc (b := 84) rfl ?_)
      refine r_geti hX dX7_text_84 fl_X7_246 (by first | rfl | assumption) rfl (RR.pc (b := 87) rfl ?_)
      rw [sr_eq, su_ne (by decide), show bcT (s_4 3) nt 1497 = nI P.2.1 from by unfold bcT; rw [pk_un (by omega), pk_un (by omega), pk_un (by omega)]; unfold cpR; rw [if_neg (by omega)]; exact ek]
      refine r_iload_n (i := 0) hX dX7_text_87 rfl (RR.pc (b := 88) rfl ?_)
      refine r_iast hX dX7_text_88 (by first | rfl | assumption) (j := P.2.1) rfl k3 (by first | decide | omega) (by first | exact Nat.zero_add _ | rfl) (RR.pc (b := 89) rfl ?_)
      refine r_aload_n hX dX7_text_89 rfl ⟨_, rfl⟩ (RR.pc (b := 90) rfl ?_)
      refine r_getr hX dX7_text_90 fl_X7_39 (by first | rfl | assumption) rfl (RR.pc (b := 93) rfl ?_)
      refine r_iload_n (i := 0) hX dX7_text_93 rfl (RR.pc (b := 94) rfl ?_)
      refine r_iconst (v := 1) hX dX7_text_94 (by decide) (RR.pc (b := 95) rfl ?_)
      refine r_iadd hX dX7_text_95 (RR.pc (b := 96) rfl ?_)
      rw [nI_1]
      have e0 : (su (su (sr (su s_4 5 96 0) 3 (bcT (s_4 3) nt)) 0 (171 + P.2.1) (nI nt)) 0 1 (nI (nt + 1))) 0 = txW (σ 0) P.2.1 nt := by
        rw [su_eq, su_eq, sr_ne (by decide), su_ne (by decide), w0]
        rfl
      have e3 : (su (su (sr (su s_4 5 96 0) 3 (bcT (s_4 3) nt)) 0 (171 + P.2.1) (nI nt)) 0 1 (nI (nt + 1))) 3 = bcT (s_4 3) nt := by
        rw [su_ne (by decide), su_ne (by decide), sr_eq]
      have e5 : (su (su (sr (su s_4 5 96 0) 3 (bcT (s_4 3) nt)) 0 (171 + P.2.1) (nI nt)) 0 1 (nI (nt + 1))) 5 = upd (σ 5) 96 0 := by
        rw [su_ne (by decide), su_ne (by decide), sr_ne (by decide)]
        exact eq5
      have hold : ∀ t, t < nt → TC (bcT (s_4 3) nt) t (Ts t) := fun t ht => bcT_other nl (by omega) (by omega) hpf.2 (hC.2.2.2 t ht).1 (hC.2.2.2 t ht).2.2.2.1
      have hCT : CT (bcT (s_4 3) nt) (txW (σ 0) P.2.1 nt) (updT Ts nt T) (nt + 1) := by
        refine ⟨pk_us, by omega, fun k hk => ?_, fun t ht => ?_⟩
        · rw [cnt_updT, show T.1 = nI P.2.1 from by rw [eT]]
          unfold txW
          rw [pk_un (by omega)]
          by_cases e : k = P.2.1
          · rw [e, pk_us, if_pos rfl]; rfl
          · rw [pk_un (by omega), if_neg (fun z => e ((nI_eq (by omega) (by omega)).mp z).symm)]
            exact hC.2.2.1 k hk
        · unfold updT
          by_cases e : t = nt
          · rw [if_pos e, e]
            exact ⟨bcT_self nl hTC hok.2.2.1, hok⟩
          · rw [if_neg e]
            exact ⟨hold t (by omega), (hC.2.2.2 t (by omega)).2⟩
      refine r_puti hX dX7_text_96 fl_X7_233 (by first | rfl | assumption) rfl ft_6_12 (RR.pc (b := 99) rfl ?_)
      refine r_iload_n (i := 0) hX dX7_text_99 rfl (RR.pc (b := 100) rfl ?_)
      exact r_iret hX hZ dX7_text_100 ⟨_, rfl, ⟨((hsm.sr (by simp)).su (by simp)).su (by simp), e5, fun z => absurd hP z, fun _ => ⟨fun z => absurd z n14, fun _ => ⟨rfl, e0, by rw [e0, e3]; exact hCT, fun t ht => by rw [e3]; exact hold t ht⟩⟩⟩⟩
  · rw [bz_f hP]
    refine r_istore_n hX dX7_text_7 (by decide) (RR.pc (b := 8) rfl ?_)
    refine r_aload_n hX dX7_text_8 rfl ⟨_, rfl⟩ (RR.pc (b := 9) rfl ?_)
    refine r_getr hX dX7_text_9 fl_X7_21 (by first | rfl | assumption) rfl (RR.pc (b := 12) rfl ?_)
    refine r_iconst (v := 0) hX dX7_text_12 (by decide) (RR.pc (b := 13) rfl ?_)
    refine r_puti hX dX7_text_13 fl_X7_221 (by first | rfl | assumption) rfl ft_3_1 (RR.pc (b := 16) rfl ?_)
    refine r_iload_n (i := 0) hX dX7_text_16 rfl (RR.pc (b := 17) rfl ?_)
    refine r_if_ne (tgt := 31) hX dX7_text_17 rfl (fun h17 => absurd rfl h17) (fun h17 => RR.pc (b := 20) rfl ?_)
    refine r_bipush (v := -100) hX dX7_text_20 (by decide) (RR.pc (b := 22) rfl ?_)
    refine r_aload_n hX dX7_text_22 rfl ⟨_, rfl⟩ (RR.pc (b := 23) rfl ?_)
    refine r_getr hX dX7_text_23 fl_X7_30 (by first | rfl | assumption) rfl (RR.pc (b := 26) rfl ?_)
    refine r_geti hX dX7_text_26 fl_X7_230 (by first | rfl | assumption) rfl (RR.pc (b := 29) rfl ?_)
    rw [su_ne (by decide), h6]
    refine r_isub hX dX7_text_29 (RR.pc (b := 30) rfl ?_)
    exact r_iret hX hZ dX7_text_30 ⟨_, rfl, ⟨hsm, eq5, fun _ => ⟨rfl, by rw [su_ne (by decide)]; exact w0, fun i hi => by rw [su_ne (by decide)]; exact hpf.2 i hi⟩, fun z => absurd z hP⟩⟩
