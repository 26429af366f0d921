/-! the reference: text -/
def laA (nt : Nat) : Nat := if nt < 14 then 171 + 200 * nt + 4 else 2971
theorem laA_le {nt : Nat} (h : nt ≤ 14) : laA nt ≤ 2971 ∧ 171 ≤ laA nt ∧ 171 + 200 * nt ≤ laA nt := by
  unfold laA
  split <;> omega
theorem prF_some {tp : Nat → Int32} {L k : Nat} (hk : kyF tp (st0 tp L) = some k) : prF tp L = (decide ((ps tp L (nI k) 1300 0 0 0 (nx tp L (st0 tp L))).1 = true ∧ (ps tp L (nI k) 1300 0 0 0 (nx tp L (st0 tp L))).2.1 = 0), k, (ps tp L (nI k) 1300 0 0 0 (nx tp L (st0 tp L))).2) := by unfold prF; rw [hk]
theorem prF_none {tp : Nat → Int32} {L : Nat} (hk : kyF tp (st0 tp L) = none) : prF tp L = (false, 0, st0 tp L) := by unfold prF; rw [hk]
theorem kyF_lt {tp : Nat → Int32} {st : St} {k : Nat} (hk : kyF tp st = some k) : k < 3 := by
  unfold kyF at hk
  split at hk
  · cases hk; decide
  · split at hk
    · cases hk; decide
    · split at hk
      · cases hk; decide
      · cases hk
set_option maxHeartbeats 4000000 in
set_option maxRecDepth 100000 in
theorem c_X8_parse {G : GM} {σ : SG} {tp : Nat → Int32} {L nt : Nat} (hT : TPR σ tp L) (hN : σ 20 1 = nI nt) (h14 : nt ≤ 14) : CI G yX8_parse cX8_parse 3 (some .int) 96 [rf G 109] σ (fun r s => r = (if (prF tp L).1 = true then nI (prF tp L).2.1 else -1) ∧ s 38 2 = nI (prF tp L).2.2.2.1 ∧ s 38 1 = 0 ∧ s 38 0 = σ 38 0 ∧ s 38 12 = σ 38 12 ∧ same [20, 38] σ s ∧ (∀ i, i < laA nt → s 20 i = σ 20 i) ∧ ((prF tp L).1 = true → s 38 9 = nI (prF tp L).2.2.2.2.2.2.length ∧ s 38 11 = nI (prF tp L).2.2.2.2.2.1 ∧ ∀ j, j < (prF tp L).2.2.2.2.2.2.length → s 20 (laA nt + 2 * j) = ((prF tp L).2.2.2.2.2.2.getD j (0, 0)).1 ∧ s 20 (laA nt + 2 * j + 1) = ((prF tp L).2.2.2.2.2.2.getD j (0, 0)).2)) := by
  refine Con.of cd_X8_parse (Nat.le_of_ble_eq_true rfl) ?_
  intro X hX hZ
  have hX : Fx X G RX8 cX8_parse 3 96 := hX
  show RR X G 3 0 (ll [(0, rf G 109)]) [] σ
  have h96 := hT.1
  obtain ⟨ha, ha2, -⟩ := laA_le h14
  have hV0 := st0_VS (tp := tp) (L := L)
  obtain ⟨hV1, hb1⟩ := nx_VS (tp := tp) (L := L) (st := st0 tp L) hV0.2.1
  have t60 : ∀ τ : SG, same [38] σ τ → τ 38 0 = σ 38 0 → τ 38 1 = σ 38 1 → τ 38 12 = σ 38 12 → τ 38 3 = nI 0 → τ 38 4 = nI 3 → τ 38 7 = nI 0 → τ 38 8 = nI 0 → τ 38 9 = nI 0 → τ 38 11 = nI 0 → RR X G 3 60 (ll [(0, rf G 109)]) [.int (nI (laA nt)), rf G 109] τ := by
    intro τ hs z0 z1 z12 z3 z4 z7 z8 z9 z11
    have hT1 : TPR (su τ 38 10 (nI (laA nt))) tp L := ⟨hT.1, by rw [su_eq, pk_un (by decide), z1]; exact hT.2.1, by rw [su_ne (by decide), hs 32 (by decide)]; exact hT.2.2.1, hT.2.2.2⟩
    refine r_puti hX dX8_parse_60 fl_X8_221 (by first | rfl | assumption) rfl ft_8_23 (RR.pc (b := 63) rfl ?_)
    refine r_aload_n hX dX8_parse_63 rfl ⟨_, rfl⟩ (RR.pc (b := 64) rfl ?_)
    refine r_callVv hX dX8_parse_64 ml_X8_233 cd_X8_nextToken iv_X8_nextToken (c_X8_nextToken (tp := tp) (L := L) (k := 1) (e := 0) hT1 (by rw [su_eq, pk_un (by decide)]; exact z3) (by rw [su_eq, pk_un (by decide)]; exact z4) (Nat.zero_le _) (by omega) (fun z => by omega)) (by decide) (by first | rfl | assumption) rfl rfl rfl rfl (Nat.le_of_ble_eq_true rfl) (fun s_64 e_64 => RR.pc (b := 67) rfl ?_)
    obtain ⟨hR, hf⟩ := e_64
    have hR : RK s_64 tp (st0 tp L).1 (st0 tp L).2.1 (st0 tp L).2.2.1 := hR
    have hT2 : TPR s_64 tp L := hT1.fr hf
    have f20 : s_64 20 = σ 20 := by rw [hf.1 20 (by decide), su_ne (by decide), hs 20 (by decide)]
    have hP0 : PSR tp L (laA nt) 0 0 s_64 (st0 tp L) := ⟨hT2, hR, by rw [hf.2 7 (by omega), su_eq, pk_un (by decide)]; exact z7, by rw [hf.2 8 (by omega), su_eq, pk_un (by decide)]; exact z8, by rw [hf.2 9 (by omega), su_eq, pk_un (by decide)]; exact z9, by rw [hf.2 10 (by omega), su_eq, pk_us], by rw [hf.2 11 (by omega), su_eq, pk_un (by decide)]; exact z11, fun j hj => absurd hj (Nat.not_lt_zero _)⟩
    have w0 : s_64 38 0 = σ 38 0 := by rw [hf.2 0 (by omega), su_eq, pk_un (by decide)]; exact z0
    have w12 : s_64 38 12 = σ 38 12 := by rw [hf.2 12 (by omega), su_eq, pk_un (by decide)]; exact z12
    have hs64 : same [20, 38] σ s_64 := ((hs.su (by simp)).tr hf.1).mono (by simp)
    refine r_aload_n hX dX8_parse_67 rfl ⟨_, rfl⟩ (RR.pc (b := 68) rfl ?_)
    refine r_callVie hX dX8_parse_68 ml_X8_270 cd_X8_key iv_X8_key (c_X8_key hT2 hR hV0) (by decide) (by first | rfl | assumption) rfl rfl rfl rfl (Nat.le_of_ble_eq_true rfl) (RR.pc (b := 71) rfl ?_)
    cases hk : kyF tp (st0 tp L) with
    | none =>
      rw [prF_none hk] at hZ
      show RR X G 3 71 _ [.int (-1)] s_64
      refine r_istore_n hX dX8_parse_71 (by decide) (RR.pc (b := 72) rfl ?_)
      refine r_iload_n (i := 0) hX dX8_parse_72 rfl (RR.pc (b := 73) rfl ?_)
      refine r_if_lt (tgt := 80) hX dX8_parse_73 rfl (fun h73 => ?_) (fun h73 => absurd (by decide) h73)
      refine r_iconst (v := 0) hX dX8_parse_80 (by decide) (RR.pc (b := 81) rfl ?_)
      refine r_istore_n hX dX8_parse_81 (by decide) (RR.pc (b := 82) rfl ?_)
      refine r_iload_n (i := 0) hX dX8_parse_82 rfl (RR.pc (b := 83) rfl ?_)
      refine r_if_eq (tgt := 111) hX dX8_parse_83 rfl (fun h83 => ?_) (fun h83 => absurd rfl h83)
      refine r_aload_n hX dX8_parse_111 rfl ⟨_, rfl⟩ (RR.pc (b := 112) rfl ?_)
      refine r_iconst (v := 0) hX dX8_parse_112 (by decide) (RR.pc (b := 113) rfl ?_)
      refine r_puti hX dX8_parse_113 fl_X8_184 (by first | rfl | assumption) rfl ft_8_14 (RR.pc (b := 116) rfl ?_)
      refine r_iload_n (i := 0) hX dX8_parse_116 rfl (RR.pc (b := 117) rfl ?_)
      refine r_if_eq (tgt := 124) hX dX8_parse_117 rfl (fun h117 => ?_) (fun h117 => absurd rfl h117)
      refine r_iconst (v := -1) hX dX8_parse_124 (by decide) (RR.pc (b := 125) rfl ?_)
      exact r_iret hX hZ dX8_parse_125 ⟨_, rfl, ⟨rfl, by rw [su_eq, pk_un (by decide)]; exact hR.1, by rw [su_eq, pk_us], by rw [su_eq, pk_un (by decide)]; exact w0, by rw [su_eq, pk_un (by decide)]; exact w12, hs64.su (by simp), fun i _ => by rw [su_ne (by decide), f20], fun z => absurd z (by simp)⟩⟩
    | some k =>
      have k3 := kyF_lt hk
      rw [prF_some hk] at hZ
      have iE := fun s => (all_R (G := G) (tp := tp) (L := L) (key := nI k) ha 1300).1.1 0 0 (nx tp L (st0 tp L)) s (by omega) (by omega) hV1 (Nat.zero_le _) (by omega)
      have hok := ps_ok (tp := tp) (L := L) (key := nI k) 1300 0 0 0 (nx tp L (st0 tp L))
      generalize ps tp L (nI k) 1300 0 0 0 (nx tp L (st0 tp L)) = R at hZ iE hok
      show RR X G 3 71 _ [.int (nI k)] s_64
      have t111 : ∀ (τ : SG) (g : Int32), (g = 1 ∧ R.1 = true ∧ R.2.1 = 0) ∨ (g = 0 ∧ ¬ (R.1 = true ∧ R.2.1 = 0)) → τ 38 2 = nI R.2.2.1 → PFR (laA nt) s_64 τ → (R.1 = true → PSR tp L (laA nt) 0 0 τ R.2) → RR X G 3 111 (ll [(0, rf G 109), (1, .int (nI k)), (2, .int g)]) [] τ := by
        intro τ g hg r2 hpf hp
        refine r_aload_n hX dX8_parse_111 rfl ⟨_, rfl⟩ (RR.pc (b := 112) rfl ?_)
        refine r_iconst (v := 0) hX dX8_parse_112 (by decide) (RR.pc (b := 113) rfl ?_)
        refine r_puti hX dX8_parse_113 fl_X8_184 (by first | rfl | assumption) rfl ft_8_14 (RR.pc (b := 116) rfl ?_)
        refine r_iload_n (i := 0) hX dX8_parse_116 rfl (RR.pc (b := 117) rfl ?_)
        refine r_if_eq (tgt := 124) hX dX8_parse_117 rfl (fun h117 => ?_) (fun h117 => RR.pc (b := 120) rfl ?_)
        · have hyes : ¬ (R.1 = true ∧ R.2.1 = 0) := hg.elim (fun z => absurd (z.1.symm.trans h117) (by decide)) (fun z => z.2)
          refine r_iconst (v := -1) hX dX8_parse_124 (by decide) (RR.pc (b := 125) rfl ?_)
          exact r_iret hX hZ dX8_parse_125 ⟨_, rfl, ⟨by first | exact (if_pos (decide_eq_true hyes)).symm | exact (if_neg (fun z => hyes (of_decide_eq_true z))).symm, by rw [su_eq, pk_un (by decide)]; exact r2, by rw [su_eq, pk_us], by rw [su_eq, pk_un (by decide), hpf.2.2.1]; exact w0, by rw [su_eq, pk_un (by decide), hpf.2.2.2.2]; exact w12, (hs64.tr hpf.1).su (by simp), fun i hi => by rw [su_ne (by decide), hpf.2.1 i hi, f20], fun z => by have hp2 := hp (of_decide_eq_true z).1; exact ⟨by rw [su_eq, pk_un (by decide)]; exact hp2.2.2.2.2.1, by rw [su_eq, pk_un (by decide)]; exact hp2.2.2.2.2.2.2.1, fun j hj => by rw [su_ne (by decide)]; exact hp2.2.2.2.2.2.2.2 j hj⟩⟩⟩
        · have hyes : (R.1 = true ∧ R.2.1 = 0) := hg.elim (fun z => z.2) (fun z => absurd z.1 h117)
          refine r_iload_n (i := 0) hX dX8_parse_120 rfl (RR.pc (b := 121) rfl ?_)
          refine r_goto (tgt := 125) hX dX8_parse_121 rfl ?_
          exact r_iret hX hZ dX8_parse_125 ⟨_, rfl, ⟨by first | exact (if_pos (decide_eq_true hyes)).symm | exact (if_neg (fun z => hyes (of_decide_eq_true z))).symm, by rw [su_eq, pk_un (by decide)]; exact r2, by rw [su_eq, pk_us], by rw [su_eq, pk_un (by decide), hpf.2.2.1]; exact w0, by rw [su_eq, pk_un (by decide), hpf.2.2.2.2]; exact w12, (hs64.tr hpf.1).su (by simp), fun i hi => by rw [su_ne (by decide), hpf.2.1 i hi, f20], fun z => by have hp2 := hp (of_decide_eq_true z).1; exact ⟨by rw [su_eq, pk_un (by decide)]; exact hp2.2.2.2.2.1, by rw [su_eq, pk_un (by decide)]; exact hp2.2.2.2.2.2.2.1, fun j hj => by rw [su_ne (by decide)]; exact hp2.2.2.2.2.2.2.2 j hj⟩⟩⟩
      refine r_istore_n hX dX8_parse_71 (by decide) (RR.pc (b := 72) rfl ?_)
      refine r_iload_n (i := 0) hX dX8_parse_72 rfl (RR.pc (b := 73) rfl ?_)
      refine r_if_lt (tgt := 80) hX dX8_parse_73 rfl (fun h73 => absurd h73 (nI_pos (by omega))) (fun h73 => RR.pc (b := 76) rfl ?_)
      refine r_iconst (v := 1) hX dX8_parse_76 (by decide) (RR.pc (b := 77) rfl ?_)
      refine r_goto (tgt := 81) hX dX8_parse_77 rfl ?_
      refine r_istore_n hX dX8_parse_81 (by decide) (RR.pc (b := 82) rfl ?_)
      refine r_iload_n (i := 0) hX dX8_parse_82 rfl (RR.pc (b := 83) rfl ?_)
      refine r_if_eq (tgt := 111) hX dX8_parse_83 rfl (fun h83 => absurd h83 (by decide)) (fun h83 => RR.pc (b := 86) rfl ?_)
      refine r_aload_n hX dX8_parse_86 rfl ⟨_, rfl⟩ (RR.pc (b := 87) rfl ?_)
      refine r_callVv hX dX8_parse_87 ml_X8_233 cd_X8_nextToken iv_X8_nextToken (c_nxt hP0 hV0) (by decide) (by first | rfl | assumption) rfl rfl rfl rfl (Nat.le_of_ble_eq_true rfl) (fun s_87 e_87 => RR.pc (b := 90) rfl ?_)
      obtain ⟨hp, hpf⟩ := e_87
      refine r_aload_n hX dX8_parse_90 rfl ⟨_, rfl⟩ (RR.pc (b := 91) rfl ?_)
      refine r_iload_n (i := 0) hX dX8_parse_91 rfl (RR.pc (b := 92) rfl ?_)
      refine r_callVi hX dX8_parse_92 ml_X8_264 cd_X8_either iv_X8_either (iE _ hp) (by decide) (by first | rfl | assumption) rfl rfl rfl rfl (Nat.le_of_ble_eq_true rfl) (fun r_92 s_92 e_92 => RR.pc (b := 95) rfl ?_)
      obtain ⟨rfl, hq, hpf2, hyes⟩ := e_92
      refine r_if_eq_b (tgt := 109) hX dX8_parse_95 rfl (fun h95 => ?_) (fun h95 => RR.pc (b := 98) rfl ?_)
      · refine r_iconst (v := 0) hX dX8_parse_109 (by decide) (RR.pc (b := 110) rfl ?_)
        refine r_istore_n hX dX8_parse_110 (by decide) (RR.pc (b := 111) rfl ?_)
        first | exact RR.cut (t111 _ 1 (Or.inl ⟨rfl, h95, q1.mp ((nI_eq (b := 0) (by omega) (by omega)).mp h102)⟩) hq (hpf.tr hpf2) hyes) (List.forall_mem_cons.mpr ⟨rfl, List.forall_mem_cons.mpr ⟨rfl, List.forall_mem_cons.mpr ⟨rfl, fun _ h => absurd h List.not_mem_nil⟩⟩⟩) | exact RR.cut (t111 _ 0 (Or.inr ⟨rfl, fun z => h102 (by rw [q1.mpr z.2]; rfl)⟩) hq (hpf.tr hpf2) hyes) (List.forall_mem_cons.mpr ⟨rfl, List.forall_mem_cons.mpr ⟨rfl, List.forall_mem_cons.mpr ⟨rfl, fun _ h => absurd h List.not_mem_nil⟩⟩⟩) | exact RR.cut (t111 _ 0 (Or.inr ⟨rfl, fun z => h95 z.1⟩) hq (hpf.tr hpf2) hyes) (List.forall_mem_cons.mpr ⟨rfl, List.forall_mem_cons.mpr ⟨rfl, List.forall_mem_cons.mpr ⟨rfl, fun _ h => absurd h List.not_mem_nil⟩⟩⟩)
      · have hp2 := hyes h95
        have hok1 := hok R.2 (by omega) hV1 (by rw [← h95])
        obtain ⟨q0, q1, -⟩ := tkR_le R.2.1 hok1.1.2.2.1
        refine r_aload_n hX dX8_parse_98 rfl ⟨_, rfl⟩ (RR.pc (b := 99) rfl ?_)
        refine r_geti hX dX8_parse_99 fl_X8_199 (by first | rfl | assumption) rfl (RR.pc (b := 102) rfl ?_)
        rw [hp2.2.1.2.2.1]
        refine r_if_ne (tgt := 109) hX dX8_parse_102 rfl (fun h102 => ?_) (fun h102 => RR.pc (b := 105) rfl ?_)
        · refine r_iconst (v := 0) hX dX8_parse_109 (by decide) (RR.pc (b := 110) rfl ?_)
          refine r_istore_n hX dX8_parse_110 (by decide) (RR.pc (b := 111) rfl ?_)
          first | exact RR.cut (t111 _ 1 (Or.inl ⟨rfl, h95, q1.mp ((nI_eq (b := 0) (by omega) (by omega)).mp h102)⟩) hq (hpf.tr hpf2) hyes) (List.forall_mem_cons.mpr ⟨rfl, List.forall_mem_cons.mpr ⟨rfl, List.forall_mem_cons.mpr ⟨rfl, fun _ h => absurd h List.not_mem_nil⟩⟩⟩) | exact RR.cut (t111 _ 0 (Or.inr ⟨rfl, fun z => h102 (by rw [q1.mpr z.2]; rfl)⟩) hq (hpf.tr hpf2) hyes) (List.forall_mem_cons.mpr ⟨rfl, List.forall_mem_cons.mpr ⟨rfl, List.forall_mem_cons.mpr ⟨rfl, fun _ h => absurd h List.not_mem_nil⟩⟩⟩) | exact RR.cut (t111 _ 0 (Or.inr ⟨rfl, fun z => h95 z.1⟩) hq (hpf.tr hpf2) hyes) (List.forall_mem_cons.mpr ⟨rfl, List.forall_mem_cons.mpr ⟨rfl, List.forall_mem_cons.mpr ⟨rfl, fun _ h => absurd h List.not_mem_nil⟩⟩⟩)
        · refine r_iconst (v := 1) hX dX8_parse_105 (by decide) (RR.pc (b := 106) rfl ?_)
          refine r_goto (tgt := 110) hX dX8_parse_106 rfl ?_
          refine r_istore_n hX dX8_parse_110 (by decide) (RR.pc (b := 111) rfl ?_)
          first | exact RR.cut (t111 _ 1 (Or.inl ⟨rfl, h95, q1.mp ((nI_eq (b := 0) (by omega) (by omega)).mp h102)⟩) hq (hpf.tr hpf2) hyes) (List.forall_mem_cons.mpr ⟨rfl, List.forall_mem_cons.mpr ⟨rfl, List.forall_mem_cons.mpr ⟨rfl, fun _ h => absurd h List.not_mem_nil⟩⟩⟩) | exact RR.cut (t111 _ 0 (Or.inr ⟨rfl, fun z => h102 (by rw [q1.mpr z.2]; rfl)⟩) hq (hpf.tr hpf2) hyes) (List.forall_mem_cons.mpr ⟨rfl, List.forall_mem_cons.mpr ⟨rfl, List.forall_mem_cons.mpr ⟨rfl, fun _ h => absurd h List.not_mem_nil⟩⟩⟩) | exact RR.cut (t111 _ 0 (Or.inr ⟨rfl, fun z => h95 z.1⟩) hq (hpf.tr hpf2) hyes) (List.forall_mem_cons.mpr ⟨rfl, List.forall_mem_cons.mpr ⟨rfl, List.forall_mem_cons.mpr ⟨rfl, fun _ h => absurd h List.not_mem_nil⟩⟩⟩)
  refine r_aload_n hX dX8_parse_0 rfl ⟨_, rfl⟩ (RR.pc (b := 1) rfl ?_)
  refine r_iconst (v := 0) hX dX8_parse_1 (by decide) (RR.pc (b := 2) rfl ?_)
  refine r_puti hX dX8_parse_2 fl_X8_196 (by first | rfl | assumption) rfl ft_8_16 (RR.pc (b := 5) rfl ?_)
  refine r_aload_n hX dX8_parse_5 rfl ⟨_, rfl⟩ (RR.pc (b := 6) rfl ?_)
  refine r_iconst (v := 3) hX dX8_parse_6 (by decide) (RR.pc (b := 7) rfl ?_)
  refine r_puti hX dX8_parse_7 fl_X8_199 (by first | rfl | assumption) rfl ft_8_17 (RR.pc (b := 10) rfl ?_)
  refine r_aload_n hX dX8_parse_10 rfl ⟨_, rfl⟩ (RR.pc (b := 11) rfl ?_)
  refine r_iconst (v := 0) hX dX8_parse_11 (by decide) (RR.pc (b := 12) rfl ?_)
  refine r_puti hX dX8_parse_12 fl_X8_261 (by first | rfl | assumption) rfl ft_8_20 (RR.pc (b := 15) rfl ?_)
  refine r_aload_n hX dX8_parse_15 rfl ⟨_, rfl⟩ (RR.pc (b := 16) rfl ?_)
  refine r_iconst (v := 0) hX dX8_parse_16 (by decide) (RR.pc (b := 17) rfl ?_)
  refine r_puti hX dX8_parse_17 fl_X8_258 (by first | rfl | assumption) rfl ft_8_21 (RR.pc (b := 20) rfl ?_)
  refine r_aload_n hX dX8_parse_20 rfl ⟨_, rfl⟩ (RR.pc (b := 21) rfl ?_)
  refine r_iconst (v := 0) hX dX8_parse_21 (by decide) (RR.pc (b := 22) rfl ?_)
  refine r_puti hX dX8_parse_22 fl_X8_224 (by first | rfl | assumption) rfl ft_8_22 (RR.pc (b := 25) rfl ?_)
  refine r_aload_n hX dX8_parse_25 rfl ⟨_, rfl⟩ (RR.pc (b := 26) rfl ?_)
  refine r_iconst (v := 0) hX dX8_parse_26 (by decide) (RR.pc (b := 27) rfl ?_)
  refine r_puti hX dX8_parse_27 fl_X8_252 (by first | rfl | assumption) rfl ft_8_24 (RR.pc (b := 30) rfl ?_)
  refine r_aload_n hX dX8_parse_30 rfl ⟨_, rfl⟩ (RR.pc (b := 31) rfl ?_)
  refine r_aload_n hX dX8_parse_31 rfl ⟨_, rfl⟩ (RR.pc (b := 32) rfl ?_)
  refine r_getr hX dX8_parse_32 fl_X8_7 (by first | rfl | assumption) rfl (RR.pc (b := 35) rfl ?_)
  refine r_iconst (v := 1) hX dX8_parse_35 (by decide) (RR.pc (b := 36) rfl ?_)
  refine r_iald hX dX8_parse_36 (by first | rfl | assumption) (j := 1) rfl (by decide) (by first | decide | omega) (by first | exact Nat.zero_add _ | rfl) (RR.pc (b := 37) rfl ?_)
  have hs6 : same [38] σ (su (su (su (su (su (su σ 38 3 0) 38 4 3) 38 7 0) 38 8 0) 38 9 0) 38 11 0) := (((((same.rf.su (by simp)).su (by simp)).su (by simp)).su (by simp)).su (by simp)).su (by simp)
  have e20 : (su (su (su (su (su (su σ 38 3 0) 38 4 3) 38 7 0) 38 8 0) 38 9 0) 38 11 0) 20 = σ 20 := hs6 20 (by decide)
  have v : ∀ i, i ≠ 3 → i ≠ 4 → i ≠ 7 → i ≠ 8 → i ≠ 9 → i ≠ 11 → (su (su (su (su (su (su σ 38 3 0) 38 4 3) 38 7 0) 38 8 0) 38 9 0) 38 11 0) 38 i = σ 38 i := by
    intro i i3 i4 i7 i8 i9 i11
    simp only [su_eq]
    rw [pk_un i11, pk_un i9, pk_un i8, pk_un i7, pk_un i4, pk_un i3]
  have v3 : (su (su (su (su (su (su σ 38 3 0) 38 4 3) 38 7 0) 38 8 0) 38 9 0) 38 11 0) 38 3 = nI 0 := by simp only [su_eq]; rw [pk_un (by decide), pk_un (by decide), pk_un (by decide), pk_un (by decide), pk_un (by decide), pk_us]; rfl
  have v4 : (su (su (su (su (su (su σ 38 3 0) 38 4 3) 38 7 0) 38 8 0) 38 9 0) 38 11 0) 38 4 = nI 3 := by simp only [su_eq]; rw [pk_un (by decide), pk_un (by decide), pk_un (by decide), pk_un (by decide), pk_us]; rfl
  have v7 : (su (su (su (su (su (su σ 38 3 0) 38 4 3) 38 7 0) 38 8 0) 38 9 0) 38 11 0) 38 7 = nI 0 := by simp only [su_eq]; rw [pk_un (by decide), pk_un (by decide), pk_un (by decide), pk_us]; rfl
  have v8 : (su (su (su (su (su (su σ 38 3 0) 38 4 3) 38 7 0) 38 8 0) 38 9 0) 38 11 0) 38 8 = nI 0 := by simp only [su_eq]; rw [pk_un (by decide), pk_un (by decide), pk_us]; rfl
  have v9 : (su (su (su (su (su (su σ 38 3 0) 38 4 3) 38 7 0) 38 8 0) 38 9 0) 38 11 0) 38 9 = nI 0 := by simp only [su_eq]; rw [pk_un (by decide), pk_us]; rfl
  have v11 : (su (su (su (su (su (su σ 38 3 0) 38 4 3) 38 7 0) 38 8 0) 38 9 0) 38 11 0) 38 11 = nI 0 := by simp only [su_eq]; rw [pk_us]; rfl
  have go := t60 _ hs6 (v 0 (by decide) (by decide) (by decide) (by decide) (by decide) (by decide)) (v 1 (by decide) (by decide) (by decide) (by decide) (by decide) (by decide)) (v 12 (by decide) (by decide) (by decide) (by decide) (by decide) (by decide)) v3 v4 v7 v8 v9 v11
  rw [e20, hN]
  generalize su (su (su (su (su (su σ 38 3 0) 38 4 3) 38 7 0) 38 8 0) 38 9 0) 38 11 0 = τ at e20 go
  by_cases n14 : nt < 14
  · have eA : laA nt = 171 + 200 * nt + 4 := if_pos n14
    rw [eA] at go
    refine r_bipush (v := 14) hX dX8_parse_37 (by decide) (RR.pc (b := 39) rfl ?_)
    refine r_icmp_ge (tgt := 57) hX dX8_parse_39 rfl (fun h39 => absurd h39 (nI_ge (b := 14) n14 (by omega))) (fun h39 => RR.pc (b := 42) rfl ?_)
    refine r_aload_n hX dX8_parse_42 rfl ⟨_, rfl⟩ (RR.pc (b := 43) rfl ?_)
    refine r_aload_n hX dX8_parse_43 rfl ⟨_, rfl⟩ (RR.pc (b := 44) rfl ?_)
    refine r_getr hX dX8_parse_44 fl_X8_7 (by first | rfl | assumption) rfl (RR.pc (b := 47) rfl ?_)
    refine r_iconst (v := 1) hX dX8_parse_47 (by decide) (RR.pc (b := 48) rfl ?_)
    refine r_iald hX dX8_parse_48 (by first | rfl | assumption) (j := 1) rfl (by decide) (by first | decide | omega) (by first | exact Nat.zero_add _ | rfl) (RR.pc (b := 49) rfl ?_)
    rw [e20, hN]
    refine r_callVie hX dX8_parse_49 ml_X8_267 cd_X8_textAt iv_X8_textAt (c_X8_textAt (t := nt)) (by decide) (by first | rfl | assumption) rfl rfl rfl rfl (Nat.le_of_ble_eq_true rfl) (RR.pc (b := 52) rfl ?_)
    refine r_iconst (v := 4) hX dX8_parse_52 (by decide) (RR.pc (b := 53) rfl ?_)
    rw [show (4 : Int32) = nI 4 from rfl]
    refine r_iadd hX dX8_parse_53 (RR.pc (b := 54) rfl ?_)
    rw [nI_add]
    refine r_goto (tgt := 60) hX dX8_parse_54 rfl ?_
    exact RR.cut go (List.forall_mem_cons.mpr ⟨rfl, fun _ h => absurd h List.not_mem_nil⟩)
  · have eA : laA nt = 2971 := if_neg n14
    rw [eA] at go
    refine r_bipush (v := 14) hX dX8_parse_37 (by decide) (RR.pc (b := 39) rfl ?_)
    refine r_icmp_ge (tgt := 57) hX dX8_parse_39 rfl (fun h39 => ?_) (fun h39 => absurd (nI_le (a := 14) (by omega) (by omega)) h39)
    refine r_sipush (v := 2971) hX dX8_parse_57 (by decide) (RR.pc (b := 60) rfl ?_)
    exact RR.cut go (List.forall_mem_cons.mpr ⟨rfl, fun _ h => absurd h List.not_mem_nil⟩)
theorem RT.keep {w w' : Nat → Int32} {Ts : Nat → Tx} {nt : Nat} (h : RT w Ts nt) (e : ∀ i, i < laA nt → w' i = w i) : RT w' Ts nt := by
  obtain ⟨h1, h2, h3⟩ := h
  obtain ⟨a1, a2, a3⟩ := laA_le h2
  refine ⟨by rw [e 1 (by omega)]; exact h1, h2, fun t ht => ?_⟩
  obtain ⟨⟨b1, b2, b3, b4⟩, ho⟩ := h3 t ht
  have hl := ho.2.2.1
  exact ⟨⟨by rw [e _ (by omega)]; exact b1, by rw [e _ (by omega)]; exact b2, by rw [e _ (by omega)]; exact b3, fun k hk => ⟨by rw [e _ (by omega)]; exact (b4 k hk).1, by rw [e _ (by omega)]; exact (b4 k hk).2⟩⟩, ho⟩
set_option maxHeartbeats 4000000 in
set_option maxRecDepth 100000 in
theorem c_X8_text {G : GM} {σ : SG} {tp : Nat → Int32} {L nt : Nat} {Ts : Nat → Tx} (hT : TPR σ tp L) (hC : RT (σ 20) Ts nt) : CI G yX8_text cX8_text 3 (some .int) 97 [rf G 109] σ (fun r s => same [20, 38] σ s ∧ s 38 1 = 0 ∧ s 38 0 = σ 38 0 ∧ s 38 12 = σ 38 12 ∧ (∀ i, i < 171 → i ≠ 1 → s 20 i = σ 20 i) ∧ (¬ (prF tp L).1 = true → r = -100 - nI (prF tp L).2.2.2.1 ∧ RT (s 20) Ts nt) ∧ ((prF tp L).1 = true → (nt = 14 → r = vFULL ∧ RT (s 20) Ts nt) ∧ (nt < 14 → r = nI nt ∧ RT (s 20) (updT Ts nt (prT tp L)) (nt + 1)))) := by
  refine Con.of cd_X8_text (Nat.le_of_ble_eq_true rfl) ?_
  intro X hX hZ
  have hX : Fx X G RX8 cX8_text 3 97 := hX
  show RR X G 3 0 (ll [(0, rf G 109)]) [] σ
  have h96 := hT.1
  have h14 := hC.2.1
  obtain ⟨a1, a2, a3⟩ := laA_le h14
  have hpo := prT_ok (tp := tp) (L := L) h96
  have eT : prT tp L = (nI (prF tp L).2.1, nI (prF tp L).2.2.2.2.2.1, (prF tp L).2.2.2.2.2.2) := rfl
  refine r_aload_n hX dX8_text_0 rfl ⟨_, rfl⟩ (RR.pc (b := 1) rfl ?_)
  refine r_callVi hX dX8_text_1 ml_X8_273 cd_X8_parse iv_X8_parse (c_X8_parse hT hC.1 h14) (by decide) (by first | rfl | assumption) rfl rfl rfl rfl (Nat.le_of_ble_eq_true rfl) (fun r_1 s_1 e_1 => RR.pc (b := 4) rfl ?_)
  obtain ⟨rfl, r2, r1, r0, r12, hs, hw, hyes⟩ := e_1
  generalize prT tp L = T at hpo hZ eT
  generalize prF tp L = P at r2 hyes hpo hZ eT
  by_cases hP : P.1 = true
  · obtain ⟨hok, k3⟩ := hpo hP
    obtain ⟨y9, y11, yst⟩ := hyes hP
    have hlen : P.2.2.2.2.2.2.length ≤ 96 := by have := hok.2.2.1; rw [eT] at this; exact this
    rw [if_pos hP]
    by_cases n14 : nt = 14
    · skip
      refine r_istore_n hX dX8_text_4 (by decide) (RR.pc (b := 5) rfl ?_)
      refine r_iload_n (i := 0) hX dX8_text_5 rfl (RR.pc (b := 6) rfl ?_)
      refine r_if_ge (tgt := 17) hX dX8_text_6 rfl (fun h6 => ?_) (fun h6 => absurd (nI_pos' (by omega)) h6)
      refine r_aload_n hX dX8_text_17 rfl ⟨_, rfl⟩ (RR.pc (b := 18) rfl ?_)
      refine r_getr hX dX8_text_18 fl_X8_7 (by first | rfl | assumption) rfl (RR.pc (b := 21) rfl ?_)
      refine r_iconst (v := 1) hX dX8_text_21 (by decide) (RR.pc (b := 22) rfl ?_)
      refine r_iald hX dX8_text_22 (by first | rfl | assumption) (j := 1) rfl (by decide) (by first | decide | omega) (by first | exact Nat.zero_add _ | rfl) (RR.pc (b := 23) rfl ?_)
      refine r_bipush (v := 14) hX dX8_text_23 (by decide) (RR.pc (b := 25) rfl ?_)
      rw [hw 1 (by omega), hC.1, n14]
      refine r_icmp_ne (tgt := 31) hX dX8_text_25 rfl (fun h25 => absurd rfl h25) (fun h25 => RR.pc (b := 28) rfl ?_)
      refine r_ldc hX dX8_text_28 kc_X8_85 (RR.pc (b := 30) rfl ?_)
      exact r_iret hX hZ dX8_text_30 ⟨_, rfl, ⟨hs, r1, r0, r12, fun i hi _ => hw i (by omega), fun z => absurd hP z, fun _ => ⟨fun _ => ⟨rfl, hC.keep hw⟩, fun z => absurd n14 (by omega)⟩⟩⟩
    · have nl : nt < 14 := by omega
      have eA : laA nt = 171 + 200 * nt + 4 := if_pos nl
      rw [eA] at hw yst
      refine r_istore_n hX dX8_text_4 (by decide) (RR.pc (b := 5) rfl ?_)
      refine r_iload_n (i := 0) hX dX8_text_5 rfl (RR.pc (b := 6) rfl ?_)
      refine r_if_ge (tgt := 17) hX dX8_text_6 rfl (fun h6 => ?_) (fun h6 => absurd (nI_pos' (by omega)) h6)
      refine r_aload_n hX dX8_text_17 rfl ⟨_, rfl⟩ (RR.pc (b := 18) rfl ?_)
      refine r_getr hX dX8_text_18 fl_X8_7 (by first | rfl | assumption) rfl (RR.pc (b := 21) rfl ?_)
      refine r_iconst (v := 1) hX dX8_text_21 (by decide) (RR.pc (b := 22) rfl ?_)
      refine r_iald hX dX8_text_22 (by first | rfl | assumption) (j := 1) rfl (by decide) (by first | decide | omega) (by first | exact Nat.zero_add _ | rfl) (RR.pc (b := 23) rfl ?_)
      refine r_bipush (v := 14) hX dX8_text_23 (by decide) (RR.pc (b := 25) rfl ?_)
      rw [hw 1 (by omega), hC.1]
      refine r_icmp_ne (tgt := 31) hX dX8_text_25 rfl (fun h25 => ?_) (fun h25 => absurd h25 (fun z => n14 ((nI_eq (b := 14) (by omega) (by omega)).mp z)))
      refine r_aload_n hX dX8_text_31 rfl ⟨_, rfl⟩ (RR.pc (b := 32) rfl ?_)
      refine r_aload_n hX dX8_text_32 rfl ⟨_, rfl⟩ (RR.pc (b := 33) rfl ?_)
      refine r_getr hX dX8_text_33 fl_X8_7 (by first | rfl | assumption) rfl (RR.pc (b := 36) rfl ?_)
      refine r_iconst (v := 1) hX dX8_text_36 (by decide) (RR.pc (b := 37) rfl ?_)
      refine r_iald hX dX8_text_37 (by first | rfl | assumption) (j := 1) rfl (by decide) (by first | decide | omega) (by first | exact Nat.zero_add _ | rfl) (RR.pc (b := 38) rfl ?_)
      rw [hw 1 (by omega), hC.1]
      refine r_callVie hX dX8_text_38 ml_X8_267 cd_X8_textAt iv_X8_textAt (c_X8_textAt (t := nt)) (by decide) (by first | rfl | assumption) rfl rfl rfl rfl (Nat.le_of_ble_eq_true rfl) (RR.pc (b := 41) rfl ?_)
      refine r_istore_n hX dX8_text_41 (by decide) (RR.pc (b := 42) rfl ?_)
      refine r_aload_n hX dX8_text_42 rfl ⟨_, rfl⟩ (RR.pc (b := 43) rfl ?_)
      refine r_getr hX dX8_text_43 fl_X8_7 (by first | rfl | assumption) rfl (RR.pc (b := 46) rfl ?_)
      refine r_iload_n (i := 0) hX dX8_text_46 rfl (RR.pc (b := 47) rfl ?_)
      refine r_iconst (v := 0) hX dX8_text_47 (by decide) (RR.pc (b := 48) rfl ?_)
      refine r_iadd hX dX8_text_48 (RR.pc (b := 49) rfl ?_)
      refine r_iload_n (i := 0) hX dX8_text_49 rfl (RR.pc (b := 50) rfl ?_)
      refine r_iast hX dX8_text_50 (by first | rfl | assumption) (j := 171 + 200 * nt) (nI_add _ 0) (by omega) (by first | decide | omega) (by first | exact Nat.zero_add _ | rfl) (RR.pc (b := 51) rfl ?_)
      refine r_aload_n hX dX8_text_51 rfl ⟨_, rfl⟩ (RR.pc (b := 52) rfl ?_)
      refine r_getr hX dX8_text_52 fl_X8_7 (by first | rfl | assumption) rfl (RR.pc (b := 55) rfl ?_)
      refine r_iload_n (i := 0) hX dX8_text_55 rfl (RR.pc (b := 56) rfl ?_)
      refine r_iconst (v := 1) hX dX8_text_56 (by decide) (RR.pc (b := 57) rfl ?_)
      refine r_iadd hX dX8_text_57 (RR.pc (b := 58) rfl ?_)
      refine r_aload_n hX dX8_text_58 rfl ⟨_, rfl⟩ (RR.pc (b := 59) rfl ?_)
      refine r_geti hX dX8_text_59 fl_X8_252 (by first | rfl | assumption) rfl (RR.pc (b := 62) rfl ?_)
      rw [su_ne (by decide), y11]
      refine r_iast hX dX8_text_62 (by first | rfl | assumption) (j := 171 + 200 * nt + 1) (nI_add _ 1) (by omega) (by first | decide | omega) (by first | exact Nat.zero_add _ | rfl) (RR.pc (b := 63) rfl ?_)
      refine r_aload_n hX dX8_text_63 rfl ⟨_, rfl⟩ (RR.pc (b := 64) rfl ?_)
      refine r_getr hX dX8_text_64 fl_X8_7 (by first | rfl | assumption) rfl (RR.pc (b := 67) rfl ?_)
      refine r_iload_n (i := 0) hX dX8_text_67 rfl (RR.pc (b := 68) rfl ?_)
      refine r_iconst (v := 2) hX dX8_text_68 (by decide) (RR.pc (b := 69) rfl ?_)
      refine r_iadd hX dX8_text_69 (RR.pc (b := 70) rfl ?_)
      refine r_aload_n hX dX8_text_70 rfl ⟨_, rfl⟩ (RR.pc (b := 71) rfl ?_)
      refine r_geti hX dX8_text_71 fl_X8_224 (by first | rfl | assumption) rfl (RR.pc (b := 74) rfl ?_)
      rw [su_ne (by decide), su_ne (by decide), y9]
      refine r_iast hX dX8_text_74 (by first | rfl | assumption) (j := 171 + 200 * nt + 2) (nI_add _ 2) (by omega) (by first | decide | omega) (by first | exact Nat.zero_add _ | rfl) (RR.pc (b := 75) rfl ?_)
      refine r_aload_n hX dX8_text_75 rfl ⟨_, rfl⟩ (RR.pc (b := 76) rfl ?_)
      refine r_getr hX dX8_text_76 fl_X8_7 (by first | rfl | assumption) rfl (RR.pc (b := 79) rfl ?_)
      refine r_iconst (v := 1) hX dX8_text_79 (by decide) (RR.pc (b := 80) rfl ?_)
      refine r_dup2_11 hX dX8_text_80 rfl rfl (RR.pc (b := 81) rfl ?_)
      refine r_iald hX dX8_text_81 (by first | rfl | assumption) (j := 1) rfl (by decide) (by first | decide | omega) (by first | exact Nat.zero_add _ | rfl) (RR.pc (b := 82) rfl ?_)
      refine r_iconst (v := 1) hX dX8_text_82 (by decide) (RR.pc (b := 83) rfl ?_)
      refine r_iadd hX dX8_text_83 (RR.pc (b := 84) rfl ?_)
      rw [su_eq, su_eq, su_eq, pk_un (show 1 ≠ 171 + 200 * nt + 2 by omega), pk_un (show 1 ≠ 171 + 200 * nt + 1 by omega), pk_un (show 1 ≠ 171 + 200 * nt by omega), hw 1 (by omega), hC.1, nI_1]
      have ew : (su (su (su (su s_1 20 (171 + 200 * nt) (nI P.2.1)) 20 (171 + 200 * nt + 1) (nI P.2.2.2.2.2.1)) 20 (171 + 200 * nt + 2) (nI P.2.2.2.2.2.2.length)) 20 1 (nI (nt + 1))) 20 = upd (upd (upd (upd (s_1 20) (171 + 200 * nt) (nI P.2.1)) (171 + 200 * nt + 1) (nI P.2.2.2.2.2.1)) (171 + 200 * nt + 2) (nI P.2.2.2.2.2.2.length)) 1 (nI (nt + 1)) := by rw [su_eq, su_eq, su_eq, su_eq]
      have e38 : ∀ r, r ≠ 20 → (su (su (su (su s_1 20 (171 + 200 * nt) (nI P.2.1)) 20 (171 + 200 * nt + 1) (nI P.2.2.2.2.2.1)) 20 (171 + 200 * nt + 2) (nI P.2.2.2.2.2.2.length)) 20 1 (nI (nt + 1))) r = s_1 r := fun r hr => by rw [su_ne hr, su_ne hr, su_ne hr, su_ne hr]
      have hRT : RT (upd (upd (upd (upd (s_1 20) (171 + 200 * nt) (nI P.2.1)) (171 + 200 * nt + 1) (nI P.2.2.2.2.2.1)) (171 + 200 * nt + 2) (nI P.2.2.2.2.2.2.length)) 1 (nI (nt + 1))) (updT Ts nt T) (nt + 1) := by
        refine ⟨pk_us, by omega, fun t ht => ?_⟩
        unfold updT
        by_cases e : t = nt
        · rw [if_pos e, e]
          refine ⟨?_, hok⟩
          rw [eT]
          refine ⟨?_, ?_, ?_, fun j hj => ?_⟩
          · rw [pk_un (by omega), pk_un (by omega), pk_un (by omega), pk_us]
          · rw [pk_un (by omega), pk_un (by omega), pk_us]
          · rw [pk_un (by omega), pk_us]
          · have hj' : j < P.2.2.2.2.2.2.length := hj
            rw [pk_un (by omega), pk_un (by omega), pk_un (by omega), pk_un (by omega), pk_un (by omega), pk_un (by omega), pk_un (by omega), pk_un (by omega)]
            exact yst j hj'
        · rw [if_neg e]
          obtain ⟨⟨b1, b2, b3, b4⟩, ho⟩ := hC.2.2 t (by omega)
          have hl := ho.2.2.1
          have q : ∀ i, i < 171 + 200 * nt → i ≠ 1 → upd (upd (upd (upd (s_1 20) (171 + 200 * nt) (nI P.2.1)) (171 + 200 * nt + 1) (nI P.2.2.2.2.2.1)) (171 + 200 * nt + 2) (nI P.2.2.2.2.2.2.length)) 1 (nI (nt + 1)) i = σ 20 i := fun i hi h1 => by
            rw [pk_un h1, pk_un (by omega), pk_un (by omega), pk_un (by omega)]
            exact hw i (by omega)
          exact ⟨⟨by rw [q _ (by omega) (by omega)]; exact b1, by rw [q _ (by omega) (by omega)]; exact b2, by rw [q _ (by omega) (by omega)]; exact b3, fun k hk => ⟨by rw [q _ (by omega) (by omega)]; exact (b4 k hk).1, by rw [q _ (by omega) (by omega)]; exact (b4 k hk).2⟩⟩, ho⟩
      refine r_iast hX dX8_text_84 (by first | rfl | assumption) (j := 1) rfl (by decide) (by first | decide | omega) (by first | exact Nat.zero_add _ | rfl) (RR.pc (b := 85) rfl ?_)
      refine r_aload_n hX dX8_text_85 rfl ⟨_, rfl⟩ (RR.pc (b := 86) rfl ?_)
      refine r_getr hX dX8_text_86 fl_X8_7 (by first | rfl | assumption) rfl (RR.pc (b := 89) rfl ?_)
      refine r_iconst (v := 1) hX dX8_text_89 (by decide) (RR.pc (b := 90) rfl ?_)
      refine r_iald hX dX8_text_90 (by first | rfl | assumption) (j := 1) rfl (by decide) (by first | decide | omega) (by first | exact Nat.zero_add _ | rfl) (RR.pc (b := 91) rfl ?_)
      rw [ew, pk_us]
      refine r_iconst (v := 1) hX dX8_text_91 (by decide) (RR.pc (b := 92) rfl ?_)
      refine r_isub hX dX8_text_92 (RR.pc (b := 93) rfl ?_)
      rw [nI_pred]
      exact r_iret hX hZ dX8_text_93 ⟨_, rfl, (((hs.su (by simp)).su (by simp)).su (by simp)).su (by simp), by rw [e38 38 (by decide)]; exact r1, by rw [e38 38 (by decide)]; exact r0, by rw [e38 38 (by decide)]; exact r12, fun i hi h1 => by rw [ew, pk_un h1, pk_un (by omega), pk_un (by omega), pk_un (by omega)]; exact hw i (by omega), fun z => absurd hP z, fun _ => ⟨fun z => absurd z n14, fun _ => ⟨rfl, by rw [ew]; exact hRT⟩⟩⟩
  · rw [if_neg hP]
    refine r_istore_n hX dX8_text_4 (by decide) (RR.pc (b := 5) rfl ?_)
    refine r_iload_n (i := 0) hX dX8_text_5 rfl (RR.pc (b := 6) rfl ?_)
    refine r_if_ge (tgt := 17) hX dX8_text_6 rfl (fun h6 => absurd h6 (by decide)) (fun h6 => RR.pc (b := 9) rfl ?_)
    refine r_bipush (v := -100) hX dX8_text_9 (by decide) (RR.pc (b := 11) rfl ?_)
    refine r_aload_n hX dX8_text_11 rfl ⟨_, rfl⟩ (RR.pc (b := 12) rfl ?_)
    refine r_geti hX dX8_text_12 fl_X8_202 (by first | rfl | assumption) rfl (RR.pc (b := 15) rfl ?_)
    rw [r2]
    refine r_isub hX dX8_text_15 (RR.pc (b := 16) rfl ?_)
    exact r_iret hX hZ dX8_text_16 ⟨_, rfl, ⟨hs, r1, r0, r12, fun i hi _ => hw i (by omega), fun _ => ⟨rfl, hC.keep hw⟩, fun z => absurd z hP⟩⟩
