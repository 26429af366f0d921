/-! the class: walks, minutes -/
theorem min_le {x y : Int32} : (if y < x then y else x) = (if y ≤ x then y else x) := by
  by_cases h : y ≤ x
  · rw [if_pos h]
    by_cases h2 : y < x
    · rw [if_pos h2]
    · rw [if_neg h2]
      exact Int32.toInt_inj.mp (by rw [Int32.lt_iff_toInt_lt] at h2; rw [Int32.le_iff_toInt_le] at h; omega)
  · rw [if_neg h, if_neg (fun z => h (Int32.le_iff_toInt_le.mpr (by rw [Int32.lt_iff_toInt_lt] at z; omega)))]
theorem CT.congr {f w w' : Nat → Int32} {Ts : Nat → Tx} {nt : Nat} (h : CT f w Ts nt) (e1 : w' 1 = w 1) (e : ∀ i, 171 ≤ i → w' i = w i) : CT f w' Ts nt := ⟨by rw [e1]; exact h.1, h.2.1, fun k hk => by rw [e _ (by omega)]; exact h.2.2.1 k hk, h.2.2.2⟩
set_option maxHeartbeats 4000000 in
set_option maxRecDepth 100000 in
theorem c_X6_goOn {G : GM} {σ : SG} {Ts : Nat → Tx} {nt w i : Nat} (hw : w < 3) (hi : i < 8) (hT : CT (σ 3) (σ w) Ts nt) (hM : MO (σ w) i) : CU G yX6_goOn cX6_goOn 7 none 4 [rf G (36 + 14 * w), rf G (38 + 14 * w + i)] σ (fun s => s w = (if σ w (131 + 5 * i + 2) < 59 then walkW (lkV Ts nt) (σ w) i else σ w) ∧ same [w, 4] σ s) := by
  refine Con.of cd_X6_goOn (Nat.le_of_ble_eq_true rfl) ?_
  intro X hX hZ
  have hX : Fx X G RX6 cX6_goOn 7 4 := hX
  show RR X G 7 0 (ll [(0, rf G (36 + 14 * w)), (1, rf G (38 + 14 * w + i))]) [] σ
  obtain ⟨l0, l1, l2, l3, l4, l5⟩ := layW hw
  have lm := layM hw hi
  obtain ⟨y, g, fl, st, hy, hg, hfl, hs, ey, eg, efl, es⟩ := walk_nums (V := lkV Ts nt) lkV_VO hM
  obtain ⟨p, hp, ep⟩ := hM.2.1
  refine r_aload_n hX dX6_goOn_0 rfl ⟨_, rfl⟩ (RR.pc (b := 1) rfl ?_)
  refine r_geti hX dX6_goOn_1 fl_X6_80 (by first | rfl | assumption) rfl (RR.pc (b := 4) rfl ?_)
  refine r_istore_n hX dX6_goOn_4 (by decide) (RR.pc (b := 5) rfl ?_)
  refine r_iload_n (i := 0) hX dX6_goOn_5 rfl (RR.pc (b := 6) rfl ?_)
  rw [ey]
  refine r_if_lt (tgt := 15) hX dX6_goOn_6 rfl (fun h => absurd h (nI_pos (by omega))) (fun _ => RR.pc (b := 9) rfl ?_)
  refine r_iload_n (i := 0) hX dX6_goOn_9 rfl (RR.pc (b := 10) rfl ?_)
  refine r_bipush (v := 59) hX dX6_goOn_10 (by decide) (RR.pc (b := 12) rfl ?_)
  refine r_icmp_lt (tgt := 16) hX dX6_goOn_12 rfl (fun h12 => ?_) (fun h12 => RR.pc (b := 15) rfl ?_)
  · have hy2 : y < 59 := (nI_ltI (b := 59) (by omega) (by omega)).mp h12
    refine r_aload_n hX dX6_goOn_16 rfl ⟨_, rfl⟩ (RR.pc (b := 17) rfl ?_)
    refine r_aload_n hX dX6_goOn_17 rfl ⟨_, rfl⟩ (RR.pc (b := 18) rfl ?_)
    refine r_callVi hX dX6_goOn_18 ml_X6_137 cd_X6_leaksOf iv_X6_leaksOf (c_X6_leaksOf hw hi hT hM) (by decide) (by first | rfl | assumption) rfl rfl rfl rfl (Nat.le_of_ble_eq_true rfl) (fun r_18 s_18 e_18 => RR.pc (b := 21) rfl ?_)
    obtain ⟨rfl, hs0⟩ := e_18
    have hsw : s_18 w = σ w := hs0 w (by simp; omega)
    rw [← hsw] at ey eg efl es ep ⊢
    refine r_aload_n hX dX6_goOn_21 rfl ⟨_, rfl⟩ (RR.pc (b := 22) rfl ?_)
    refine r_geti hX dX6_goOn_22 fl_X6_83 (by first | rfl | assumption) rfl (RR.pc (b := 25) rfl ?_)
    refine r_min hX (by decide) dX6_goOn_25 ml_X6_119 (Nat.le_of_ble_eq_true rfl) (RR.pc (b := 28) rfl ?_)
    rw [min_le, show (if s_18 w (131 + 5 * i + 3) ≤ lkW (lkV Ts nt) (s_18 w) i then s_18 w (131 + 5 * i + 3) else lkW (lkV Ts nt) (s_18 w) i) = flW (lkV Ts nt) (s_18 w) i from rfl, efl]
    refine r_istore_n hX dX6_goOn_28 (by decide) (RR.pc (b := 29) rfl ?_)
    refine r_aload_n hX dX6_goOn_29 rfl ⟨_, rfl⟩ (RR.pc (b := 30) rfl ?_)
    refine r_dup hX dX6_goOn_30 rfl (RR.pc (b := 31) rfl ?_)
    refine r_geti hX dX6_goOn_31 fl_X6_83 (by first | rfl | assumption) rfl (RR.pc (b := 34) rfl ?_)
    refine r_iload_n (i := 0) hX dX6_goOn_34 rfl (RR.pc (b := 35) rfl ?_)
    refine r_isub hX dX6_goOn_35 (RR.pc (b := 36) rfl ?_)
    refine r_puti hX dX6_goOn_36 fl_X6_83 (by first | rfl | assumption) rfl ft_0_3 (RR.pc (b := 39) rfl ?_)
    refine r_aload_n hX dX6_goOn_39 rfl ⟨_, rfl⟩ (RR.pc (b := 40) rfl ?_)
    refine r_dup hX dX6_goOn_40 rfl (RR.pc (b := 41) rfl ?_)
    refine r_geti hX dX6_goOn_41 fl_X6_59 (by first | rfl | assumption) rfl (RR.pc (b := 44) rfl ?_)
    refine r_iload_n (i := 0) hX dX6_goOn_44 rfl (RR.pc (b := 45) rfl ?_)
    refine r_iadd hX dX6_goOn_45 (RR.pc (b := 46) rfl ?_)
    refine r_puti hX dX6_goOn_46 fl_X6_59 (by first | rfl | assumption) rfl ft_6_7 (RR.pc (b := 49) rfl ?_)
    simp only [su, sr_eq, sr_sr, pk_un (show (3 : Nat) ≠ 131 + 5 * i + 3 by omega)]
    show RR X G 7 49 _ [] (sr s_18 w (wk1 (s_18 w) i (nI fl)))
    refine r_aload_n hX dX6_goOn_49 rfl ⟨_, rfl⟩ (RR.pc (b := 50) rfl ?_)
    refine r_callVie hX dX6_goOn_50 ml_X6_141 cd_X0_goes iv_X0_goes (c_X0_goes lm hp (by rw [sr_eq]; unfold wk1; rw [pk_un (by omega), pk_un (by omega)]; exact ep)) (by decide) (by first | rfl | assumption) rfl rfl rfl rfl (Nat.le_of_ble_eq_true rfl) (RR.pc (b := 53) rfl ?_)
    refine r_bipush (v := 59) hX dX6_goOn_53 (by decide) (RR.pc (b := 55) rfl ?_)
    refine r_iload_n (i := 0) hX dX6_goOn_55 rfl (RR.pc (b := 56) rfl ?_)
    refine r_isub hX dX6_goOn_56 (RR.pc (b := 57) rfl ?_)
    rw [sr_eq, show wk1 (s_18 w) i (nI fl) (131 + 5 * i) = s_18 w (131 + 5 * i) from by unfold wk1; rw [pk_un (by omega), pk_un (by omega)]]
    refine r_min hX (by decide) dX6_goOn_57 ml_X6_119 (Nat.le_of_ble_eq_true rfl) (RR.pc (b := 60) rfl ?_)
    rw [min_le, show (if (59 : Int32) - nI y ≤ goK (s_18 w (131 + 5 * i)) (nI p) then 59 - nI y else goK (s_18 w (131 + 5 * i)) (nI p)) = gW (s_18 w) i from by unfold gW; rw [ey, ep], es]
    generalize hE : (if nI st ≤ 0 then (0 : Int32) else nI fl / nI st) = E
    have loop := loopK st (fun k => RR X G 7 80 (ll [(0, rf G (36 + 14 * w)), (1, rf G (38 + 14 * w + i)), (2, .int (nI y)), (3, .int (nI fl)), (4, .int (nI st)), (5, .int E), (6, .int (nI k))]) [] (sr s_18 w (addL (wk1 (s_18 w) i (nI fl)) (11 + y) E k))) (by
      intro k hk ih
      refine r_iload hX dX6_goOn_80 rfl (RR.pc (b := 82) rfl ?_)
      refine r_iload hX dX6_goOn_82 rfl (RR.pc (b := 84) rfl ?_)
      refine r_icmp_ge (tgt := 107) hX dX6_goOn_84 rfl (fun h84 => ?_) (fun h84 => RR.pc (b := 87) rfl ?_)
      · have hk2 : k = st := by rw [nI_leI (by omega) (by omega)] at h84; omega
        subst hk2
        have hA : addL (wk1 (s_18 w) i (nI fl)) (11 + y) E k = addL (wk1 (s_18 w) i (nI fl)) (11 + y) (nI fl / nI k) k := by
          by_cases h0 : k = 0
          · subst h0; rfl
          · rw [← hE, if_neg (nI_nle (by omega) (by omega))]
        have hB : nI fl - E * nI k = (if nI k = 0 then nI fl else nI fl - nI fl / nI k * nI k) := by
          by_cases h0 : k = 0
          · subst h0
            rw [if_pos (show nI 0 = 0 from rfl), ← hE, if_pos (show nI 0 ≤ 0 by decide), Int32.zero_mul, Int32.sub_zero]
          · rw [if_neg (nI_ne0 (by omega) (by omega)), ← hE, if_neg (nI_nle (by omega) (by omega))]
        refine r_aload_n hX dX6_goOn_107 rfl ⟨_, rfl⟩ (RR.pc (b := 108) rfl ?_)
        refine r_getr hX dX6_goOn_108 fl_X6_22 (by first | rfl | assumption) rfl (RR.pc (b := 111) rfl ?_)
        refine r_iload_n (i := 0) hX dX6_goOn_111 rfl (RR.pc (b := 112) rfl ?_)
        refine r_dup2_11 hX dX6_goOn_112 rfl rfl (RR.pc (b := 113) rfl ?_)
        refine r_iald hX dX6_goOn_113 (by first | rfl | assumption) rfl (by omega) (by decide) (by first | exact Nat.zero_add _ | rfl) (RR.pc (b := 114) rfl ?_)
        refine r_iload_n (i := 0) hX dX6_goOn_114 rfl (RR.pc (b := 115) rfl ?_)
        refine r_iload hX dX6_goOn_115 rfl (RR.pc (b := 117) rfl ?_)
        refine r_iload hX dX6_goOn_117 rfl (RR.pc (b := 119) rfl ?_)
        refine r_imul hX dX6_goOn_119 (RR.pc (b := 120) rfl ?_)
        refine r_isub hX dX6_goOn_120 (RR.pc (b := 121) rfl ?_)
        rw [hB]
        refine r_iadd hX dX6_goOn_121 (RR.pc (b := 122) rfl ?_)
        refine r_iast hX dX6_goOn_122 (by first | rfl | assumption) rfl (by omega) (by decide) (by first | exact Nat.zero_add _ | rfl) (RR.pc (b := 123) rfl ?_)
        refine r_aload_n hX dX6_goOn_123 rfl ⟨_, rfl⟩ (RR.pc (b := 124) rfl ?_)
        refine r_iload_n (i := 0) hX dX6_goOn_124 rfl (RR.pc (b := 125) rfl ?_)
        refine r_iload hX dX6_goOn_125 rfl (RR.pc (b := 127) rfl ?_)
        refine r_iadd hX dX6_goOn_127 (RR.pc (b := 128) rfl ?_)
        refine r_puti hX dX6_goOn_128 fl_X6_80 (by first | rfl | assumption) rfl ft_0_2 (RR.pc (b := 131) rfl ?_)
        exact r_vret hX hZ dX6_goOn_131 ⟨rfl, ⟨by rw [su_sr, su_sr, sr_eq, sr_eq, hA, if_pos (show σ w (131 + 5 * i + 2) < 59 from by rw [← hsw, ey]; exact h12)]; unfold walkW wk3; rw [← hsw, ey, efl, es, nI_clamp (by omega), nI_clamp (by omega)], ((hs0.mono (by simp)).sr (by simp)).su (by simp) |>.su (by simp)⟩⟩
      · have hk2 : k < st := by rw [nI_leI (by omega) (by omega)] at h84; omega
        refine r_aload_n hX dX6_goOn_87 rfl ⟨_, rfl⟩ (RR.pc (b := 88) rfl ?_)
        refine r_getr hX dX6_goOn_88 fl_X6_22 (by first | rfl | assumption) rfl (RR.pc (b := 91) rfl ?_)
        refine r_iload_n (i := 0) hX dX6_goOn_91 rfl (RR.pc (b := 92) rfl ?_)
        refine r_iload hX dX6_goOn_92 rfl (RR.pc (b := 94) rfl ?_)
        refine r_iadd hX dX6_goOn_94 (RR.pc (b := 95) rfl ?_)
        refine r_dup2_11 hX dX6_goOn_95 rfl rfl (RR.pc (b := 96) rfl ?_)
        refine r_iald hX dX6_goOn_96 (by first | rfl | assumption) (nI_add y k) (by omega) (by decide) (by first | exact Nat.zero_add _ | rfl) (RR.pc (b := 97) rfl ?_)
        refine r_iload hX dX6_goOn_97 rfl (RR.pc (b := 99) rfl ?_)
        refine r_iadd hX dX6_goOn_99 (RR.pc (b := 100) rfl ?_)
        refine r_iast hX dX6_goOn_100 (by first | rfl | assumption) (nI_add y k) (by omega) (by decide) (by first | exact Nat.zero_add _ | rfl) (RR.pc (b := 101) rfl ?_)
        refine r_iinc hX dX6_goOn_101 rfl (by decide) (nI_1 k) (RR.pc (b := 104) rfl ?_)
        refine r_goto (tgt := 80) hX dX6_goOn_104 rfl ?_
        refine RR.eqs ?_ (RR.cut (ih hk2) (List.forall_mem_cons.mpr ⟨rfl, List.forall_mem_cons.mpr ⟨rfl, List.forall_mem_cons.mpr ⟨rfl, List.forall_mem_cons.mpr ⟨rfl, List.forall_mem_cons.mpr ⟨rfl, List.forall_mem_cons.mpr ⟨rfl, List.forall_mem_cons.mpr ⟨rfl, fun _ h => absurd h List.not_mem_nil⟩⟩⟩⟩⟩⟩⟩))
        rw [su_sr, sr_eq, addL, show 11 + (y + k) = 11 + y + k by omega]
      )
    refine r_istore hX dX6_goOn_60 (by decide) (RR.pc (b := 62) rfl ?_)
    refine r_iload hX dX6_goOn_62 rfl (RR.pc (b := 64) rfl ?_)
    refine r_dia1 75 (if nI st ≤ 0 then (0 : Int32) else nI fl / nI st) (fun hj64 => ?_) ?_
    · refine r_if_le (tgt := 74) hX dX6_goOn_64 rfl (fun h64 => ?_) (fun h64 => RR.pc (b := 67) rfl ?_)
      · refine r_iconst (v := 0) hX dX6_goOn_74 (by decide) (RR.pc (b := 75) rfl ?_)
        exact RR.eqt (congrArg (fun q => Value.int q :: _) (if_pos h64).symm) hj64
      · refine r_iload_n (i := 0) hX dX6_goOn_67 rfl (RR.pc (b := 68) rfl ?_)
        refine r_iload hX dX6_goOn_68 rfl (RR.pc (b := 70) rfl ?_)
        refine r_idiv hX dX6_goOn_70 (fun z => h64 (by rw [z]; decide)) (RR.pc (b := 71) rfl ?_)
        refine r_goto (tgt := 75) hX dX6_goOn_71 rfl ?_
        exact RR.eqt (congrArg (fun q => Value.int q :: _) (if_neg h64).symm) hj64
    rw [hE]
    refine r_istore hX dX6_goOn_75 (by decide) (RR.pc (b := 77) rfl ?_)
    refine r_iconst (v := 0) hX dX6_goOn_77 (by decide) (RR.pc (b := 78) rfl ?_)
    refine r_istore hX dX6_goOn_78 (by decide) (RR.pc (b := 80) rfl ?_)
    exact RR.cut (loop 0 (by omega)) (List.forall_mem_cons.mpr ⟨rfl, List.forall_mem_cons.mpr ⟨rfl, List.forall_mem_cons.mpr ⟨rfl, List.forall_mem_cons.mpr ⟨rfl, List.forall_mem_cons.mpr ⟨rfl, List.forall_mem_cons.mpr ⟨rfl, List.forall_mem_cons.mpr ⟨rfl, fun _ h => absurd h List.not_mem_nil⟩⟩⟩⟩⟩⟩⟩)
  · 
    exact r_vret hX hZ dX6_goOn_15 ⟨rfl, ⟨by rw [ey, if_neg h12], same.rf⟩⟩
set_option maxHeartbeats 4000000 in
set_option maxRecDepth 100000 in
theorem c_X6_pass {G : GM} {σ : SG} {Ts : Nat → Tx} {nt w n m q : Nat} (hw : w < 3) (hT : CT (σ 3) (σ w) Ts nt) (hW : WO (σ w) n m) (hm : m + q < 2 ^ 30) : CU G yX6_pass cX6_pass 4 none 5 [rf G (36 + 14 * w), .int (nI q)] σ (fun s => s w = minN (lkV Ts nt) n (σ w) q ∧ same [w, 4] σ s) := by
  refine Con.of cd_X6_pass (Nat.le_of_ble_eq_true rfl) ?_
  intro X hX hZ
  have hX : Fx X G RX6 cX6_pass 4 5 := hX
  show RR X G 4 0 (ll [(0, rf G (36 + 14 * w)), (1, .int (nI q))]) [] σ
  obtain ⟨l0, l1, l2, l3, l4, l5⟩ := layW hw
  have hV : VO (lkV Ts nt) := lkV_VO
  have h8 := hW.2.1
  have w3 : (3 : Nat) ∉ [w, 4] := by simp; omega
  have loop := loopK q (fun j => ∀ (σ1 : SG), σ1 w = minN (lkV Ts nt) n (σ w) j → same [w, 4] σ σ1 → RR X G 4 2 (ll [(0, rf G (36 + 14 * w)), (1, .int (nI q)), (2, .int (nI j))]) [] σ1) (by
    intro j hj ihj σ1 e1 hs1
    have hW1 : WO (σ1 w) n (m + j) := by rw [e1]; exact minN_WO hV hW j
    have hT1 : CT (σ1 3) (σ1 w) Ts nt := by
      rw [hs1 3 w3]
      exact hT.congr (by rw [e1]; exact minN_out hV hW (by omega) j) (fun i hi => by rw [e1]; exact minN_out hV hW (by omega) j)
    obtain ⟨g0, _, gM, gm, t, ht, et⟩ := hW1
    have hA := walkAll_ok hV gM
    refine r_iload_n (i := 0) hX dX6_pass_2 rfl (RR.pc (b := 3) rfl ?_)
    refine r_iload_n (i := 0) hX dX6_pass_3 rfl (RR.pc (b := 4) rfl ?_)
    refine r_icmp_ge (tgt := 71) hX dX6_pass_4 rfl (fun h4 => ?_) (fun h4 => RR.pc (b := 7) rfl ?_)
    · have hj2 : j = q := by rw [nI_leI (by omega) (by omega)] at h4; omega
      subst hj2
      exact r_vret hX hZ dX6_pass_71 ⟨rfl, ⟨e1, hs1⟩⟩
    · have hj2 : j < q := by rw [nI_leI (by omega) (by omega)] at h4; omega
      -- behind the threads
      have tail : ∀ τ : SG, τ w = thrW (walkAll (lkV Ts nt) (σ1 w) n) n → same [w, 4] σ1 τ → RR X G 4 47 (ll [(0, rf G (36 + 14 * w)), (1, .int (nI q)), (2, .int (nI j))]) [] τ := by
        intro τ et2 hs2
        refine r_aload_n hX dX6_pass_47 rfl ⟨_, rfl⟩ (RR.pc (b := 48) rfl ?_)
        refine r_callVve hX dX6_pass_48 ml_X6_131 cd_X6_birdsEat iv_X6_birdsEat (c_X6_birdsEat hw) (by decide) (by first | rfl | assumption) rfl rfl rfl rfl (Nat.le_of_ble_eq_true rfl) (RR.pc (b := 51) rfl ?_)
        refine r_aload_n hX dX6_pass_51 rfl ⟨_, rfl⟩ (RR.pc (b := 52) rfl ?_)
        skip
        refine r_callVve hX dX6_pass_52 ml_X6_134 cd_X6_gustBlows iv_X6_gustBlows (c_X6_gustBlows hw) (by decide) (by first | rfl | assumption) rfl rfl rfl rfl (Nat.le_of_ble_eq_true rfl) (RR.pc (b := 55) rfl ?_)
        refine r_aload_n hX dX6_pass_55 rfl ⟨_, rfl⟩ (RR.pc (b := 56) rfl ?_)
        refine r_dup hX dX6_pass_56 rfl (RR.pc (b := 57) rfl ?_)
        refine r_geti hX dX6_pass_57 fl_X6_68 (by first | rfl | assumption) rfl (RR.pc (b := 60) rfl ?_)
        refine r_iconst (v := 1) hX dX6_pass_60 (by decide) (RR.pc (b := 61) rfl ?_)
        refine r_iadd hX dX6_pass_61 (RR.pc (b := 62) rfl ?_)
        refine r_puti hX dX6_pass_62 fl_X6_68 (by first | rfl | assumption) rfl ft_6_10 (RR.pc (b := 65) rfl ?_)
        refine r_iinc hX dX6_pass_65 rfl (by decide) (nI_1 j) (RR.pc (b := 68) rfl ?_)
        refine r_goto (tgt := 2) hX dX6_pass_68 rfl ?_
        refine RR.cut (ihj hj2 _ ?_ (hs1.tr (((hs2.sr (by simp)).sr (by simp)).su (by simp)))) (List.forall_mem_cons.mpr ⟨rfl, List.forall_mem_cons.mpr ⟨rfl, List.forall_mem_cons.mpr ⟨rfl, fun _ h => absurd h List.not_mem_nil⟩⟩⟩)
        rw [su_eq, sr_eq, sr_eq, et2]
        show _ = minW _ _ (minN _ _ _ j)
        rw [← e1]
        rfl
      have walks := loopK n (fun k => ∀ τ : SG, τ w = walkAll (lkV Ts nt) (σ1 w) k → same [w, 4] σ1 τ → RR X G 4 9 (ll [(0, rf G (36 + 14 * w)), (1, .int (nI q)), (2, .int (nI j)), (3, .int (nI k))]) [] τ) (by
        intro k hk ih τ et2 hs2
        have e0 : τ w 0 = nI n := by rw [et2, (hA k hk).2 0 (by omega) (by omega) h8]; exact g0
        refine r_iload_n (i := 0) hX dX6_pass_9 rfl (RR.pc (b := 10) rfl ?_)
        refine r_aload_n hX dX6_pass_10 rfl ⟨_, rfl⟩ (RR.pc (b := 11) rfl ?_)
        refine r_geti hX dX6_pass_11 fl_X6_46 (by first | rfl | assumption) rfl (RR.pc (b := 14) rfl ?_)
        rw [e0]
        refine r_icmp_ge (tgt := 33) hX dX6_pass_14 rfl (fun h14 => ?_) (fun h14 => RR.pc (b := 17) rfl ?_)
        · have hk2 : k = n := by rw [nI_leI (by omega) (by omega)] at h14; omega
          subst hk2
          have em : τ w 2 = nI (m + j) := by rw [et2, (hA k hk).2 2 (by omega) (by omega) h8]; exact gm
          refine r_aload_n hX dX6_pass_33 rfl ⟨_, rfl⟩ (RR.pc (b := 34) rfl ?_)
          refine r_geti hX dX6_pass_34 fl_X6_68 (by first | rfl | assumption) rfl (RR.pc (b := 37) rfl ?_)
          refine r_iconst (v := 5) hX dX6_pass_37 (by decide) (RR.pc (b := 38) rfl ?_)
          refine r_irem hX dX6_pass_38 (by decide) (RR.pc (b := 39) rfl ?_)
          refine r_iconst (v := 4) hX dX6_pass_39 (by decide) (RR.pc (b := 40) rfl ?_)
          refine r_icmp_ne (tgt := 47) hX dX6_pass_40 rfl (fun h40 => ?_) (fun h40 => RR.pc (b := 43) rfl ?_)
          · refine RR.cut (tail τ ?_ hs2) (List.forall_mem_cons.mpr ⟨rfl, List.forall_mem_cons.mpr ⟨rfl, List.forall_mem_cons.mpr ⟨rfl, fun _ h => absurd h List.not_mem_nil⟩⟩⟩)
            rw [et2] at h40 ⊢
            unfold thrW
            rw [if_neg h40]
          · 
            refine r_aload_n hX dX6_pass_43 rfl ⟨_, rfl⟩ (RR.pc (b := 44) rfl ?_)
            refine r_callVve hX dX6_pass_44 ml_X6_128 cd_X6_widenHoles iv_X6_widenHoles (c_X6_widenHoles (t := t) hw e0 h8 (by rw [et2]; exact (hA k hk).1) ht (by rw [et2, (hA k hk).2 10 (by omega) (by omega) h8]; exact et)) (by decide) (by first | rfl | assumption) rfl rfl rfl rfl (Nat.le_of_ble_eq_true rfl) (RR.pc (b := 47) rfl ?_)
            refine RR.cut (tail _ ?_ (hs2.sr (by simp))) (List.forall_mem_cons.mpr ⟨rfl, List.forall_mem_cons.mpr ⟨rfl, List.forall_mem_cons.mpr ⟨rfl, fun _ h => absurd h List.not_mem_nil⟩⟩⟩)
            rw [sr_eq]
            rw [et2] at h40 ⊢
            unfold thrW
            rw [if_pos h40]
        · have hk2 : k < n := by rw [nI_leI (by omega) (by omega)] at h14; omega
          have hM1 : MO (τ w) k := by rw [et2]; exact (hA k hk).1 k hk2
          have hT2 : CT (τ 3) (τ w) Ts nt := by
            rw [hs2 3 w3]
            exact hT1.congr (by rw [et2]; exact (hA k hk).2 1 (by omega) (by omega) h8) (fun i hi => by rw [et2]; exact (hA k hk).2 i (by omega) (by omega) h8)
          refine r_aload_n hX dX6_pass_17 rfl ⟨_, rfl⟩ (RR.pc (b := 18) rfl ?_)
          refine r_aload_n hX dX6_pass_18 rfl ⟨_, rfl⟩ (RR.pc (b := 19) rfl ?_)
          refine r_getr hX dX6_pass_19 fl_X6_17 (by first | rfl | assumption) rfl (RR.pc (b := 22) rfl ?_)
          refine r_iload_n (i := 0) hX dX6_pass_22 rfl (RR.pc (b := 23) rfl ?_)
          refine r_aald hX dX6_pass_23 (by first | rfl | assumption) ⟨_, rfl⟩ rfl (by omega) (by decide) (RR.pc (b := 24) rfl ?_)
          refine r_callVv hX dX6_pass_24 ml_X6_125 cd_X6_goOn iv_X6_goOn (c_X6_goOn (i := k) hw (by omega) hT2 hM1) (by decide) (by first | rfl | assumption) rfl rfl rfl rfl (Nat.le_of_ble_eq_true rfl) (fun s_24 e_24 => RR.pc (b := 27) rfl ?_)
          obtain ⟨e24, hs24⟩ := e_24
          refine r_iinc hX dX6_pass_27 rfl (by decide) (nI_1 k) (RR.pc (b := 30) rfl ?_)
          refine r_goto (tgt := 9) hX dX6_pass_30 rfl ?_
          refine RR.cut (ih hk2 _ ?_ (hs2.tr hs24)) (List.forall_mem_cons.mpr ⟨rfl, List.forall_mem_cons.mpr ⟨rfl, List.forall_mem_cons.mpr ⟨rfl, List.forall_mem_cons.mpr ⟨rfl, fun _ h => absurd h List.not_mem_nil⟩⟩⟩⟩)
          rw [e24, et2]
          rfl
        )
      refine r_iconst (v := 0) hX dX6_pass_7 (by decide) (RR.pc (b := 8) rfl ?_)
      refine r_istore_n hX dX6_pass_8 (by decide) (RR.pc (b := 9) rfl ?_)
      exact RR.cut (walks 0 (by omega) σ1 rfl same.rf) (List.forall_mem_cons.mpr ⟨rfl, List.forall_mem_cons.mpr ⟨rfl, List.forall_mem_cons.mpr ⟨rfl, List.forall_mem_cons.mpr ⟨rfl, fun _ h => absurd h List.not_mem_nil⟩⟩⟩⟩)
    )
  refine r_iconst (v := 0) hX dX6_pass_0 (by decide) (RR.pc (b := 1) rfl ?_)
  refine r_istore_n hX dX6_pass_1 (by decide) (RR.pc (b := 2) rfl ?_)
  exact RR.cut (loop 0 (by omega) σ rfl same.rf) (List.forall_mem_cons.mpr ⟨rfl, List.forall_mem_cons.mpr ⟨rfl, List.forall_mem_cons.mpr ⟨rfl, fun _ h => absurd h List.not_mem_nil⟩⟩⟩)
