/-! the class: a minute -/
def cntN (o : Option Nat) : Int32 := match o with
  | none => vNONE
  | some t => nI t
/-- the texts as a world of the class knows them -/
def CT (f w : Nat → Int32) (Ts : Nat → Tx) (nt : Nat) : Prop := w 1 = nI nt ∧ nt ≤ 14 ∧ (∀ k : Nat, k < 3 → w (171 + k) = cntN (cnt Ts (nI k) nt)) ∧ ∀ t, t < nt → TC f t (Ts t) ∧ okT (Ts t)
def givF (Ts : Nat → Tx) (nt : Nat) (key wo a b c : Int32) : Int32 := match cnt Ts key nt with
  | none => wo
  | some t => evT (Ts t) (fun v => rd3 a b c (encN (Ts t).1 v))
set_option maxHeartbeats 4000000 in
set_option maxRecDepth 100000 in
theorem c_X6_given {G : GM} {σ : SG} {Ts : Nat → Tx} {nt w k : Nat} {wo a b c : Int32} (hw : w < 3) (hk : k < 3) (hT : CT (σ 3) (σ w) Ts nt) : CI G yX6_given cX6_given 7 (some .int) 2 [rf G (36 + 14 * w), .int (nI k), .int wo, .int a, .int b, .int c] σ (fun r s => r = givF Ts nt (nI k) wo a b c ∧ same [4] σ s) := by
  refine Con.of cd_X6_given (Nat.le_of_ble_eq_true rfl) ?_
  intro X hX hZ
  have hX : Fx X G RX6 cX6_given 7 2 := hX
  show RR X G 7 0 (ll [(0, rf G (36 + 14 * w)), (1, .int (nI k)), (2, .int wo), (3, .int a), (4, .int b), (5, .int c)]) [] σ
  obtain ⟨l0, l1, l2, l3, l4, l5⟩ := layW hw
  have h14 := hT.2.1
  refine r_aload_n hX dX6_given_0 rfl ⟨_, rfl⟩ (RR.pc (b := 1) rfl ?_)
  refine r_getr hX dX6_given_1 fl_X6_32 (by first | rfl | assumption) rfl (RR.pc (b := 4) rfl ?_)
  refine r_iload_n (i := 0) hX dX6_given_4 rfl (RR.pc (b := 5) rfl ?_)
  refine r_iald hX dX6_given_5 (by first | rfl | assumption) rfl (by omega) (by decide) (by first | exact Nat.zero_add _ | rfl) (RR.pc (b := 6) rfl ?_)
  rw [hT.2.2.1 k hk]
  cases hc : cnt Ts (nI k) nt with
  | none =>
    show RR X G 7 6 _ [.int vNONE] σ
    refine r_istore hX dX6_given_6 (by decide) (RR.pc (b := 8) rfl ?_)
    refine r_iload hX dX6_given_8 rfl (RR.pc (b := 10) rfl ?_)
    refine r_iconst (v := 0) hX dX6_given_10 (by decide) (RR.pc (b := 11) rfl ?_)
    refine r_bipush (v := 13) hX dX6_given_11 (by decide) (RR.pc (b := 13) rfl ?_)
    refine r_callSNie hX dX6_given_13 (List.mem_of_getElem? (i := 4) rfl) cd_X7_within st_X7_within c_X7_within (by decide) rfl rfl (Nat.le_of_ble_eq_true rfl) (RR.pc (b := 16) rfl ?_)
    refine r_if_eq_b (tgt := 37) hX dX6_given_16 rfl (fun h16 => ?_) (fun h16 => absurd h16 (show ¬ ((0 : Int32).toInt ≤ (vNONE).toInt ∧ (vNONE).toInt ≤ (13 : Int32).toInt) by decide))
    refine r_iload_n (i := 0) hX dX6_given_37 rfl (RR.pc (b := 38) rfl ?_)
    exact r_iret hX hZ dX6_given_38 ⟨_, rfl, ⟨by unfold givF; rw [hc], same.rf⟩⟩
  | some t =>
    have ht := cnt_lt hc
    obtain ⟨hTC, hok⟩ := hT.2.2.2 t ht
    obtain ⟨m1, m2⟩ := layT (t := t) (by omega)
    show RR X G 7 6 _ [.int (nI t)] σ
    refine r_istore hX dX6_given_6 (by decide) (RR.pc (b := 8) rfl ?_)
    refine r_iload hX dX6_given_8 rfl (RR.pc (b := 10) rfl ?_)
    refine r_iconst (v := 0) hX dX6_given_10 (by decide) (RR.pc (b := 11) rfl ?_)
    refine r_bipush (v := 13) hX dX6_given_11 (by decide) (RR.pc (b := 13) rfl ?_)
    refine r_callSNie hX dX6_given_13 (List.mem_of_getElem? (i := 4) rfl) cd_X7_within st_X7_within c_X7_within (by decide) rfl rfl (Nat.le_of_ble_eq_true rfl) (RR.pc (b := 16) rfl ?_)
    refine r_if_eq_b (tgt := 37) hX dX6_given_16 rfl (fun h16 => absurd (show ((0 : Int32).toInt ≤ (nI t).toInt ∧ (nI t).toInt ≤ (13 : Int32).toInt) by rw [nI_toInt (by omega)]; simp only [Int32.reduceToInt]; omega) h16) (fun h16 => RR.pc (b := 19) rfl ?_)
    refine r_aload_n hX dX6_given_19 rfl ⟨_, rfl⟩ (RR.pc (b := 20) rfl ?_)
    refine r_getr hX dX6_given_20 fl_X6_9 (by first | rfl | assumption) rfl (RR.pc (b := 23) rfl ?_)
    refine r_iload hX dX6_given_23 rfl (RR.pc (b := 25) rfl ?_)
    refine r_aald hX dX6_given_25 (by first | rfl | assumption) ⟨_, rfl⟩ (j := t) rfl (by omega) (by decide) (RR.pc (b := 26) rfl ?_)
    refine r_iload_n (i := 0) hX dX6_given_26 rfl (RR.pc (b := 27) rfl ?_)
    refine r_iload hX dX6_given_27 rfl (RR.pc (b := 29) rfl ?_)
    refine r_iload hX dX6_given_29 rfl (RR.pc (b := 31) rfl ?_)
    refine r_callVi hX dX6_given_31 ml_X6_114 cd_X4_give iv_X4_give (c_X4_give (t := t) (by omega) hTC hok) (by decide) (by first | rfl | assumption) rfl rfl rfl rfl (Nat.le_of_ble_eq_true rfl) (fun r_31 s_31 e_31 => RR.pc (b := 34) rfl ?_)
    obtain ⟨rfl, hs⟩ := e_31
    refine r_goto (tgt := 38) hX dX6_given_34 rfl ?_
    exact r_iret hX hZ dX6_given_38 ⟨_, rfl, ⟨by unfold givF; rw [hc], hs⟩⟩
theorem lkV_giv {Ts : Nat → Tx} {nt h : Nat} {p g : Int32} (hh : h ≤ 50) (ho : ∀ t, t < nt → okT (Ts t)) : hold (givF Ts nt 0 (nI h) (nI h) p g) 999 = lkV Ts nt (nI h) p g := by
  unfold givF lkV
  cases hc : cnt Ts 0 nt with
  | none =>
    show hold (nI h) 999 = nI h
    unfold hold
    rw [if_neg (nI_pos (by omega)), if_neg (show ¬ (999 : Int32) < nI h from nI_nlt (a := 999) (by omega) (by omega))]
  | some t =>
    show hold (evT (Ts t) (fun v => rd3 (nI h) p g (encN (Ts t).1 v))) 999 = hold (evT (Ts t) (nm3 104 112 103 (nI h) p g)) 999
    rw [evT_congr (nm' := nm3 104 112 103 (nI h) p g) (ho t (cnt_lt hc)) ?_]
    intro v hv
    rw [cnt_key hc] at hv ⊢
    simp only [nmK, if_true, List.mem_cons, List.not_mem_nil, or_false] at hv
    rcases hv with rfl | rfl | rfl <;> rfl
set_option maxHeartbeats 4000000 in
set_option maxRecDepth 100000 in
theorem c_X6_leaksOf {G : GM} {σ : SG} {Ts : Nat → Tx} {nt w i : Nat} (hw : w < 3) (hi : i < 8) (hT : CT (σ 3) (σ w) Ts nt) (hM : MO (σ w) i) : CI G yX6_leaksOf cX6_leaksOf 3 (some .int) 3 [rf G (36 + 14 * w), rf G (38 + 14 * w + i)] σ (fun r s => r = lkW (lkV Ts nt) (σ w) i ∧ same [4] σ s) := by
  refine Con.of cd_X6_leaksOf (Nat.le_of_ble_eq_true rfl) ?_
  intro X hX hZ
  have hX : Fx X G RX6 cX6_leaksOf 3 3 := hX
  show RR X G 3 0 (ll [(0, rf G (36 + 14 * w)), (1, rf G (38 + 14 * w + i))]) [] σ
  obtain ⟨l0, l1, l2, l3, l4, l5⟩ := layW hw
  have lm := layM hw hi
  obtain ⟨h, hh, eh⟩ := hM.2.2.2.2
  have ho : ∀ t, t < nt → okT (Ts t) := fun t ht => (hT.2.2.2 t ht).2
  obtain ⟨v, hv, ev⟩ := lkV_VO (Ts := Ts) (nt := nt) h (σ w (131 + 5 * i + 1)) (σ w (131 + 5 * i + 3)) hh
  refine r_aload_n hX dX6_leaksOf_0 rfl ⟨_, rfl⟩ (RR.pc (b := 1) rfl ?_)
  refine r_iconst (v := 0) hX dX6_leaksOf_1 (by decide) (RR.pc (b := 2) rfl ?_)
  refine r_aload_n hX dX6_leaksOf_2 rfl ⟨_, rfl⟩ (RR.pc (b := 3) rfl ?_)
  refine r_geti hX dX6_leaksOf_3 fl_X6_86 (by first | rfl | assumption) rfl (RR.pc (b := 6) rfl ?_)
  refine r_aload_n hX dX6_leaksOf_6 rfl ⟨_, rfl⟩ (RR.pc (b := 7) rfl ?_)
  refine r_geti hX dX6_leaksOf_7 fl_X6_86 (by first | rfl | assumption) rfl (RR.pc (b := 10) rfl ?_)
  refine r_aload_n hX dX6_leaksOf_10 rfl ⟨_, rfl⟩ (RR.pc (b := 11) rfl ?_)
  refine r_geti hX dX6_leaksOf_11 fl_X6_77 (by first | rfl | assumption) rfl (RR.pc (b := 14) rfl ?_)
  refine r_aload_n hX dX6_leaksOf_14 rfl ⟨_, rfl⟩ (RR.pc (b := 15) rfl ?_)
  refine r_geti hX dX6_leaksOf_15 fl_X6_83 (by first | rfl | assumption) rfl (RR.pc (b := 18) rfl ?_)
  refine r_callVi hX dX6_leaksOf_18 ml_X6_98 cd_X6_given iv_X6_given (c_X6_given (Ts := Ts) (nt := nt) (k := 0) hw (by omega) hT) (by decide) (by first | rfl | assumption) rfl rfl rfl rfl (Nat.le_of_ble_eq_true rfl) (fun r_18 s_18 e_18 => RR.pc (b := 21) rfl ?_)
  obtain ⟨rfl, hs⟩ := e_18
  refine r_istore_n hX dX6_leaksOf_21 (by decide) (RR.pc (b := 22) rfl ?_)
  refine r_aload_n hX dX6_leaksOf_22 rfl ⟨_, rfl⟩ (RR.pc (b := 23) rfl ?_)
  refine r_iload_n (i := 0) hX dX6_leaksOf_23 rfl (RR.pc (b := 24) rfl ?_)
  refine r_iconst (v := 0) hX dX6_leaksOf_24 (by decide) (RR.pc (b := 25) rfl ?_)
  refine r_sipush (v := 999) hX dX6_leaksOf_25 (by decide) (RR.pc (b := 28) rfl ?_)
  refine r_callSNie hX dX6_leaksOf_28 (List.mem_of_getElem? (i := 3) rfl) cd_X7_held st_X7_held (c_X7_held (by decide)) (by decide) rfl rfl (Nat.le_of_ble_eq_true rfl) (RR.pc (b := 31) rfl ?_)
  rw [show (if givF Ts nt (nI 0) (σ w (131 + 5 * i + 4)) (σ w (131 + 5 * i + 4)) (σ w (131 + 5 * i + 1)) (σ w (131 + 5 * i + 3)) < 0 then 0 else if 999 < givF Ts nt (nI 0) (σ w (131 + 5 * i + 4)) (σ w (131 + 5 * i + 4)) (σ w (131 + 5 * i + 1)) (σ w (131 + 5 * i + 3)) then 999 else givF Ts nt (nI 0) (σ w (131 + 5 * i + 4)) (σ w (131 + 5 * i + 4)) (σ w (131 + 5 * i + 1)) (σ w (131 + 5 * i + 3))) = nI v from by
    rw [eh]
    exact (lkV_giv hh ho).trans ev]
  have hsw : s_18 w = σ w := hs w (by simp; omega)
  refine r_callVie hX dX6_leaksOf_31 ml_X6_106 cd_X0_leaks iv_X0_leaks (c_X0_leaks lm hv) (by decide) (by first | rfl | assumption) rfl rfl rfl rfl (Nat.le_of_ble_eq_true rfl) (RR.pc (b := 34) rfl ?_)
  exact r_iret hX hZ dX6_leaksOf_34 ⟨_, rfl, ⟨by unfold lkW; rw [eh, ev, hsw], hs⟩⟩
set_option maxHeartbeats 4000000 in
set_option maxRecDepth 100000 in
theorem c_X6_draw {G : GM} {σ : SG} {w : Nat} (hw : w < 3) : CI G yX6_draw cX6_draw 1 (some .int) 0 [rf G (36 + 14 * w)] σ (fun r s => r = nI (dn (dz (σ w 6))) ∧ s = su σ w 6 (dz (σ w 6))) := by
  refine Con.of cd_X6_draw (Nat.le_of_ble_eq_true rfl) ?_
  intro X hX hZ
  have hX : Fx X G RX6 cX6_draw 1 0 := hX
  show RR X G 1 0 (ll [(0, rf G (36 + 14 * w))]) [] σ
  obtain ⟨l0, l1, l2, l3, l4, l5⟩ := layW hw
  refine r_aload_n hX dX6_draw_0 rfl ⟨_, rfl⟩ (RR.pc (b := 1) rfl ?_)
  refine r_aload_n hX dX6_draw_1 rfl ⟨_, rfl⟩ (RR.pc (b := 2) rfl ?_)
  refine r_geti hX dX6_draw_2 fl_X6_42 (by first | rfl | assumption) rfl (RR.pc (b := 5) rfl ?_)
  refine r_ldc hX dX6_draw_5 kc_X6_97 (RR.pc (b := 7) rfl ?_)
  refine r_imul hX dX6_draw_7 (RR.pc (b := 8) rfl ?_)
  refine r_sipush (v := 12345) hX dX6_draw_8 (by decide) (RR.pc (b := 11) rfl ?_)
  refine r_iadd hX dX6_draw_11 (RR.pc (b := 12) rfl ?_)
  refine r_puti hX dX6_draw_12 fl_X6_42 (by first | rfl | assumption) rfl ft_6_11 (RR.pc (b := 15) rfl ?_)
  refine r_aload_n hX dX6_draw_15 rfl ⟨_, rfl⟩ (RR.pc (b := 16) rfl ?_)
  refine r_geti hX dX6_draw_16 fl_X6_42 (by first | rfl | assumption) rfl (RR.pc (b := 19) rfl ?_)
  refine r_bipush (v := 8) hX dX6_draw_19 (by decide) (RR.pc (b := 21) rfl ?_)
  refine r_iushr hX dX6_draw_21 rfl (RR.pc (b := 22) rfl ?_)
  exact r_iret hX hZ dX6_draw_22 ⟨_, rfl, ⟨by rw [su_eq, pk_us, ush_eq]; rfl, rfl⟩⟩
set_option maxHeartbeats 4000000 in
set_option maxRecDepth 100000 in
theorem c_X6_birdsEat {G : GM} {σ : SG} {w : Nat} (hw : w < 3) : CU G yX6_birdsEat cX6_birdsEat 3 none 1 [rf G (36 + 14 * w)] σ (fun s => s = sr σ w (birdW (σ w))) := by
  refine Con.of cd_X6_birdsEat (Nat.le_of_ble_eq_true rfl) ?_
  intro X hX hZ
  have hX : Fx X G RX6 cX6_birdsEat 3 1 := hX
  show RR X G 3 0 (ll [(0, rf G (36 + 14 * w))]) [] σ
  obtain ⟨l0, l1, l2, l3, l4, l5⟩ := layW hw
  have hm := Nat.mod_lt (dn (dz (σ w 6))) (show 0 < 60 by decide)
  have hd := dn_lt (dz (σ w 6))
  refine r_aload_n hX dX6_birdsEat_0 rfl ⟨_, rfl⟩ (RR.pc (b := 1) rfl ?_)
  refine r_callVie hX dX6_birdsEat_1 ml_X6_89 cd_X6_draw iv_X6_draw (c_X6_draw hw) (by decide) (by first | rfl | assumption) rfl rfl rfl rfl (Nat.le_of_ble_eq_true rfl) (RR.pc (b := 4) rfl ?_)
  refine r_bipush (v := 60) hX dX6_birdsEat_4 (by decide) (RR.pc (b := 6) rfl ?_)
  refine r_irem hX dX6_birdsEat_6 (by decide) (RR.pc (b := 7) rfl ?_)
  rw [rem_lit (by omega) (by decide) (by decide)]
  refine r_istore_n hX dX6_birdsEat_7 (by decide) (RR.pc (b := 8) rfl ?_)
  refine r_aload_n hX dX6_birdsEat_8 rfl ⟨_, rfl⟩ (RR.pc (b := 9) rfl ?_)
  refine r_getr hX dX6_birdsEat_9 fl_X6_29 (by first | rfl | assumption) rfl (RR.pc (b := 12) rfl ?_)
  refine r_iconst (v := 0) hX dX6_birdsEat_12 (by decide) (RR.pc (b := 13) rfl ?_)
  refine r_iald hX dX6_birdsEat_13 (by first | rfl | assumption) (by first | rfl | assumption) (by first | decide | assumption | omega) (by decide) (by first | exact Nat.zero_add _ | rfl) (RR.pc (b := 14) rfl ?_)
  refine r_aload_n hX dX6_birdsEat_14 rfl ⟨_, rfl⟩ (RR.pc (b := 15) rfl ?_)
  refine r_getr hX dX6_birdsEat_15 fl_X6_22 (by first | rfl | assumption) rfl (RR.pc (b := 18) rfl ?_)
  refine r_iload_n (i := 0) hX dX6_birdsEat_18 rfl (RR.pc (b := 19) rfl ?_)
  refine r_iald hX dX6_birdsEat_19 (by first | rfl | assumption) rfl (by omega) (by decide) (by first | exact Nat.zero_add _ | rfl) (RR.pc (b := 20) rfl ?_)
  refine r_min hX (by decide) dX6_birdsEat_20 ml_X6_119 (Nat.le_of_ble_eq_true rfl) (RR.pc (b := 23) rfl ?_)
  simp only [su_eq, pk_un (show (7 + 0 : Nat) ≠ 6 by decide), pk_un (show 11 + dn (dz (σ w 6)) % 60 ≠ 6 by omega)]
  rw [show (if σ w (11 + dn (dz (σ w 6)) % 60) < σ w (7 + 0) then σ w (11 + dn (dz (σ w 6)) % 60) else σ w (7 + 0)) = eatW (σ w) (11 + dn (dz (σ w 6)) % 60) from by
    unfold eatW
    by_cases e : σ w 7 ≤ σ w (11 + dn (dz (σ w 6)) % 60)
    · rw [if_pos e, if_neg (Int32.not_lt.mpr e)]
    · rw [if_neg e, if_pos (Int32.not_le.mp e)]]
  refine r_istore_n hX dX6_birdsEat_23 (by decide) (RR.pc (b := 24) rfl ?_)
  refine r_aload_n hX dX6_birdsEat_24 rfl ⟨_, rfl⟩ (RR.pc (b := 25) rfl ?_)
  refine r_getr hX dX6_birdsEat_25 fl_X6_22 (by first | rfl | assumption) rfl (RR.pc (b := 28) rfl ?_)
  refine r_iload_n (i := 0) hX dX6_birdsEat_28 rfl (RR.pc (b := 29) rfl ?_)
  refine r_dup2_11 hX dX6_birdsEat_29 rfl rfl (RR.pc (b := 30) rfl ?_)
  refine r_iald hX dX6_birdsEat_30 (by first | rfl | assumption) rfl (by omega) (by decide) (by first | exact Nat.zero_add _ | rfl) (RR.pc (b := 31) rfl ?_)
  refine r_iload_n (i := 0) hX dX6_birdsEat_31 rfl (RR.pc (b := 32) rfl ?_)
  refine r_isub hX dX6_birdsEat_32 (RR.pc (b := 33) rfl ?_)
  refine r_iast hX dX6_birdsEat_33 (by first | rfl | assumption) rfl (by omega) (by decide) (by first | exact Nat.zero_add _ | rfl) (RR.pc (b := 34) rfl ?_)
  refine r_aload_n hX dX6_birdsEat_34 rfl ⟨_, rfl⟩ (RR.pc (b := 35) rfl ?_)
  refine r_dup hX dX6_birdsEat_35 rfl (RR.pc (b := 36) rfl ?_)
  refine r_geti hX dX6_birdsEat_36 fl_X6_62 (by first | rfl | assumption) rfl (RR.pc (b := 39) rfl ?_)
  refine r_iload_n (i := 0) hX dX6_birdsEat_39 rfl (RR.pc (b := 40) rfl ?_)
  refine r_iadd hX dX6_birdsEat_40 (RR.pc (b := 41) rfl ?_)
  refine r_puti hX dX6_birdsEat_41 fl_X6_62 (by first | rfl | assumption) rfl ft_6_8 (RR.pc (b := 44) rfl ?_)
  exact r_vret hX hZ dX6_birdsEat_44 ⟨rfl, by simp only [su, sr_eq, sr_sr, pk_un (show 11 + dn (dz (σ w 6)) % 60 ≠ 6 by omega), pk_un (show 4 ≠ 11 + dn (dz (σ w 6)) % 60 by omega), pk_un (show (4 : Nat) ≠ 6 by decide)]; rfl⟩
set_option maxHeartbeats 4000000 in
set_option maxRecDepth 100000 in
theorem c_X6_gustBlows {G : GM} {σ : SG} {w : Nat} (hw : w < 3) : CU G yX6_gustBlows cX6_gustBlows 4 none 2 [rf G (36 + 14 * w)] σ (fun s => s = sr σ w (gustsW (σ w))) := by
  refine Con.of cd_X6_gustBlows (Nat.le_of_ble_eq_true rfl) ?_
  intro X hX hZ
  have hX : Fx X G RX6 cX6_gustBlows 4 2 := hX
  show RR X G 4 0 (ll [(0, rf G (36 + 14 * w))]) [] σ
  obtain ⟨l0, l1, l2, l3, l4, l5⟩ := layW hw
  have hm := Nat.mod_lt (dn (dz (σ w 6))) (show 0 < 100 by decide)
  have hd := dn_lt (dz (σ w 6))
  refine r_aload_n hX dX6_gustBlows_0 rfl ⟨_, rfl⟩ (RR.pc (b := 1) rfl ?_)
  refine r_callVie hX dX6_gustBlows_1 ml_X6_89 cd_X6_draw iv_X6_draw (c_X6_draw hw) (by decide) (by first | rfl | assumption) rfl rfl rfl rfl (Nat.le_of_ble_eq_true rfl) (RR.pc (b := 4) rfl ?_)
  refine r_bipush (v := 100) hX dX6_gustBlows_4 (by decide) (RR.pc (b := 6) rfl ?_)
  refine r_irem hX dX6_gustBlows_6 (by decide) (RR.pc (b := 7) rfl ?_)
  rw [rem_lit (by omega) (by decide) (by decide)]
  refine r_aload_n hX dX6_gustBlows_7 rfl ⟨_, rfl⟩ (RR.pc (b := 8) rfl ?_)
  refine r_getr hX dX6_gustBlows_8 fl_X6_29 (by first | rfl | assumption) rfl (RR.pc (b := 11) rfl ?_)
  refine r_iconst (v := 1) hX dX6_gustBlows_11 (by decide) (RR.pc (b := 12) rfl ?_)
  refine r_iald hX dX6_gustBlows_12 (by first | rfl | assumption) (by first | rfl | assumption) (by first | decide | assumption | omega) (by decide) (by first | exact Nat.zero_add _ | rfl) (RR.pc (b := 13) rfl ?_)
  simp only [su_eq, pk_un (show (7 + 1 : Nat) ≠ 6 by decide)]
  refine r_icmp_lt (tgt := 17) hX dX6_gustBlows_13 rfl (fun h13 => ?_) (fun h13 => RR.pc (b := 16) rfl ?_)
  · have eG : gustsW (σ w) = gustW (upd (σ w) 6 (dz (σ w 6))) := by unfold gustsW; rw [if_neg (Int32.not_le.mpr h13)]
    rw [eG] at hZ
    show RR X G 4 17 _ [] (sr σ w (upd (σ w) 6 (dz (σ w 6))))
    generalize hv : upd (σ w) 6 (dz (σ w 6)) = v at hZ
    have hm2 := Nat.mod_lt (dn (dz (v 6))) (show 0 < 60 by decide)
    have hd2 := dn_lt (dz (v 6))
    refine r_aload_n hX dX6_gustBlows_17 rfl ⟨_, rfl⟩ (RR.pc (b := 18) rfl ?_)
    refine r_callVie hX dX6_gustBlows_18 ml_X6_89 cd_X6_draw iv_X6_draw (c_X6_draw hw) (by decide) (by first | rfl | assumption) rfl rfl rfl rfl (Nat.le_of_ble_eq_true rfl) (RR.pc (b := 21) rfl ?_)
    refine r_bipush (v := 60) hX dX6_gustBlows_21 (by decide) (RR.pc (b := 23) rfl ?_)
    refine r_irem hX dX6_gustBlows_23 (by decide) (RR.pc (b := 24) rfl ?_)
    simp only [sr_eq, su_sr]
    rw [rem_lit (by omega) (by decide) (by decide)]
    refine r_istore_n hX dX6_gustBlows_24 (by decide) (RR.pc (b := 25) rfl ?_)
    refine r_aload_n hX dX6_gustBlows_25 rfl ⟨_, rfl⟩ (RR.pc (b := 26) rfl ?_)
    refine r_getr hX dX6_gustBlows_26 fl_X6_22 (by first | rfl | assumption) rfl (RR.pc (b := 29) rfl ?_)
    refine r_iload_n (i := 0) hX dX6_gustBlows_29 rfl (RR.pc (b := 30) rfl ?_)
    refine r_iald hX dX6_gustBlows_30 (by first | rfl | assumption) rfl (by omega) (by decide) (by first | exact Nat.zero_add _ | rfl) (RR.pc (b := 31) rfl ?_)
    refine r_iconst (v := 2) hX dX6_gustBlows_31 (by decide) (RR.pc (b := 32) rfl ?_)
    refine r_idiv hX dX6_gustBlows_32 (by decide) (RR.pc (b := 33) rfl ?_)
    refine r_istore_n hX dX6_gustBlows_33 (by decide) (RR.pc (b := 34) rfl ?_)
    refine r_aload_n hX dX6_gustBlows_34 rfl ⟨_, rfl⟩ (RR.pc (b := 35) rfl ?_)
    refine r_getr hX dX6_gustBlows_35 fl_X6_22 (by first | rfl | assumption) rfl (RR.pc (b := 38) rfl ?_)
    refine r_iload_n (i := 0) hX dX6_gustBlows_38 rfl (RR.pc (b := 39) rfl ?_)
    refine r_dup2_11 hX dX6_gustBlows_39 rfl rfl (RR.pc (b := 40) rfl ?_)
    refine r_iald hX dX6_gustBlows_40 (by first | rfl | assumption) rfl (by omega) (by decide) (by first | exact Nat.zero_add _ | rfl) (RR.pc (b := 41) rfl ?_)
    refine r_iload_n (i := 0) hX dX6_gustBlows_41 rfl (RR.pc (b := 42) rfl ?_)
    refine r_isub hX dX6_gustBlows_42 (RR.pc (b := 43) rfl ?_)
    refine r_iast hX dX6_gustBlows_43 (by first | rfl | assumption) rfl (by omega) (by decide) (by first | exact Nat.zero_add _ | rfl) (RR.pc (b := 44) rfl ?_)
    refine r_iload_n (i := 0) hX dX6_gustBlows_44 rfl (RR.pc (b := 45) rfl ?_)
    refine r_aload_n hX dX6_gustBlows_45 rfl ⟨_, rfl⟩ (RR.pc (b := 46) rfl ?_)
    refine r_getr hX dX6_gustBlows_46 fl_X6_29 (by first | rfl | assumption) rfl (RR.pc (b := 49) rfl ?_)
    refine r_iconst (v := 2) hX dX6_gustBlows_49 (by decide) (RR.pc (b := 50) rfl ?_)
    refine r_iald hX dX6_gustBlows_50 (by first | rfl | assumption) (by first | rfl | assumption) (by first | decide | assumption | omega) (by decide) (by first | exact Nat.zero_add _ | rfl) (RR.pc (b := 51) rfl ?_)
    refine r_iadd hX dX6_gustBlows_51 (RR.pc (b := 52) rfl ?_)
    refine r_istore_n hX dX6_gustBlows_52 (by decide) (RR.pc (b := 53) rfl ?_)
    simp only [su_sr, sr_eq, pk_un (show (7 + 2 : Nat) ≠ 6 by decide), pk_un (show 7 + 2 ≠ 11 + dn (dz (v 6)) % 60 by omega), pk_un (show 11 + dn (dz (v 6)) % 60 ≠ 6 by omega)]
    refine r_iload_n (i := 0) hX dX6_gustBlows_53 rfl (RR.pc (b := 54) rfl ?_)
    refine r_callSNie hX dX6_gustBlows_54 (List.mem_of_getElem? (i := 5) rfl) cd_X7_isYard st_X7_isYard c_X7_isYard (by decide) rfl rfl (Nat.le_of_ble_eq_true rfl) (RR.pc (b := 57) rfl ?_)
    refine r_if_eq_b (tgt := 73) hX dX6_gustBlows_57 rfl (fun h57 => ?_) (fun h57 => RR.pc (b := 60) rfl ?_)
    · 
      refine r_aload_n hX dX6_gustBlows_73 rfl ⟨_, rfl⟩ (RR.pc (b := 74) rfl ?_)
      refine r_dup hX dX6_gustBlows_74 rfl (RR.pc (b := 75) rfl ?_)
      refine r_geti hX dX6_gustBlows_75 fl_X6_65 (by first | rfl | assumption) rfl (RR.pc (b := 78) rfl ?_)
      refine r_iload_n (i := 0) hX dX6_gustBlows_78 rfl (RR.pc (b := 79) rfl ?_)
      refine r_iadd hX dX6_gustBlows_79 (RR.pc (b := 80) rfl ?_)
      refine r_puti hX dX6_gustBlows_80 fl_X6_65 (by first | rfl | assumption) rfl ft_6_9 (RR.pc (b := 83) rfl ?_)
      exact r_vret hX hZ dX6_gustBlows_83 ⟨rfl, by unfold gustW gustT; rw [pk_un (by omega), pk_un (show (9 : Nat) ≠ 6 by decide), if_neg h57]; simp only [su, sr_eq, sr_sr]⟩
    · obtain ⟨j, hj, ej⟩ := vp_in_of (n := 60) (vp_in_iff.mpr ⟨h57.1, by omega⟩) (by decide)
      rw [ej]
      refine r_aload_n hX dX6_gustBlows_60 rfl ⟨_, rfl⟩ (RR.pc (b := 61) rfl ?_)
      refine r_getr hX dX6_gustBlows_61 fl_X6_22 (by first | rfl | assumption) rfl (RR.pc (b := 64) rfl ?_)
      refine r_iload_n (i := 0) hX dX6_gustBlows_64 rfl (RR.pc (b := 65) rfl ?_)
      refine r_dup2_11 hX dX6_gustBlows_65 rfl rfl (RR.pc (b := 66) rfl ?_)
      refine r_iald hX dX6_gustBlows_66 (by first | rfl | assumption) rfl (by omega) (by decide) (by first | exact Nat.zero_add _ | rfl) (RR.pc (b := 67) rfl ?_)
      refine r_iload_n (i := 0) hX dX6_gustBlows_67 rfl (RR.pc (b := 68) rfl ?_)
      refine r_iadd hX dX6_gustBlows_68 (RR.pc (b := 69) rfl ?_)
      refine r_iast hX dX6_gustBlows_69 (by first | rfl | assumption) rfl (by omega) (by decide) (by first | exact Nat.zero_add _ | rfl) (RR.pc (b := 70) rfl ?_)
      refine r_goto (tgt := 83) hX dX6_gustBlows_70 rfl ?_
      exact r_vret hX hZ dX6_gustBlows_83 ⟨rfl, by unfold gustW gustT; rw [pk_un (by omega), pk_un (show (9 : Nat) ≠ 6 by decide), if_pos h57, show nI (dn (dz (v 6)) % 60) + v 9 = nI j from ej, nI_clamp (by omega)]; simp only [su, sr_eq, sr_sr]⟩
  · 
    exact r_vret hX hZ dX6_gustBlows_16 ⟨rfl, by unfold gustsW; rw [if_pos (Int32.not_lt.mp h13)]; rfl⟩
theorem thr_min : ∀ v, v < 60 → (if nI v < 50 then nI v else 50) = hold (nI v) 50 := by decide +kernel
set_option maxHeartbeats 4000000 in
set_option maxRecDepth 100000 in
theorem c_X6_widenHoles {G : GM} {σ : SG} {w n : Nat} (hw : w < 3) (hN : σ w 0 = nI n) (h8 : n ≤ 8) (hM : ∀ a, a < n → MO (σ w) a) {t : Nat} (ht : t ≤ 9) (et : σ w 10 = nI t) : CU G yX6_widenHoles cX6_widenHoles 2 none 1 [rf G (36 + 14 * w)] σ (fun s => s = sr σ w (thrAll (σ w) n)) := by
  refine Con.of cd_X6_widenHoles (Nat.le_of_ble_eq_true rfl) ?_
  intro X hX hZ
  have hX : Fx X G RX6 cX6_widenHoles 2 1 := hX
  show RR X G 2 0 (ll [(0, rf G (36 + 14 * w))]) [] σ
  obtain ⟨l0, l1, l2, l3, l4, l5⟩ := layW hw
  have loop := loopK n (fun k => RR X G 2 2 (ll [(0, rf G (36 + 14 * w)), (1, .int (nI k))]) [] (sr σ w (thrAll (σ w) k))) (by
    intro k hk ih
    refine r_iload_n (i := 0) hX dX6_widenHoles_2 rfl (RR.pc (b := 3) rfl ?_)
    refine r_aload_n hX dX6_widenHoles_3 rfl ⟨_, rfl⟩ (RR.pc (b := 4) rfl ?_)
    refine r_geti hX dX6_widenHoles_4 fl_X6_46 (by first | rfl | assumption) rfl (RR.pc (b := 7) rfl ?_)
    rw [sr_eq, thrAll_out (i := 0) (by omega) (by omega), hN]
    refine r_icmp_ge (tgt := 46) hX dX6_widenHoles_7 rfl (fun h7 => ?_) (fun h7 => RR.pc (b := 10) rfl ?_)
    · have hk2 : k = n := by rw [nI_leI (by omega) (by omega)] at h7; omega
      subst hk2
      exact r_vret hX hZ dX6_widenHoles_46 ⟨rfl, rfl⟩
    · have hk2 : k < n := by rw [nI_leI (by omega) (by omega)] at h7; omega
      have lm := layM (w := w) (i := k) hw (by omega)
      obtain ⟨h, hh, eh⟩ := (thrAll_MO h8 ht et hM k hk k hk2).2.2.2.2
      refine r_aload_n hX dX6_widenHoles_10 rfl ⟨_, rfl⟩ (RR.pc (b := 11) rfl ?_)
      refine r_getr hX dX6_widenHoles_11 fl_X6_17 (by first | rfl | assumption) rfl (RR.pc (b := 14) rfl ?_)
      refine r_iload_n (i := 0) hX dX6_widenHoles_14 rfl (RR.pc (b := 15) rfl ?_)
      refine r_aald hX dX6_widenHoles_15 (by first | rfl | assumption) ⟨_, rfl⟩ rfl (by omega) (by decide) (RR.pc (b := 16) rfl ?_)
      refine r_bipush (v := 50) hX dX6_widenHoles_16 (by decide) (RR.pc (b := 18) rfl ?_)
      refine r_aload_n hX dX6_widenHoles_18 rfl ⟨_, rfl⟩ (RR.pc (b := 19) rfl ?_)
      refine r_getr hX dX6_widenHoles_19 fl_X6_17 (by first | rfl | assumption) rfl (RR.pc (b := 22) rfl ?_)
      refine r_iload_n (i := 0) hX dX6_widenHoles_22 rfl (RR.pc (b := 23) rfl ?_)
      refine r_aald hX dX6_widenHoles_23 (by first | rfl | assumption) ⟨_, rfl⟩ rfl (by omega) (by decide) (RR.pc (b := 24) rfl ?_)
      refine r_geti hX dX6_widenHoles_24 fl_X6_86 (by first | rfl | assumption) rfl (RR.pc (b := 27) rfl ?_)
      refine r_aload_n hX dX6_widenHoles_27 rfl ⟨_, rfl⟩ (RR.pc (b := 28) rfl ?_)
      refine r_getr hX dX6_widenHoles_28 fl_X6_29 (by first | rfl | assumption) rfl (RR.pc (b := 31) rfl ?_)
      refine r_iconst (v := 3) hX dX6_widenHoles_31 (by decide) (RR.pc (b := 32) rfl ?_)
      refine r_iald hX dX6_widenHoles_32 (by first | rfl | assumption) (by first | rfl | assumption) (by first | decide | assumption | omega) (by decide) (by first | exact Nat.zero_add _ | rfl) (RR.pc (b := 33) rfl ?_)
      refine r_iadd hX dX6_widenHoles_33 (RR.pc (b := 34) rfl ?_)
      refine r_min hX (by decide) dX6_widenHoles_34 ml_X6_119 (Nat.le_of_ble_eq_true rfl) (RR.pc (b := 37) rfl ?_)
      rw [sr_eq, show thrAll (σ w) k (7 + 3) = nI t from by rw [thrAll_out (by omega) (by omega)]; exact et, eh, nI_add, thr_min (h + t) (by omega)]
      refine r_puti hX dX6_widenHoles_37 fl_X6_86 (by first | rfl | assumption) rfl ft_0_4 (RR.pc (b := 40) rfl ?_)
      refine r_iinc hX dX6_widenHoles_40 rfl (by decide) (nI_1 k) (RR.pc (b := 43) rfl ?_)
      refine r_goto (tgt := 2) hX dX6_widenHoles_43 rfl ?_
      refine RR.eqs ?_ (RR.cut (ih hk2) (List.forall_mem_cons.mpr ⟨rfl, List.forall_mem_cons.mpr ⟨rfl, fun _ h => absurd h List.not_mem_nil⟩⟩))
      rw [su_sr, thrAll, eh, show thrAll (σ w) k 10 = nI t from by rw [thrAll_out (by omega) (by omega)]; exact et, nI_add]
    )
  refine r_iconst (v := 0) hX dX6_widenHoles_0 (by decide) (RR.pc (b := 1) rfl ?_)
  refine r_istore_n hX dX6_widenHoles_1 (by decide) (RR.pc (b := 2) rfl ?_)
  exact RR.eqs (sr_self (r := w)).symm (RR.cut (loop 0 (by omega)) (List.forall_mem_cons.mpr ⟨rfl, List.forall_mem_cons.mpr ⟨rfl, fun _ h => absurd h List.not_mem_nil⟩⟩))
