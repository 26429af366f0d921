/-! the class: what will be -/
def Ag (N : Nat) (w w' : Nat → Int32) : Prop := ∀ i, i < N → w i = w' i
theorem Ag.u {N : Nat} {w w' : Nat → Int32} (h : Ag N w w') {j : Nat} {v v' : Int32} (e : j < N → v = v') : Ag N (upd w j v) (upd w' j v') := by
  intro i hi
  unfold upd
  split
  next q => exact e (q ▸ hi)
  next => exact h i hi
theorem addL_ag {N : Nat} {w w' : Nat → Int32} {o : Nat} {e : Int32} (h : Ag N w w') : ∀ k, o + k ≤ N → Ag N (addL w o e k) (addL w' o e k) := by
  intro k
  induction k with
  | zero => intro _; exact h
  | succ k ih =>
    intro hk
    have A := ih (by omega)
    unfold addL
    exact A.u (fun q => by rw [A _ q])
theorem walkW_ag {V : Int32 → Int32 → Int32 → Int32} {N a : Nat} {w w' : Nat → Int32} (h : Ag N w w') (hN : 131 + 5 * a + 5 ≤ N) (hV : VO V) (hM : MO w a) : Ag N (walkW V w a) (walkW V w' a) := by
  obtain ⟨y, g, fl, s, hy, hg, hfl, hs, ey, eg, efl, es⟩ := walk_nums hV hM
  have e0 := h (131 + 5 * a) (by omega)
  have e1 := h (131 + 5 * a + 1) (by omega)
  have e2 := h (131 + 5 * a + 2) (by omega)
  have e3 := h (131 + 5 * a + 3) (by omega)
  have e4 := h (131 + 5 * a + 4) (by omega)
  have e5 := h 3 (by omega)
  have efl' : flW V w' a = flW V w a := by unfold flW lkW; rw [← e0, ← e1, ← e3, ← e4]
  have eg' : gW w' a = gW w a := by unfold gW; rw [← e0, ← e1, ← e2]
  unfold walkW wk3 wk1
  rw [efl', eg', ← e2, ← e3, ← e5, ey, es, nI_clamp (by omega), nI_clamp (by omega)]
  have A := addL_ag (o := 11 + y) (e := flW V w a / nI s) ((h.u (j := 131 + 5 * a + 3) (v := w (131 + 5 * a + 3) - flW V w a) (fun _ => rfl)).u (j := 3) (v := w 3 + flW V w a) (fun _ => rfl)) s (by omega)
  exact (A.u (fun q => by rw [A _ q])).u (fun _ => rfl)
theorem walkAll_ag {V : Int32 → Int32 → Int32 → Int32} {n : Nat} {w w' : Nat → Int32} (h : Ag (131 + 5 * n) w w') (hV : VO V) (hM : ∀ a, a < n → MO w a) : ∀ k, k ≤ n → Ag (131 + 5 * n) (walkAll V w k) (walkAll V w' k) := by
  intro k
  induction k with
  | zero => intro _; exact h
  | succ k ih =>
    intro hk
    have A := ih (by omega)
    unfold walkAll
    rw [← A (131 + 5 * k + 2) (by omega)]
    split
    · exact walkW_ag A (by omega) hV ((walkAll_ok hV hM k (by omega)).1 k (by omega))
    · exact A
theorem thrAll_ag {N : Nat} {w w' : Nat → Int32} (h : Ag N w w') (hN : 131 ≤ N) : ∀ k, Ag N (thrAll w k) (thrAll w' k) := by
  intro k
  induction k with
  | zero => exact h
  | succ k A =>
    unfold thrAll
    rw [← A 10 (by omega)]
    exact A.u (fun q => by rw [A _ q])
theorem thrW_ag {N n : Nat} {w w' : Nat → Int32} (h : Ag N w w') (hN : 131 ≤ N) : Ag N (thrW w n) (thrW w' n) := by
  unfold thrW
  rw [← h 2 (by omega)]
  split
  · exact thrAll_ag h hN n
  · exact h
theorem birdW_ag {N : Nat} {w w' : Nat → Int32} (h : Ag N w w') (hN : 131 ≤ N) : Ag N (birdW w) (birdW w') := by
  have q : dn (dz (w 6)) % 60 < 60 := Nat.mod_lt _ (by decide)
  unfold birdW eatW
  rw [← h 6 (by omega), ← h 4 (by omega), ← h 7 (by omega), ← h (11 + dn (dz (w 6)) % 60) (by omega)]
  exact ((h.u (fun _ => rfl)).u (fun _ => rfl)).u (fun _ => rfl)
theorem gustT_ag {N f : Nat} {v : Int32} {w w' : Nat → Int32} (h : Ag N w w') (hN : 131 ≤ N) : Ag N (gustT w f v) (gustT w' f v) := by
  unfold gustT
  rw [← h 9 (by omega), ← h 5 (by omega)]
  split
  · exact h.u (fun q => by rw [h _ q])
  · exact h.u (fun _ => rfl)
theorem gustW_ag {N : Nat} {w w' : Nat → Int32} (h : Ag N w w') (hN : 131 ≤ N) : Ag N (gustW w) (gustW w') := by
  have q : dn (dz (w 6)) % 60 < 60 := Nat.mod_lt _ (by decide)
  unfold gustW
  rw [← h 6 (by omega), ← h (11 + dn (dz (w 6)) % 60) (by omega)]
  exact gustT_ag ((h.u (fun _ => rfl)).u (fun _ => rfl)) hN
theorem minW_ag {V : Int32 → Int32 → Int32 → Int32} {n : Nat} {w w' : Nat → Int32} (h : Ag (131 + 5 * n) w w') (hV : VO V) (hM : ∀ a, a < n → MO w a) : Ag (131 + 5 * n) (minW V n w) (minW V n w') := by
  have A := birdW_ag (thrW_ag (n := n) (walkAll_ag h hV hM n (Nat.le_refl n)) (by omega)) (by omega)
  have B : Ag (131 + 5 * n) (gustsW (birdW (thrW (walkAll V w n) n))) (gustsW (birdW (thrW (walkAll V w' n) n))) := by
    generalize birdW (thrW (walkAll V w n) n) = u at A
    generalize birdW (thrW (walkAll V w' n) n) = u' at A
    unfold gustsW
    rw [← A 8 (by omega), ← A 6 (by omega)]
    split
    · exact A.u (fun _ => rfl)
    · exact gustW_ag (A.u (fun _ => rfl)) (by omega)
  unfold minW
  exact B.u (fun q => by rw [B _ q])
theorem minN_ag {V : Int32 → Int32 → Int32 → Int32} {n m : Nat} {w w' : Nat → Int32} (h : Ag (131 + 5 * n) w w') (hV : VO V) (hW : WO w n m) : ∀ k, Ag (131 + 5 * n) (minN V n w k) (minN V n w' k) := by
  intro k
  induction k with
  | zero => exact h
  | succ k A => exact minW_ag A hV (minN_WO hV hW k).2.2.1
theorem becW_ag {g f : Nat → Int32} {n : Nat} : Ag (131 + 5 * n) f (becW g f n) := fun i hi => by unfold becW; rw [if_pos hi]
theorem WO.ag {w w' : Nat → Int32} {n m : Nat} (h : WO w n m) (a : Ag (131 + 5 * n) w w') : WO w' n m := by
  obtain ⟨h0, h8, hM, hm, t, ht, et⟩ := h
  exact ⟨by rw [← a 0 (by omega)]; exact h0, h8, fun b hb => (hM b hb).congr (fun j hj => (a _ (by omega)).symm), by rw [← a 2 (by omega)]; exact hm, t, ht, by rw [← a 10 (by omega)]; exact et⟩
theorem CT.bec {s g f : Nat → Int32} {Ts : Nat → Tx} {nt n : Nat} (h : CT s f Ts nt) : CT s (becW g f n) Ts nt := ⟨by rw [← becW_ag 1 (by omega)]; exact h.1, h.2.1, fun k hk => by rw [← h.2.2.1 k hk]; unfold becW; split; rfl; rw [if_pos (by omega)], h.2.2.2⟩
theorem sumW_ag {N o : Nat} {w w' : Nat → Int32} (h : Ag N w w') : ∀ k, o + k ≤ N → sumW w o k = sumW w' o k := by
  intro k
  induction k with
  | zero => intro _; rfl
  | succ k ih => intro hk; unfold sumW; rw [ih (by omega), h _ (by omega)]
theorem sackW_ag {N : Nat} {w w' : Nat → Int32} (h : Ag N w w') : ∀ k, 131 + 5 * k ≤ N → sackW w k = sackW w' k := by
  intro k
  induction k with
  | zero => intro _; rfl
  | succ k ih => intro hk; unfold sackW; rw [ih (by omega), h _ (by omega)]
theorem thrP_ag {n : Nat} {w w' : Nat → Int32} (h : Ag (131 + 5 * n) w w') : thrP w n ↔ thrP w' n := by
  constructor
  · intro q k hk; rw [← h _ (by omega), ← h _ (by omega)]; exact q k hk
  · intro q k hk; rw [h _ (by omega), h _ (by omega)]; exact q k hk
theorem bestY_ag {N : Nat} {w w' : Nat → Int32} (h : Ag N w w') : ∀ k, 11 + k < N → bestY w k = bestY w' k := by
  intro k
  induction k with
  | zero => intro _; rfl
  | succ k ih =>
    intro hk
    have l := bestY_le (w := w') k
    unfold bestY
    rw [ih (by omega), h _ (by omega), h _ (by omega)]
set_option maxHeartbeats 4000000 in
set_option maxRecDepth 100000 in
theorem c_X7_behind {G : GM} {σ : SG} {Ts : Nat → Tx} {nt n m : Nat} {q what : Int32} (hT : CT (σ 3) (σ 0) Ts nt) (hW : WO (σ 0) n m) (hm : m ≤ 9999) : CI G yX7_behind cX7_behind 3 (some .int) 6 [rf G 0, .int q, .int what] σ (fun r s => r = behF (lkV Ts nt) n (σ 0) q what ∧ same [2, 4] σ s) := by
  refine Con.of cd_X7_behind (Nat.le_of_ble_eq_true rfl) ?_
  intro X hX hZ
  have hX : Fx X G RX7 cX7_behind 3 6 := hX
  show RR X G 3 0 (ll [(0, rf G 0), (1, .int q), (2, .int what)]) [] σ
  have hV : VO (lkV Ts nt) := lkV_VO
  have h8 := hW.2.1
  have bad : ¬ ((0 ≤ q.toInt ∧ q.toInt ≤ 100) ∧ (0 ≤ what.toInt ∧ what.toInt ≤ 2 + n)) → RR X G 3 27 (ll [(0, rf G 0)]) [] σ := by
    intro h
    refine r_ldc hX dX7_behind_27 kc_X7_75 (RR.pc (b := 29) rfl ?_)
    exact r_iret hX hZ dX7_behind_29 ⟨_, rfl, ⟨by unfold behF; rw [if_neg h], same.rf⟩⟩
  refine r_iload_n (i := 0) hX dX7_behind_0 rfl (RR.pc (b := 1) rfl ?_)
  refine r_iconst (v := 0) hX dX7_behind_1 (by decide) (RR.pc (b := 2) rfl ?_)
  refine r_bipush (v := 100) hX dX7_behind_2 (by decide) (RR.pc (b := 4) rfl ?_)
  refine r_callSie hX dX7_behind_4 ml_X7_71 cd_X7_within st_X7_within c_X7_within (by decide) rfl rfl (Nat.le_of_ble_eq_true rfl) (RR.pc (b := 7) rfl ?_)
  refine r_if_eq_b (tgt := 27) hX dX7_behind_7 rfl (fun h7 => ?_) (fun h7 => RR.pc (b := 10) rfl ?_)
  · try simp only [Int32.reduceToInt] at h7
    first | exact RR.cut (bad (fun z => h7 z.1)) (List.forall_mem_cons.mpr ⟨rfl, fun _ h => absurd h List.not_mem_nil⟩) | exact RR.cut (bad (fun z => h24 (by rw [nI_toInt (by omega)]; omega))) (List.forall_mem_cons.mpr ⟨rfl, fun _ h => absurd h List.not_mem_nil⟩)
  · try simp only [Int32.reduceToInt] at h7
    refine r_iload_n (i := 0) hX dX7_behind_10 rfl (RR.pc (b := 11) rfl ?_)
    refine r_iconst (v := 0) hX dX7_behind_11 (by decide) (RR.pc (b := 12) rfl ?_)
    refine r_iconst (v := 2) hX dX7_behind_12 (by decide) (RR.pc (b := 13) rfl ?_)
    refine r_aload_n hX dX7_behind_13 rfl ⟨_, rfl⟩ (RR.pc (b := 14) rfl ?_)
    refine r_getr hX dX7_behind_14 fl_X7_39 (by first | rfl | assumption) rfl (RR.pc (b := 17) rfl ?_)
    refine r_geti hX dX7_behind_17 fl_X7_76 (by first | rfl | assumption) rfl (RR.pc (b := 20) rfl ?_)
    rw [hW.1, show (2 : Int32) = nI 2 from rfl]
    refine r_iadd hX dX7_behind_20 (RR.pc (b := 21) rfl ?_)
    rw [nI_add]
    refine r_callSie hX dX7_behind_21 ml_X7_71 cd_X7_within st_X7_within c_X7_within (by decide) rfl rfl (Nat.le_of_ble_eq_true rfl) (RR.pc (b := 24) rfl ?_)
    refine r_if_ne_b (tgt := 30) hX dX7_behind_24 rfl (fun h24 => ?_) (fun h24 => RR.pc (b := 27) rfl ?_)
    · try simp only [Int32.reduceToInt] at h24
      rw [nI_toInt (by omega)] at h24
      obtain ⟨c, hc, rfl⟩ := ix_of (n := 101) (k := q) ⟨by omega, by omega⟩ (by omega)
      have eF : behF (lkV Ts nt) n (σ 0) (nI c) what = (if what = 0 then sumW (minN (lkV Ts nt) n (σ 0) c) 11 60 else if what = 1 then minN (lkV Ts nt) n (σ 0) c 4 else if what = 2 then minN (lkV Ts nt) n (σ 0) c 5 else minN (lkV Ts nt) n (σ 0) c (131 + 5 * (what.toNatClampNeg - 3) + 3)) := by
        unfold behF
        rw [if_pos ⟨h7, by omega⟩, nI_clamp (by omega)]
      have A := minN_ag (becW_ag (g := σ 2)) hV hW c
      refine r_aload_n hX dX7_behind_30 rfl ⟨_, rfl⟩ (RR.pc (b := 31) rfl ?_)
      refine r_getr hX dX7_behind_31 fl_X7_46 (by first | rfl | assumption) rfl (RR.pc (b := 34) rfl ?_)
      refine r_aload_n hX dX7_behind_34 rfl ⟨_, rfl⟩ (RR.pc (b := 35) rfl ?_)
      refine r_getr hX dX7_behind_35 fl_X7_39 (by first | rfl | assumption) rfl (RR.pc (b := 38) rfl ?_)
      refine r_callVve hX dX7_behind_38 ml_X7_191 cd_X6_become iv_X6_become (c_X6_become (w := 2) (u := 0) (n := n) (by decide) (by decide) (by decide) hW.1 h8) (by decide) (by first | rfl | assumption) rfl rfl rfl rfl (Nat.le_of_ble_eq_true rfl) (RR.pc (b := 41) rfl ?_)
      refine r_aload_n hX dX7_behind_41 rfl ⟨_, rfl⟩ (RR.pc (b := 42) rfl ?_)
      refine r_getr hX dX7_behind_42 fl_X7_46 (by first | rfl | assumption) rfl (RR.pc (b := 45) rfl ?_)
      refine r_iload_n (i := 0) hX dX7_behind_45 rfl (RR.pc (b := 46) rfl ?_)
      refine r_callVv hX dX7_behind_46 ml_X7_171 cd_X6_pass iv_X6_pass (c_X6_pass (w := 2) (Ts := Ts) (nt := nt) (n := n) (m := m) (q := c) (by decide) (by rw [sr_ne (by decide), sr_eq]; exact hT.bec) (by rw [sr_eq]; exact hW.ag becW_ag) (by omega)) (by decide) (by first | rfl | assumption) rfl rfl rfl rfl (Nat.le_of_ble_eq_true rfl) (fun s_46 e_46 => RR.pc (b := 49) rfl ?_)
      obtain ⟨e46, hs46⟩ := e_46
      rw [sr_eq] at e46
      refine r_iload_n (i := 0) hX dX7_behind_49 rfl (RR.pc (b := 50) rfl ?_)
      by_cases h50_0 : what = 0
      · refine r_tableIn (tgt := 76) hX dX7_behind_50 (by rw [h50_0]; decide) (by rw [h50_0]; decide) (by rw [h50_0]; rfl) rfl ?_
        refine r_aload_n hX dX7_behind_76 rfl ⟨_, rfl⟩ (RR.pc (b := 77) rfl ?_)
        refine r_getr hX dX7_behind_77 fl_X7_46 (by first | rfl | assumption) rfl (RR.pc (b := 80) rfl ?_)
        refine r_getr hX dX7_behind_80 fl_X7_140 (by first | rfl | assumption) rfl (RR.pc (b := 83) rfl ?_)
        refine r_callSie hX dX7_behind_83 ml_X7_175 cd_X7_sumOf st_X7_sumOf (c_X7_sumOf (k := 74) rfl) (by decide) rfl rfl (Nat.le_of_ble_eq_true rfl) (RR.pc (b := 86) rfl ?_)
        exact r_iret hX hZ dX7_behind_86 ⟨_, rfl, ⟨by rw [eF, if_pos h50_0, sumW_ag A 60 (by omega), e46], (same.rf.sr (by simp)).tr hs46⟩⟩
      by_cases h50_1 : what = 1
      · refine r_tableIn (tgt := 87) hX dX7_behind_50 (by rw [h50_1]; decide) (by rw [h50_1]; decide) (by rw [h50_1]; rfl) rfl ?_
        refine r_aload_n hX dX7_behind_87 rfl ⟨_, rfl⟩ (RR.pc (b := 88) rfl ?_)
        refine r_getr hX dX7_behind_88 fl_X7_46 (by first | rfl | assumption) rfl (RR.pc (b := 91) rfl ?_)
        refine r_geti hX dX7_behind_91 fl_X7_179 (by first | rfl | assumption) rfl (RR.pc (b := 94) rfl ?_)
        exact r_iret hX hZ dX7_behind_94 ⟨_, rfl, ⟨by rw [eF, if_neg h50_0, if_pos h50_1, A 4 (by omega), e46], (same.rf.sr (by simp)).tr hs46⟩⟩
      by_cases h50_2 : what = 2
      · refine r_tableIn (tgt := 95) hX dX7_behind_50 (by rw [h50_2]; decide) (by rw [h50_2]; decide) (by rw [h50_2]; rfl) rfl ?_
        refine r_aload_n hX dX7_behind_95 rfl ⟨_, rfl⟩ (RR.pc (b := 96) rfl ?_)
        refine r_getr hX dX7_behind_96 fl_X7_46 (by first | rfl | assumption) rfl (RR.pc (b := 99) rfl ?_)
        refine r_geti hX dX7_behind_99 fl_X7_182 (by first | rfl | assumption) rfl (RR.pc (b := 102) rfl ?_)
        exact r_iret hX hZ dX7_behind_102 ⟨_, rfl, ⟨by rw [eF, if_neg h50_0, if_neg h50_1, if_pos h50_2, A 5 (by omega), e46], (same.rf.sr (by simp)).tr hs46⟩⟩
      refine r_tableOut (tgt := 103) hX dX7_behind_50 (by have n0 : (what).toInt ≠ 0 := ne_toInt h50_0; have n1 : (what).toInt ≠ 1 := ne_toInt h50_1; have n2 : (what).toInt ≠ 2 := ne_toInt h50_2; omega) rfl ?_
      obtain ⟨b, hb, rfl⟩ := ix_of (n := 3 + n) (k := what) ⟨by omega, by omega⟩ (by omega)
      have hb3 : 3 ≤ b := by
        have a0 : b ≠ 0 := fun e => h50_0 (by rw [e]; rfl)
        have a1 : b ≠ 1 := fun e => h50_1 (by rw [e]; rfl)
        have a2 : b ≠ 2 := fun e => h50_2 (by rw [e]; rfl)
        omega
      have lm := layM2 (i := b - 3) (by omega)
      refine r_aload_n hX dX7_behind_103 rfl ⟨_, rfl⟩ (RR.pc (b := 104) rfl ?_)
      refine r_getr hX dX7_behind_104 fl_X7_46 (by first | rfl | assumption) rfl (RR.pc (b := 107) rfl ?_)
      refine r_getr hX dX7_behind_107 fl_X7_88 (by first | rfl | assumption) rfl (RR.pc (b := 110) rfl ?_)
      refine r_iload_n (i := 0) hX dX7_behind_110 rfl (RR.pc (b := 111) rfl ?_)
      refine r_iconst (v := 3) hX dX7_behind_111 (by decide) (RR.pc (b := 112) rfl ?_)
      rw [show (3 : Int32) = nI 3 from rfl]
      refine r_isub hX dX7_behind_112 (RR.pc (b := 113) rfl ?_)
      rw [pk_sub hb3]
      refine r_aald hX dX7_behind_113 (by first | rfl | assumption) ⟨_, rfl⟩ rfl (by omega) (by decide) (RR.pc (b := 114) rfl ?_)
      refine r_geti hX dX7_behind_114 fl_X7_103 (by first | rfl | assumption) rfl (RR.pc (b := 117) rfl ?_)
      exact r_iret hX hZ dX7_behind_117 ⟨_, rfl, ⟨by rw [eF, if_neg h50_0, if_neg h50_1, if_neg h50_2, nI_clamp (by omega), A _ (by omega), e46], (same.rf.sr (by simp)).tr hs46⟩⟩
    · try simp only [Int32.reduceToInt] at h24
      first | exact RR.cut (bad (fun z => h7 z.1)) (List.forall_mem_cons.mpr ⟨rfl, fun _ h => absurd h List.not_mem_nil⟩) | exact RR.cut (bad (fun z => h24 (by rw [nI_toInt (by omega)]; omega))) (List.forall_mem_cons.mpr ⟨rfl, fun _ h => absurd h List.not_mem_nil⟩)
theorem empN_go {V : Int32 → Int32 → Int32 → Int32} {n k : Nat} {w : Nat → Int32} (hk : k ≤ 300) (h : ¬ thrP (minN V n w k) n) : empN V n w (301 - k) = empN V n w (301 - (k + 1)) := by
  rw [show 301 - k = (300 - k) + 1 by omega, show 301 - (k + 1) = 300 - k by omega]
  unfold empN
  rw [show 300 - (300 - k) = k by omega, if_neg h]
  cases 300 - k <;> rfl
theorem empN_at {V : Int32 → Int32 → Int32 → Int32} {n k : Nat} {w : Nat → Int32} (hk : k ≤ 300) (h : thrP (minN V n w k) n) : empN V n w (301 - k) = nI k := by
  rw [show 301 - k = (300 - k) + 1 by omega]
  unfold empN
  rw [show 300 - (300 - k) = k by omega, if_pos h]
set_option maxHeartbeats 4000000 in
set_option maxRecDepth 100000 in
theorem c_X7_empty {G : GM} {σ : SG} {Ts : Nat → Tx} {nt n m : Nat} (hT : CT (σ 3) (σ 0) Ts nt) (hW : WO (σ 0) n m) (hm : m ≤ 9999) : CI G yX7_empty cX7_empty 2 (some .int) 6 [rf G 0] σ (fun r s => r = empN (lkV Ts nt) n (σ 0) 301 ∧ same [2, 4] σ s) := by
  refine Con.of cd_X7_empty (Nat.le_of_ble_eq_true rfl) ?_
  intro X hX hZ
  have hX : Fx X G RX7 cX7_empty 2 6 := hX
  show RR X G 2 0 (ll [(0, rf G 0)]) [] σ
  have hV : VO (lkV Ts nt) := lkV_VO
  have h8 := hW.2.1
  have A := minN_ag (becW_ag (g := σ 2)) hV hW
  have loop := loopK 301 (fun k => ∀ τ : SG, τ 2 = minN (lkV Ts nt) n (becW (σ 2) (σ 0) n) k → same [2, 4] σ τ → empN (lkV Ts nt) n (σ 0) 301 = empN (lkV Ts nt) n (σ 0) (301 - k) → RR X G 2 13 (ll [(0, rf G 0), (1, .int (nI k))]) [] τ) (by
    intro k hk ih τ et hs eF
    have wk := minN_WO hV (hW.ag (becW_ag (g := σ 2))) k
    refine r_iload_n (i := 0) hX dX7_empty_13 rfl (RR.pc (b := 14) rfl ?_)
    refine r_sipush (v := 300) hX dX7_empty_14 (by decide) (RR.pc (b := 17) rfl ?_)
    rw [show (300 : Int32) = nI 300 from rfl]
    refine r_icmp_gt (tgt := 46) hX dX7_empty_17 rfl (fun h17 => ?_) (fun h17 => RR.pc (b := 20) rfl ?_)
    · have hk2 : k = 301 := by rw [nI_ltI (by omega) (by omega)] at h17; omega
      subst hk2
      refine r_ldc hX dX7_empty_46 kc_X7_199 (RR.pc (b := 48) rfl ?_)
      exact r_iret hX hZ dX7_empty_48 ⟨_, rfl, ⟨by rw [eF]; rfl, hs⟩⟩
    · have hk2 : k ≤ 300 := by rw [Int32.not_lt, nI_leI (by omega) (by omega)] at h17; omega
      refine r_aload_n hX dX7_empty_20 rfl ⟨_, rfl⟩ (RR.pc (b := 21) rfl ?_)
      refine r_getr hX dX7_empty_21 fl_X7_46 (by first | rfl | assumption) rfl (RR.pc (b := 24) rfl ?_)
      refine r_callVie hX dX7_empty_24 ml_X7_195 cd_X6_isThrough iv_X6_isThrough (c_X6_isThrough (w := 2) (n := n) (by decide) (by rw [et]; exact wk.1) h8) (by decide) (by first | rfl | assumption) rfl rfl rfl rfl (Nat.le_of_ble_eq_true rfl) (RR.pc (b := 27) rfl ?_)
      refine r_if_eq_b (tgt := 32) hX dX7_empty_27 rfl (fun h27 => ?_) (fun h27 => RR.pc (b := 30) rfl ?_)
      · refine r_aload_n hX dX7_empty_32 rfl ⟨_, rfl⟩ (RR.pc (b := 33) rfl ?_)
        refine r_getr hX dX7_empty_33 fl_X7_46 (by first | rfl | assumption) rfl (RR.pc (b := 36) rfl ?_)
        refine r_iconst (v := 1) hX dX7_empty_36 (by decide) (RR.pc (b := 37) rfl ?_)
        refine r_callVv hX dX7_empty_37 ml_X7_171 cd_X6_pass iv_X6_pass (c_X6_pass (w := 2) (Ts := Ts) (nt := nt) (n := n) (m := m + k) (q := 1) (by decide) (by rw [hs 3 (by decide), et]; exact hT.bec.congr (minN_out hV (hW.ag becW_ag) (by omega) k) (fun i hi => minN_out hV (hW.ag becW_ag) (by omega) k)) (by rw [et]; exact wk) (by omega)) (by decide) (by first | rfl | assumption) rfl rfl rfl rfl (Nat.le_of_ble_eq_true rfl) (fun s_37 e_37 => RR.pc (b := 40) rfl ?_)
        obtain ⟨e37, hs37⟩ := e_37
        refine r_iinc hX dX7_empty_40 rfl (by decide) (nI_1 k) (RR.pc (b := 43) rfl ?_)
        refine r_goto (tgt := 13) hX dX7_empty_43 rfl ?_
        exact RR.cut (ih (by omega) _ (by rw [e37, et]; rfl) (hs.tr hs37) (by rw [eF]; exact empN_go hk2 (fun z => h27 (by rw [et]; exact (thrP_ag (A k)).mp z)))) (List.forall_mem_cons.mpr ⟨rfl, List.forall_mem_cons.mpr ⟨rfl, fun _ h => absurd h List.not_mem_nil⟩⟩)
      · refine r_iload_n (i := 0) hX dX7_empty_30 rfl (RR.pc (b := 31) rfl ?_)
        exact r_iret hX hZ dX7_empty_31 ⟨_, rfl, ⟨by rw [eF, empN_at hk2 ((thrP_ag (A k)).mpr (by rw [← et]; exact h27))], hs⟩⟩
    )
  refine r_aload_n hX dX7_empty_0 rfl ⟨_, rfl⟩ (RR.pc (b := 1) rfl ?_)
  refine r_getr hX dX7_empty_1 fl_X7_46 (by first | rfl | assumption) rfl (RR.pc (b := 4) rfl ?_)
  refine r_aload_n hX dX7_empty_4 rfl ⟨_, rfl⟩ (RR.pc (b := 5) rfl ?_)
  refine r_getr hX dX7_empty_5 fl_X7_39 (by first | rfl | assumption) rfl (RR.pc (b := 8) rfl ?_)
  refine r_callVve hX dX7_empty_8 ml_X7_191 cd_X6_become iv_X6_become (c_X6_become (w := 2) (u := 0) (n := n) (by decide) (by decide) (by decide) hW.1 h8) (by decide) (by first | rfl | assumption) rfl rfl rfl rfl (Nat.le_of_ble_eq_true rfl) (RR.pc (b := 11) rfl ?_)
  refine r_iconst (v := 0) hX dX7_empty_11 (by decide) (RR.pc (b := 12) rfl ?_)
  refine r_istore_n hX dX7_empty_12 (by decide) (RR.pc (b := 13) rfl ?_)
  exact RR.cut (loop 0 (by omega) _ sr_eq (same.rf.sr (by simp)) rfl) (List.forall_mem_cons.mpr ⟨rfl, List.forall_mem_cons.mpr ⟨rfl, fun _ h => absurd h List.not_mem_nil⟩⟩)
set_option maxHeartbeats 4000000 in
set_option maxRecDepth 100000 in
theorem c_X7_thickest {G : GM} {σ : SG} {Ts : Nat → Tx} {nt n m : Nat} {q what : Int32} (hT : CT (σ 3) (σ 0) Ts nt) (hW : WO (σ 0) n m) (hm : m ≤ 9999) : CI G yX7_thickest cX7_thickest 4 (some .int) 6 [rf G 0, .int q, .int what] σ (fun r s => r = thiF (lkV Ts nt) n (σ 0) q what ∧ same [2, 4] σ s) := by
  refine Con.of cd_X7_thickest (Nat.le_of_ble_eq_true rfl) ?_
  intro X hX hZ
  have hX : Fx X G RX7 cX7_thickest 4 6 := hX
  show RR X G 4 0 (ll [(0, rf G 0), (1, .int q), (2, .int what)]) [] σ
  have hV : VO (lkV Ts nt) := lkV_VO
  have h8 := hW.2.1
  have bad : ¬ ((0 ≤ q.toInt ∧ q.toInt ≤ 100) ∧ (0 ≤ what.toInt ∧ what.toInt ≤ 1)) → RR X G 4 19 (ll [(0, rf G 0)]) [] σ := by
    intro h
    refine r_ldc hX dX7_thickest_19 kc_X7_75 (RR.pc (b := 21) rfl ?_)
    exact r_iret hX hZ dX7_thickest_21 ⟨_, rfl, ⟨by unfold thiF; rw [if_neg h], same.rf⟩⟩
  refine r_iload_n (i := 0) hX dX7_thickest_0 rfl (RR.pc (b := 1) rfl ?_)
  refine r_iconst (v := 0) hX dX7_thickest_1 (by decide) (RR.pc (b := 2) rfl ?_)
  refine r_bipush (v := 100) hX dX7_thickest_2 (by decide) (RR.pc (b := 4) rfl ?_)
  refine r_callSie hX dX7_thickest_4 ml_X7_71 cd_X7_within st_X7_within c_X7_within (by decide) rfl rfl (Nat.le_of_ble_eq_true rfl) (RR.pc (b := 7) rfl ?_)
  refine r_if_eq_b (tgt := 19) hX dX7_thickest_7 rfl (fun h7 => ?_) (fun h7 => RR.pc (b := 10) rfl ?_)
  · try simp only [Int32.reduceToInt] at h7
    first | exact RR.cut (bad (fun z => h7 z.1)) (List.forall_mem_cons.mpr ⟨rfl, fun _ h => absurd h List.not_mem_nil⟩) | exact RR.cut (bad (fun z => h16 z.2)) (List.forall_mem_cons.mpr ⟨rfl, fun _ h => absurd h List.not_mem_nil⟩)
  · try simp only [Int32.reduceToInt] at h7
    refine r_iload_n (i := 0) hX dX7_thickest_10 rfl (RR.pc (b := 11) rfl ?_)
    refine r_iconst (v := 0) hX dX7_thickest_11 (by decide) (RR.pc (b := 12) rfl ?_)
    refine r_iconst (v := 1) hX dX7_thickest_12 (by decide) (RR.pc (b := 13) rfl ?_)
    refine r_callSie hX dX7_thickest_13 ml_X7_71 cd_X7_within st_X7_within c_X7_within (by decide) rfl rfl (Nat.le_of_ble_eq_true rfl) (RR.pc (b := 16) rfl ?_)
    refine r_if_ne_b (tgt := 22) hX dX7_thickest_16 rfl (fun h16 => ?_) (fun h16 => RR.pc (b := 19) rfl ?_)
    · try simp only [Int32.reduceToInt] at h16
      obtain ⟨c, hc, rfl⟩ := ix_of (n := 101) (k := q) ⟨by omega, by omega⟩ (by omega)
      have eF : thiF (lkV Ts nt) n (σ 0) (nI c) what = (if what = 0 then nI (bestY (minN (lkV Ts nt) n (σ 0) c) 59) else minN (lkV Ts nt) n (σ 0) c (11 + bestY (minN (lkV Ts nt) n (σ 0) c) 59)) := by
        unfold thiF
        rw [if_pos ⟨h7, h16⟩, nI_clamp (by omega)]
      have A := minN_ag (becW_ag (g := σ 2)) hV hW c
      have bl := bestY_le (w := minN (lkV Ts nt) n (becW (σ 2) (σ 0) n) c) 59
      refine r_aload_n hX dX7_thickest_22 rfl ⟨_, rfl⟩ (RR.pc (b := 23) rfl ?_)
      refine r_getr hX dX7_thickest_23 fl_X7_46 (by first | rfl | assumption) rfl (RR.pc (b := 26) rfl ?_)
      refine r_aload_n hX dX7_thickest_26 rfl ⟨_, rfl⟩ (RR.pc (b := 27) rfl ?_)
      refine r_getr hX dX7_thickest_27 fl_X7_39 (by first | rfl | assumption) rfl (RR.pc (b := 30) rfl ?_)
      refine r_callVve hX dX7_thickest_30 ml_X7_191 cd_X6_become iv_X6_become (c_X6_become (w := 2) (u := 0) (n := n) (by decide) (by decide) (by decide) hW.1 h8) (by decide) (by first | rfl | assumption) rfl rfl rfl rfl (Nat.le_of_ble_eq_true rfl) (RR.pc (b := 33) rfl ?_)
      refine r_aload_n hX dX7_thickest_33 rfl ⟨_, rfl⟩ (RR.pc (b := 34) rfl ?_)
      refine r_getr hX dX7_thickest_34 fl_X7_46 (by first | rfl | assumption) rfl (RR.pc (b := 37) rfl ?_)
      refine r_iload_n (i := 0) hX dX7_thickest_37 rfl (RR.pc (b := 38) rfl ?_)
      refine r_callVv hX dX7_thickest_38 ml_X7_171 cd_X6_pass iv_X6_pass (c_X6_pass (w := 2) (Ts := Ts) (nt := nt) (n := n) (m := m) (q := c) (by decide) (by rw [sr_ne (by decide), sr_eq]; exact hT.bec) (by rw [sr_eq]; exact hW.ag becW_ag) (by omega)) (by decide) (by first | rfl | assumption) rfl rfl rfl rfl (Nat.le_of_ble_eq_true rfl) (fun s_38 e_38 => RR.pc (b := 41) rfl ?_)
      obtain ⟨e38, hs38⟩ := e_38
      rw [sr_eq] at e38
      refine r_aload_n hX dX7_thickest_41 rfl ⟨_, rfl⟩ (RR.pc (b := 42) rfl ?_)
      refine r_getr hX dX7_thickest_42 fl_X7_46 (by first | rfl | assumption) rfl (RR.pc (b := 45) rfl ?_)
      refine r_callVie hX dX7_thickest_45 ml_X7_200 cd_X6_fullestYard iv_X6_fullestYard (c_X6_fullestYard (w := 2) (by decide)) (by decide) (by first | rfl | assumption) rfl rfl rfl rfl (Nat.le_of_ble_eq_true rfl) (RR.pc (b := 48) rfl ?_)
      refine r_istore_n hX dX7_thickest_48 (by decide) (RR.pc (b := 49) rfl ?_)
      refine r_iload_n (i := 0) hX dX7_thickest_49 rfl (RR.pc (b := 50) rfl ?_)
      refine r_if_ne (tgt := 57) hX dX7_thickest_50 rfl (fun h50 => ?_) (fun h50 => RR.pc (b := 53) rfl ?_)
      · refine r_aload_n hX dX7_thickest_57 rfl ⟨_, rfl⟩ (RR.pc (b := 58) rfl ?_)
        refine r_getr hX dX7_thickest_58 fl_X7_46 (by first | rfl | assumption) rfl (RR.pc (b := 61) rfl ?_)
        refine r_getr hX dX7_thickest_61 fl_X7_140 (by first | rfl | assumption) rfl (RR.pc (b := 64) rfl ?_)
        refine r_iload_n (i := 0) hX dX7_thickest_64 rfl (RR.pc (b := 65) rfl ?_)
        rw [e38]
        refine r_iald hX dX7_thickest_65 (by first | rfl | assumption) rfl (by omega) (by decide) (by first | exact Nat.zero_add _ | rfl) (RR.pc (b := 66) rfl ?_)
        exact r_iret hX hZ dX7_thickest_66 ⟨_, rfl, ⟨by rw [eF, bestY_ag A 59 (by omega)]; first | rw [if_pos h50, e38] | rw [if_neg h50, A _ (by omega), e38], (same.rf.sr (by simp)).tr hs38⟩⟩
      · refine r_iload_n (i := 0) hX dX7_thickest_53 rfl (RR.pc (b := 54) rfl ?_)
        refine r_goto (tgt := 66) hX dX7_thickest_54 rfl ?_
        exact r_iret hX hZ dX7_thickest_66 ⟨_, rfl, ⟨by rw [eF, bestY_ag A 59 (by omega)]; first | rw [if_pos h50, e38] | rw [if_neg h50, A _ (by omega), e38], (same.rf.sr (by simp)).tr hs38⟩⟩
    · try simp only [Int32.reduceToInt] at h16
      first | exact RR.cut (bad (fun z => h7 z.1)) (List.forall_mem_cons.mpr ⟨rfl, fun _ h => absurd h List.not_mem_nil⟩) | exact RR.cut (bad (fun z => h16 z.2)) (List.forall_mem_cons.mpr ⟨rfl, fun _ h => absurd h List.not_mem_nil⟩)
