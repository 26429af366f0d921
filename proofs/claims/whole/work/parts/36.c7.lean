/-! the class: what will be -/
def Ag (N : Nat) (w w' : Nat → Int32) : Prop := ∀ i, i < N → w i = w' i
theorem Ag.u {N : Nat} {w w' : Nat → Int32} (h : Ag N w w') {j : Nat} {v v' : Int32} (e : j < N → v = v') : Ag N (upd w j v) (upd w' j v') := by
  intro i hi
  unfold upd
  split
  next q => exact e (q ▸ hi)
  next => exact h i hi
theorem addL_ag {N : Nat} {w w' : Nat → Int32} {o : Nat} {e : Int32} (h : Ag N w w') : ∀ k, o + k ≤ N → Ag N (addL w o e k) (addL w' o e k) := by
  intro k
  induction k with
  | zero => intro _; exact h
  | succ k ih =>
    intro hk
    have A := ih (by omega)
    unfold addL
    exact A.u (fun q => by rw [A _ q])
theorem walkW_ag {V : Int32 → Int32 → Int32 → Int32} {N a : Nat} {w w' : Nat → Int32} (h : Ag N w w') (hN : 131 + 5 * a + 5 ≤ N) (hV : VO V) (hM : MO w a) : Ag N (walkW V w a) (walkW V w' a) := by
  obtain ⟨y, g, fl, s, hy, hg, hfl, hs, ey, eg, efl, es⟩ := walk_nums hV hM
  have e0 := h (131 + 5 * a) (by omega)
  have e1 := h (131 + 5 * a + 1) (by omega)
  have e2 := h (131 + 5 * a + 2) (by omega)
  have e3 := h (131 + 5 * a + 3) (by omega)
  have e4 := h (131 + 5 * a + 4) (by omega)
  have e5 := h 3 (by omega)
  have efl' : flW V w' a = flW V w a := by unfold flW lkW; rw [← e0, ← e1, ← e3, ← e4]
  have eg' : gW w' a = gW w a := by unfold gW; rw [← e0, ← e1, ← e2]
  unfold walkW wk3 wk1
  rw [efl', eg', ← e2, ← e3, ← e5, ey, es, nI_clamp (by omega), nI_clamp (by omega)]
  have A := addL_ag (o := 11 + y) (e := flW V w a / nI s) ((h.u (j := 131 + 5 * a + 3) (v := w (131 + 5 * a + 3) - flW V w a) (fun _ => rfl)).u (j := 3) (v := w 3 + flW V w a) (fun _ => rfl)) s (by omega)
  exact (A.u (fun q => by rw [A _ q])).u (fun _ => rfl)
theorem walkAll_ag {V : Int32 → Int32 → Int32 → Int32} {n : Nat} {w w' : Nat → Int32} (h : Ag (131 + 5 * n) w w') (hV : VO V) (hM : ∀ a, a < n → MO w a) : ∀ k, k ≤ n → Ag (131 + 5 * n) (walkAll V w k) (walkAll V w' k) := by
  intro k
  induction k with
  | zero => intro _; exact h
  | succ k ih =>
    intro hk
    have A := ih (by omega)
    unfold walkAll
    rw [← A (131 + 5 * k + 2) (by omega)]
    split
    · exact walkW_ag A (by omega) hV ((walkAll_ok hV hM k (by omega)).1 k (by omega))
    · exact A
theorem thrAll_ag {N : Nat} {w w' : Nat → Int32} (h : Ag N w w') (hN : 131 ≤ N) : ∀ k, Ag N (thrAll w k) (thrAll w' k) := by
  intro k
  induction k with
  | zero => exact h
  | succ k A =>
    unfold thrAll
    rw [← A 10 (by omega)]
    exact A.u (fun q => by rw [A _ q])
theorem thrW_ag {N n : Nat} {w w' : Nat → Int32} (h : Ag N w w') (hN : 131 ≤ N) : Ag N (thrW w n) (thrW w' n) := by
  unfold thrW
  rw [← h 2 (by omega)]
  split
  · exact thrAll_ag h hN n
  · exact h
theorem birdW_ag {N : Nat} {w w' : Nat → Int32} (h : Ag N w w') (hN : 131 ≤ N) : Ag N (birdW w) (birdW w') := by
  have q : dn (dz (w 6)) % 60 < 60 := Nat.mod_lt _ (by decide)
  unfold birdW eatW
  rw [← h 6 (by omega), ← h 4 (by omega), ← h 7 (by omega), ← h (11 + dn (dz (w 6)) % 60) (by omega)]
  exact ((h.u (fun _ => rfl)).u (fun _ => rfl)).u (fun _ => rfl)
theorem gustT_ag {N f : Nat} {v : Int32} {w w' : Nat → Int32} (h : Ag N w w') (hN : 131 ≤ N) : Ag N (gustT w f v) (gustT w' f v) := by
  unfold gustT
  rw [← h 9 (by omega), ← h 5 (by omega)]
  split
  · exact h.u (fun q => by rw [h _ q])
  · exact h.u (fun _ => rfl)
theorem gustW_ag {N : Nat} {w w' : Nat → Int32} (h : Ag N w w') (hN : 131 ≤ N) : Ag N (gustW w) (gustW w') := by
  have q : dn (dz (w 6)) % 60 < 60 := Nat.mod_lt _ (by decide)
  unfold gustW
  rw [← h 6 (by omega), ← h (11 + dn (dz (w 6)) % 60) (by omega)]
  exact gustT_ag ((h.u (fun _ => rfl)).u (fun _ => rfl)) hN
theorem minW_ag {V : Int32 → Int32 → Int32 → Int32} {n : Nat} {w w' : Nat → Int32} (h : Ag (131 + 5 * n) w w') (hV : VO V) (hM : ∀ a, a < n → MO w a) : Ag (131 + 5 * n) (minW V n w) (minW V n w') := by
  have A := birdW_ag (thrW_ag (n := n) (walkAll_ag h hV hM n (Nat.le_refl n)) (by omega)) (by omega)
  have B : Ag (131 + 5 * n) (gustsW (birdW (thrW (walkAll V w n) n))) (gustsW (birdW (thrW (walkAll V w' n) n))) := by
    generalize birdW (thrW (walkAll V w n) n) = u at A
    generalize birdW (thrW (walkAll V w' n) n) = u' at A
    unfold gustsW
    rw [← A 8 (by omega), ← A 6 (by omega)]
    split
    · exact A.u (fun _ => rfl)
    · exact gustW_ag (A.u (fun _ => rfl)) (by omega)
  unfold minW
  exact B.u (fun q => by rw [B _ q])
theorem minN_ag {V : Int32 → Int32 → Int32 → Int32} {n m : Nat} {w w' : Nat → Int32} (h : Ag (131 + 5 * n) w w') (hV : VO V) (hW : WO w n m) : ∀ k, Ag (131 + 5 * n) (minN V n w k) (minN V n w' k) := by
  intro k
  induction k with
  | zero => exact h
  | succ k A => exact minW_ag A hV (minN_WO hV hW k).2.2.1
theorem becW_ag {g f : Nat → Int32} {n : Nat} : Ag (131 + 5 * n) f (becW g f n) := fun i hi => by unfold becW; rw [if_pos hi]
theorem WO.ag {w w' : Nat → Int32} {n m : Nat} (h : WO w n m) (a : Ag (131 + 5 * n) w w') : WO w' n m := by
  obtain ⟨h0, h8, hM, hm, t, ht, et⟩ := h
  exact ⟨by rw [← a 0 (by omega)]; exact h0, h8, fun b hb => (hM b hb).congr (fun j hj => (a _ (by omega)).symm), by rw [← a 2 (by omega)]; exact hm, t, ht, by rw [← a 10 (by omega)]; exact et⟩
theorem CT.bec {s g f : Nat → Int32} {Ts : Nat → Tx} {nt n : Nat} (h : CT s f Ts nt) : CT s (becW g f n) Ts nt := ⟨by rw [← becW_ag 1 (by omega)]; exact h.1, h.2.1, fun k hk => by rw [← h.2.2.1 k hk]; unfold becW; split; rfl; rw [if_pos (by omega)], h.2.2.2⟩
theorem sumW_ag {N o : Nat} {w w' : Nat → Int32} (h : Ag N w w') : ∀ k, o + k ≤ N → sumW w o k = sumW w' o k := by
  intro k
  induction k with
  | zero => intro _; rfl
  | succ k ih => intro hk; unfold sumW; rw [ih (by omega), h _ (by omega)]
theorem sackW_ag {N : Nat} {w w' : Nat → Int32} (h : Ag N w w') : ∀ k, 131 + 5 * k ≤ N → sackW w k = sackW w' k := by
  intro k
  induction k with
  | zero => intro _; rfl
  | succ k ih => intro hk; unfold sackW; rw [ih (by omega), h _ (by omega)]
theorem thrP_ag {n : Nat} {w w' : Nat → Int32} (h : Ag (131 + 5 * n) w w') : thrP w n ↔ thrP w' n := by
  constructor
  · intro q k hk; rw [← h _ (by omega), ← h _ (by omega)]; exact q k hk
  · intro q k hk; rw [h _ (by omega), h _ (by omega)]; exact q k hk
theorem bestY_ag {N : Nat} {w w' : Nat → Int32} (h : Ag N w w') : ∀ k, 11 + k < N → bestY w k = bestY w' k := by
  intro k
  induction k with
  | zero => intro _; rfl
  | succ k ih =>
    intro hk
    have l := bestY_le (w := w') k
    unfold bestY
    rw [ih (by omega), h _ (by omega), h _ (by omega)]
set_option maxHeartbeats 4000000 in
set_option maxRecDepth 100000 in
theorem c_X7_behind {G : GM} {σ : SG} {Ts : Nat → Tx} {nt n m : Nat} {q what : Int32} (hT : CT (σ 3) (σ 0) Ts nt) (hW : WO (σ 0) n m) (hm : m ≤ 9999) : CI G yX7_behind cX7_behind 3 (some .int) 6 [rf G 0, .int q, .int what] σ (fun r s => r = behF (lkV Ts nt) n (σ 0) q what ∧ same [2, 4] σ s) := by
  refine Con.of cd_X7_behind (Nat.le_of_ble_eq_true rfl) ?_
  intro X hX hZ
  have hX : Fx X G RX7 cX7_behind 3 6 := hX
  show RR X G 3 0 (ll [(0, rf G 0), (1, .int q), (2, .int what)]) [] σ
  have hV : VO (lkV Ts nt) := lkV_VO
  have h8 := hW.2.1
  have bad : ¬ ((0 ≤ q.toInt ∧ q.toInt ≤ 100) ∧ (0 ≤ what.toInt ∧ what.toInt ≤ 2 + n)) → RR X G 3 27 (ll [(0, rf G 0)]) [] σ := by
    intro h
    refine r_ldc hX dX7_behind_27 kc_X7_75 (RR.pc (b := 29) rfl ?_)
    exact r_iret hX hZ dX7_behind_29 ⟨_, rfl, ⟨by unfold behF; rw [if_neg h], same.rf⟩⟩
  refine r_iload_n (i := 0) hX dX7_behind_0 rfl (RR.pc (b := 1) rfl ?_)
  refine r_iconst (v := 0) hX dX7_behind_1 (by decide) (RR.pc (b := 2) rfl ?_)
  refine r_bipush (v := 100) hX dX7_behind_2 (by decide) (RR.pc (b := 4) rfl ?_)
  refine r_callSie hX dX7_behind_4 ml_X7_71 cd_X7_within st_X7_within c_X7_within (by decide) rfl rfl (Nat.le_of_ble_eq_true rfl) (RR.pc (b := 7) rfl ?_)
  refine r_if_eq_b (tgt := 27) hX dX7_behind_7 rfl (fun h7 => ?_) (fun h7 => RR.pc (b := 10) rfl ?_)
  · try simp only [Int32.reduceToInt] at h7
    first | exact RR.cut (bad (fun z => h7 z.1)) (List.forall_mem_cons.mpr ⟨rfl, fun _ h => absurd h List.not_mem_nil⟩) | exact RR.cut (bad (fun z => h24 (by rw [nI_toInt (by omega)]; omega))) (List.forall_mem_cons.mpr ⟨rfl, fun _ h => absurd h List.not_mem_nil⟩)
  · try simp only [Int32.reduceToInt] at h7
    refine r_iload_n (i := 0) hX dX7_behind_10 rfl (RR.pc (b := 11) rfl ?_)
    refine r_iconst (v := 0) hX dX7_behind_11 (by decide) (RR.pc (b := 12) rfl ?_)
    refine r_iconst (v := 2) hX dX7_behind_12 (by decide) (RR.pc (b := 13) rfl ?_)
    refine r_aload_n hX dX7_behind_13 rfl ⟨_, rfl⟩ (RR.pc (b := 14) rfl ?_)
    refine r_getr hX dX7_behind_14 fl_X7_39 (by first | rfl | assumption) rfl (RR.pc (b := 17) rfl ?_)
    refine r_geti hX dX7_behind_17 fl_X7_76 (by first | rfl | assumption) rfl (RR.pc (b := 20) rfl ?_)
    rw [hW.1, show (2 : Int32) = nI 2 from rfl]
    refine r_iadd hX dX7_behind_20 (RR.pc (b := 21) rfl ?_)
    rw [nI_add]
    refine r_callSie hX dX7_behind_21 ml_X7_71 cd_X7_within st_X7_within c_X7_within (by decide) rfl rfl (Nat.le_of_ble_eq_true rfl) (RR.pc (b := 24) rfl ?_)
    refine r_if_ne_b (tgt := 30) hX dX7_behind_24 rfl (fun h24 => ?_) (fun h24 => RR.pc (b := 27) rfl ?_)
    · try simp only [Int32.reduceToInt] at h24
      rw [nI_toInt (by omega)] at h24
      obtain ⟨c, hc, rfl⟩ := ix_of (n := 101) (k := q) ⟨by omega, by omega⟩ (by omega)
      have eF : behF (lkV Ts nt) n (σ 0) (nI c) what = (if what = 0 then sumW (minN (lkV Ts nt) n (σ 0) c) 11 60 else if what = 1 then minN (lkV Ts nt) n (σ 0) c 4 else if what = 2 then minN (lkV Ts nt) n (σ 0) c 5 else minN (lkV Ts nt) n (σ 0) c (131 + 5 * (what.toNatClampNeg - 3) + 3)) := by
        unfold behF
        rw [if_pos ⟨h7, by omega⟩, nI_clamp (by omega)]
      have A := minN_ag (becW_ag (g := σ 2)) hV hW c
      refine r_aload_n hX dX7_behind_30 rfl ⟨_, rfl⟩ (RR.pc (b := 31) rfl ?_)
      refine r_getr hX dX7_behind_31 fl_X7_46 (by first | rfl | assumption) rfl (RR.pc (b := 34) rfl ?_)
      refine r_aload_n hX dX7_behind_34 rfl ⟨_, rfl⟩ (RR.pc (b := 35) rfl ?_)
      refine r_getr hX dX7_behind_35 fl_X7_39 (by first | rfl | assumption) rfl (RR.pc (b := 38) rfl ?_)
      refine r_callVve hX dX7_behind_38 ml_X7_191 cd_X6_become iv_X6_become (c_X6_become (w := 2) (u := 0) (n := n) (by decide) (by decide) (by decide) hW.1 h8) (by decide) (by first | rfl | assumption) rfl rfl rfl rfl (Nat.le_of_ble_eq_true rfl) (RR.pc (b := 41) rfl ?_)
      refine r_aload_n hX dX7_behind_41 rfl ⟨_, rfl⟩ (RR.pc (b := 42) rfl ?_)
      refine r_getr hX dX7_behind_42 fl_X7_46 (by first | rfl | assumption) rfl (RR.pc (b := 45) rfl ?_)
      refine r_iload_n (i := 0) hX dX7_behind_45 rfl (RR.pc (b := 46) rfl ?_)
      refine r_callVv hX dX7_behind_46 ml_X7_171 cd_X6_pass iv_X6_pass (c_X6_pass (w := 2) (Ts := Ts) (nt := nt) (n := n) (m := m) (q := c) (by decide) (by rw [sr_ne (by decide), sr_eq]; exact hT.bec) (by rw [sr_eq]; exact hW.ag becW_ag) (by omega)) (by decide) (by first | rfl | assumption) rfl rfl rfl rfl (Nat.le_of_ble_eq_true rfl) (fun s_46 e_46 => RR.pc (b := 49) rfl ?_)
      obtain ⟨e46, hs46⟩ := e_46
      rw [sr_eq] at e46
      refine r_iload_n (i := 0) hX dX7_behind_49 rfl (RR.pc (b := 50) rfl ?_)
      by_cases h50_0 : what = 0
      · refine r_tableIn (tgt := 76) hX dX7_behind_50 (by rw [h50_0]; decide) (by rw [h50_0]; decide) (by rw [h50_0]; rfl) rfl ?_
        refine r_aload_n hX dX7_behind_76 rfl ⟨_, rfl⟩ (RR.pc (b := 77) rfl ?_)
        refine r_getr hX dX7_behind_77 fl_X7_46 (by first | rfl | assumption) rfl (RR.pc (b := 80) rfl ?_)
        refine r_getr hX dX7_behind_80 fl_X7_140 (by first | rfl | assumption) rfl (RR.pc (b := 83) rfl ?_)
        refine r_callSie hX dX7_behind_83 ml_X7_175 cd_X7_sumOf st_X7_sumOf (c_X7_sumOf (k := 74) rfl) (by decide) rfl rfl (Nat.le_of_ble_eq_true rfl) (RR.pc (b := 86) rfl ?_)
        exact r_iret hX hZ dX7_behind_86 ⟨_, rfl, ⟨by rw [eF, if_pos h50_0, sumW_ag A 60 (by omega), e46], (same.rf.sr (by simp)).tr hs46⟩⟩
      by_cases h50_1 : what = 1
      · refine r_tableIn (tgt := 87) hX dX7_behind_50 (by rw [h50_1]; decide) (by rw [h50_1]; decide) (by rw [h50_1]; rfl) rfl ?_
        refine r_aload_n hX dX7_behind_87 rfl ⟨_, rfl⟩ (RR.pc (b := 88) rfl ?_)
        refine r_getr hX dX7_behind_88 fl_X7_46 (by first | rfl | assumption) rfl (RR.pc (b := 91) rfl ?_)
        refine r_geti hX dX7_behind_91 fl_X7_179 (by first | rfl | assumption) rfl (RR.pc (b := 94) rfl ?_)
        exact r_iret hX hZ dX7_behind_94 ⟨_, rfl, ⟨by rw [eF, if_neg h50_0, if_pos h50_1, A 4 (by omega), e46], (same.rf.sr (by simp)).tr hs46⟩⟩
      by_cases h50_2 : what = 2
      · refine r_tableIn (tgt := 95) hX dX7_behind_50 (by rw [h50_2]; decide) (by rw [h50_2]; decide) (by rw [h50_2]; rfl) rfl ?_
        refine r_aload_n hX dX7_behind_95 rfl ⟨_, rfl⟩ (RR.pc (b := 96) rfl ?_)
        refine r_getr hX dX7_behind_96 fl_X7_46 (by first | rfl | assumption) rfl (RR.pc (b := 99) rfl ?_)
        refine r_geti hX dX7_behind_99 fl_X7_182 (by first | rfl | assumption) rfl (RR.pc (b := 102) rfl ?_)
        exact r_iret hX hZ dX7_behind_102 ⟨_, rfl, ⟨by rw [eF, if_neg h50_0, if_neg h50_1, if_pos h50_2, A 5 (by omega), e46], (same.rf.sr (by simp)).tr hs46⟩⟩
      refine r_tableOut (tgt := 103) hX dX7_behind_50 (by have n0 : (what).toInt ≠ 0 := ne_toInt h50_0; have n1 : (what).toInt ≠ 1 := ne_toInt h50_1; have n2 : (what).toInt ≠ 2 := ne_toInt h50_2; omega) rfl ?_
      obtain ⟨b, hb, rfl⟩ := ix_of (n := 3 + n) (k := what) ⟨by omega, by omega⟩ (by omega)
      have hb3 : 3 ≤ b := by
        have a0 : b ≠ 0 := fun e => h50_0 (by rw [e]; rfl)
        have a1 : b ≠ 1 := fun e => h50_1 (by rw [e]; rfl)
        have a2 : b ≠ 2 := fun e => h50_2 (by rw [e]; rfl)
        omega
      have lm := layM2 (i := b - 3) (by omega)
      refine r_aload_n hX dX7_behind_103 rfl ⟨_, rfl⟩ (RR.pc (b := 104) rfl ?_)
      refine r_getr hX dX7_behind_104 fl_X7_46 (by first | rfl | assumption) rfl (RR.pc (b := 107) rfl ?_)
      refine r_getr hX dX7_behind_107 fl_X7_88 (by first | rfl | assumption) rfl (RR.pc (b := 110) rfl ?_)
      refine r_iload_n (i := 0) hX dX7_behind_110 rfl (RR.pc (b := 111) rfl ?_)
      refine r_iconst (v := 3) hX dX7_behind_111 (by decide) (RR.pc (b := 112) rfl ?_)
      rw [show (3 : Int32) = nI 3 from rfl]
      refine r_isub hX dX7_behind_112 (RR.pc (b := 113) rfl ?_)
      rw [pk_sub hb3]
      refine r_aald hX dX7_behind_113 (by first | rfl | assumption) ⟨_, rfl⟩ rfl (by omega) (by decide) (RR.pc (b := 114) rfl ?_)
      refine r_geti hX dX7_behind_114 fl_X7_103 (by first | rfl | assumption) rfl (RR.pc (b := 117) rfl ?_)
      exact r_iret hX hZ dX7_behind_117 ⟨_, rfl, ⟨by rw [eF, if_neg h50_0, if_neg h50_1, if_neg h50_2, nI_clamp (by omega), A _ (by omega), e46], (same.rf.sr (by simp)).tr hs46⟩⟩
    · try simp only [Int32.reduceToInt] at h24
      first | exact RR.cut (bad (fun z => h7 z.1)) (List.forall_mem_cons.mpr ⟨rfl, fun _ h => absurd h List.not_mem_nil⟩) | exact RR.cut (bad (fun z => h24 (by rw [nI_toInt (by omega)]; omega))) (List.forall_mem_cons.mpr ⟨rfl, fun _ h => absurd h List.not_mem_nil⟩)
theorem empN_go {V : Int32 → Int32 → Int32 → Int32} {n k : Nat} {w : Nat → Int32} (hk : k ≤ 300) (h : ¬ thrP (minN V n w k) n) : empN V n w (301 - k) = empN V n w (301 - (k + 1)) := by
  rw [show 301 - k = (300 - k) + 1 by omega, show 301 - (k + 1) = 300 - k by omega]
  unfold empN
  rw [show 300 - (300 - k) = k by omega, if_neg h]
  cases 300 - k <;> rfl
theorem empN_at {V : Int32 → Int32 → Int32 → Int32} {n k : Nat} {w : Nat → Int32} (hk : k ≤ 300) (h : thrP (minN V n w k) n) : empN V n w (301 - k) = nI k := by
  rw [show 301 - k = (300 - k) + 1 by omega]
  unfold empN
  rw [show 300 - (300 - k) = k by omega, if_pos h]
set_option maxHeartbeats 4000000 in
set_option maxRecDepth 100000 in
theorem c_X7_empty {G : GM} {σ : SG} {Ts : Nat → Tx} {nt n m : Nat} (hT : CT (σ 3) (σ 0) Ts nt) (hW : WO (σ 0) n m) (hm : m ≤ 9999) : CI G yX7_empty cX7_empty 2 (some .int) 6 [rf G 0] σ (fun r s => r = empN (lkV Ts nt) n (σ 0) 301 ∧ same [2, 4] σ s) := by
  refine Con.of cd_X7_empty (Nat.le_of_ble_eq_true rfl) ?_
  intro X hX hZ
  have hX : Fx X G RX7 cX7_empty 2 6 := hX
  show RR X G 2 0 (ll [(0, rf G 0)]) [] σ
  have hV : VO (lkV Ts nt) := lkV_VO
  have h8 := hW.2.1
  have A := minN_ag (becW_ag (g := σ 2)) hV hW
  have loop := loopK 301 (fun k => ∀ τ : SG, τ 2 = minN (lkV Ts nt) n (becW (σ 2) (σ 0) n) k → same [2, 4] σ τ → empN (lkV Ts nt) n (σ 0) 301 = empN (lkV Ts nt) n (σ 0) (301 - k) → RR X G 2 13 (ll [(0, rf G 0), (1, .int (nI k))]) [] τ) (by
    intro k hk ih τ et hs eF
    have wk := minN_WO hV (hW.ag (becW_ag (g := σ 2))) k
    refine r_iload_n (i := 0) hX dX7_empty_13 rfl (RR.pc (b := 14) rfl ?_)
    refine r_sipush (v := 300) hX dX7_empty_14 (by decide) (RR.pc (b := 17) rfl ?_)
    rw [show (300 : Int32) = nI 300 from rfl]
    refine r_icmp_gt (tgt := 46) hX dX7_empty_17 rfl (fun h17 => ?_) (fun h17 => RR.pc (b := 20) rfl ?_)
    · have hk2 : k = 301 := by rw [nI_ltI (by omega) (by omega)] at h17; omega
      subst hk2
      refine r_ldc hX dX7_empty_46 kc_X7_199 (RR.pc (b := 48) rfl ?_)
      exact r_iret hX hZ dX7_empty_48 ⟨_, rfl, ⟨by rw [eF]; rfl, hs⟩⟩
    · have hk2 : k ≤ 300 := by rw [Int32.not_lt, nI_leI (by omega) (by omega)] at h17; omega
      refine r_aload_n hX dX7_empty_20 rfl ⟨_, rfl⟩ (RR.pc (b := 21) rfl ?_)
      refine r_getr hX dX7_empty_21 fl_X7_46 (by first | rfl | assumption) rfl (RR.pc (b := 24) rfl ?_)
      refine r_callVie hX dX7_empty_24 ml_X7_195 cd_X6_isThrough iv_X6_isThrough (c_X6_isThrough (w := 2) (n := n) (by decide) (by rw [et]; exact wk.1) h8) (by decide) (by first | rfl | assumption) rfl rfl rfl rfl (Nat.le_of_ble_eq_true rfl) (RR.pc (b := 27) rfl ?_)
      refine r_if_eq_b (tgt := 32) hX dX7_empty_27 rfl (fun h27 => ?_) (fun h27 => RR.pc (b := 30) rfl ?_)
      · refine r_aload_n hX dX7_empty_32 rfl ⟨_, rfl⟩ (RR.pc (b := 33) rfl ?_)
        refine r_getr hX dX7_empty_33 fl_X7_46 (by first | rfl | assumption) rfl (RR.pc (b := 36) rfl ?_)
        refine r_iconst (v := 1) hX dX7_empty_36 (by decide) (RR.pc (b := 37) rfl ?_)
        refine r_callVv hX dX7_empty_37 ml_X7_171 cd_X6_pass iv_X6_pass (c_X6_pass (w := 2) (Ts := Ts) (nt := nt) (n := n) (m := m + k) (q := 1) (by decide) (by rw [hs 3 (by decide), et]; exact hT.bec.congr (minN_out hV (hW.ag becW_ag) (by omega) k) (fun i hi => minN_out hV (hW.ag becW_ag) (by omega) k)) (by rw [et]; exact wk) (by omega)) (by decide) (by first | rfl | assumption) rfl rfl rfl rfl (Nat.le_of_ble_eq_true rfl) (fun s_37 e_37 => RR.pc (b := 40) rfl ?_)
        obtain ⟨e37, hs37⟩ := e_37
        refine r_iinc hX dX7_empty_40 rfl (by decide) (nI_1 k) (RR.pc (b := 43) rfl ?_)
        refine r_goto (tgt := 13) hX dX7_empty_43 rfl ?_
        exact RR.cut (ih (by omega) _ (by rw [e37, et]; rfl) (hs.tr hs37) (by rw [eF]; exact empN_go hk2 (fun z => h27 (by rw [et]; exact (thrP_ag (A k)).mp z)))) (List.forall_mem_cons.mpr ⟨rfl, List.forall_mem_cons.mpr ⟨rfl, fun _ h => absurd h List.not_mem_nil⟩⟩)
      · refine r_iload_n (i := 0) hX dX7_empty_30 rfl (RR.pc (b := 31) rfl ?_)
        exact r_iret hX hZ dX7_empty_31 ⟨_, rfl, ⟨by rw [eF, empN_at hk2 ((thrP_ag (A k)).mpr (by rw [← et]; exact h27))], hs⟩⟩
    )
  refine r_aload_n hX dX7_empty_0 rfl ⟨_, rfl⟩ (RR.pc (b := 1) rfl ?_)
  refine r_getr hX dX7_empty_1 fl_X7_46 (by first | rfl | assumption) rfl (RR.pc (b := 4) rfl ?_)
  refine r_aload_n hX dX7_empty_4 rfl ⟨_, rfl⟩ (RR.pc (b := 5) rfl ?_)
  refine r_getr hX dX7_empty_5 fl_X7_39 (by first | rfl | assumption) rfl (RR.pc (b := 8) rfl ?_)
  refine r_callVve hX dX7_empty_8 ml_X7_191 cd_X6_become iv_X6_become (c_X6_become (w := 2) (u := 0) (n := n) (by decide) (by decide) (by decide) hW.1 h8) (by decide) (by first | rfl | assumption) rfl rfl rfl rfl (Nat.le_of_ble_eq_true rfl) (RR.pc (b := 11) rfl ?_)
  refine r_iconst (v := 0) hX dX7_empty_11 (by decide) (RR.pc (b := 12) rfl ?_)
  refine r_istore_n hX dX7_empty_12 (by decide) (RR.pc (b := 13) rfl ?_)
  exact RR.cut (loop 0 (by omega) _ sr_eq (same.rf.sr (by simp)) rfl) (List.forall_mem_cons.mpr ⟨rfl, List.forall_mem_cons.mpr ⟨rfl, fun _ h => absurd h List.not_mem_nil⟩⟩)
set_option maxHeartbeats 4000000 in
set_option maxRecDepth 100000 in
theorem c_X7_thickest {G : GM} {σ : SG} {Ts : Nat → Tx} {nt n m : Nat} {q what : Int32} (hT : CT (σ 3) (σ 0) Ts nt) (hW : WO (σ 0) n m) (hm : m ≤ 9999) : CI G yX7_thickest cX7_thickest 4 (some .int) 6 [rf G 0, .int q, .int what] σ (fun r s => r = thiF (lkV Ts nt) n (σ 0) q what ∧ same [2, 4] σ s) := by
  refine Con.of cd_X7_thickest (Nat.le_of_ble_eq_true rfl) ?_
  intro X hX hZ
  have hX : Fx X G RX7 cX7_thickest 4 6 := hX
  show RR X G 4 0 (ll [(0, rf G 0), (1, .int q), (2, .int what)]) [] σ
  have hV : VO (lkV Ts nt) := lkV_VO
  have h8 := hW.2.1
  have bad : ¬ ((0 ≤ q.toInt ∧ q.toInt ≤ 100) ∧ (0 ≤ what.toInt ∧ what.toInt ≤ 1)) → RR X G 4 19 (ll [(0, rf G 0)]) [] σ := by
    intro h
    refine r_ldc hX dX7_thickest_19 kc_X7_75 (RR.pc (b := 21) rfl ?_)
    exact r_iret hX hZ dX7_thickest_21 ⟨_, rfl, ⟨by unfold thiF; rw [if_neg h], same.rf⟩⟩
  refine r_iload_n (i := 0) hX dX7_thickest_0 rfl (RR.pc (b := 1) rfl ?_)
  refine r_iconst (v := 0) hX dX7_thickest_1 (by decide) (RR.pc (b := 2) rfl ?_)
  refine r_bipush (v := 100) hX dX7_thickest_2 (by decide) (RR.pc (b := 4) rfl ?_)
  refine r_callSie hX dX7_thickest_4 ml_X7_71 cd_X7_within st_X7_within c_X7_within (by decide) rfl rfl (Nat.le_of_ble_eq_true rfl) (RR.pc (b := 7) rfl ?_)
  refine r_if_eq_b (tgt := 19) hX dX7_thickest_7 rfl (fun h7 => ?_) (fun h7 => RR.pc (b := 10) rfl ?_)
  · try simp only [Int32.reduceToInt] at h7
    first | exact RR.cut (bad (fun z => h7 z.1)) (List.forall_mem_cons.mpr ⟨rfl, fun _ h => absurd h List.not_mem_nil⟩) | exact RR.cut (bad (fun z => h16 z.2)) (List.forall_mem_cons.mpr ⟨rfl, fun _ h => absurd h List.not_mem_nil⟩)
  · try simp only [Int32.reduceToInt] at h7
    refine r_iload_n (i := 0) hX dX7_thickest_10 rfl (RR.pc (b := 11) rfl ?_)
    refine r_iconst (v := 0) hX dX7_thickest_11 (by decide) (RR.pc (b := 12) rfl ?_)
    refine r_iconst (v := 1) hX dX7_thickest_12 (by decide) (RR.pc (b := 13) rfl ?_)
    refine r_callSie hX dX7_thickest_13 ml_X7_71 cd_X7_within st_X7_within c_X7_within (by decide) rfl rfl (Nat.le_of_ble_eq_true rfl) (RR.pc (b := 16) rfl ?_)
    refine r_if_ne_b (tgt := 22) hX dX7_thickest_16 rfl (fun h16 => ?_) (fun h16 => RR.pc (b := 19) rfl ?_)
    · try simp only [Int32.reduceToInt] at h16
      obtain ⟨c, hc, rfl⟩ := ix_of (n := 101) (k := q) ⟨by omega, by omega⟩ (by omega)
      have eF : thiF (lkV Ts nt) n (σ 0) (nI c) what = (if what = 0 then nI (bestY (minN (lkV Ts nt) n (σ 0) c) 59) else minN (lkV Ts nt) n (σ 0) c (11 + bestY (minN (lkV Ts nt) n (σ 0) c) 59)) := by
        unfold thiF
        rw [if_pos ⟨h7, h16⟩, nI_clamp (by omega)]
      have A := minN_ag (becW_ag (g := σ 2)) hV hW c
      have bl := bestY_le (w := minN (lkV Ts nt) n (becW (σ 2) (σ 0) n) c) 59
      refine r_aload_n hX dX7_thickest_22 rfl ⟨_, rfl⟩ (RR.pc (b := 23) rfl ?_)
      refine r_getr hX dX7_thickest_23 fl_X7_46 (by first | rfl | assumption) rfl (RR.pc (b := 26) rfl ?_)
      refine r_aload_n hX dX7_thickest_26 rfl ⟨_, rfl⟩ (RR.pc (b := 27) rfl ?_)
      refine r_getr hX dX7_thickest_27 fl_X7_39 (by first | rfl | assumption) rfl (RR.pc (b := 30) rfl ?_)
      refine r_callVve hX dX7_thickest_30 ml_X7_191 cd_X6_become iv_X6_become (c_X6_become (w := 2) (u := 0) (n := n) (by decide) (by decide) (by decide) hW.1 h8) (by decide) (by first | rfl | assumption) rfl rfl rfl rfl (Nat.le_of_ble_eq_true rfl) (RR.pc (b := 33) rfl ?_)
      refine r_aload_n hX dX7_thickest_33 rfl ⟨_, rfl⟩ (RR.pc (b := 34) rfl ?_)
      refine r_getr hX dX7_thickest_34 fl_X7_46 (by first | rfl | assumption) rfl (RR.pc (b := 37) rfl ?_)
      refine r_iload_n (i := 0) hX dX7_thickest_37 rfl (RR.pc (b := 38) rfl ?_)
      refine r_callVv hX dX7_thickest_38 ml_X7_171 cd_X6_pass iv_X6_pass (c_X6_pass (w := 2) (Ts := Ts) (nt := nt) (n := n) (m := m) (q := c) (by decide) (by rw [sr_ne (by decide), sr_eq]; exact hT.bec) (by rw [sr_eq]; exact hW.ag becW_ag) (by omega)) (by decide) (by first | rfl | assumption) rfl rfl rfl rfl (Nat.le_of_ble_eq_true rfl) (fun s_38 e_38 => RR.pc (b := 41) rfl ?_)
      obtain ⟨e38, hs38⟩ := e_38
      rw [sr_eq] at e38
      refine r_aload_n hX dX7_thickest_41 rfl ⟨_, rfl⟩ (RR.pc (b := 42) rfl ?_)
      refine r_getr hX dX7_thickest_42 fl_X7_46 (by first | rfl | assumption) rfl (RR.pc (b := 45) rfl ?_)
      refine r_callVie hX dX7_thickest_45 ml_X7_200 cd_X6_fullestYard iv_X6_fullestYard (c_X6_fullestYard (w := 2) (by decide)) (by decide) (by first | rfl | assumption) rfl rfl rfl rfl (Nat.le_of_ble_eq_true rfl) (RR.pc (b := 48) rfl ?_)
      refine r_istore_n hX dX7_thickest_48 (by decide) (RR.pc (b := 49) rfl ?_)
      refine r_iload_n (i := 0) hX dX7_thickest_49 rfl (RR.pc (b := 50) rfl ?_)
      refine r_if_ne (tgt := 57) hX dX7_thickest_50 rfl (fun h50 => ?_) (fun h50 => RR.pc (b := 53) rfl ?_)
      · refine r_aload_n hX dX7_thickest_57 rfl ⟨_, rfl⟩ (RR.pc (b := 58) rfl ?_)
        refine r_getr hX dX7_thickest_58 fl_X7_46 (by first | rfl | assumption) rfl (RR.pc (b := 61) rfl ?_)
        refine r_getr hX dX7_thickest_61 fl_X7_140 (by first | rfl | assumption) rfl (RR.pc (b := 64) rfl ?_)
        refine r_iload_n (i := 0) hX dX7_thickest_64 rfl (RR.pc (b := 65) rfl ?_)
        rw [e38]
        refine r_iald hX dX7_thickest_65 (by first | rfl | assumption) rfl (by omega) (by decide) (by first | exact Nat.zero_add _ | rfl) (RR.pc (b := 66) rfl ?_)
        exact r_iret hX hZ dX7_thickest_66 ⟨_, rfl, ⟨by rw [eF, bestY_ag A 59 (by omega)]; first | rw [if_pos h50, e38] | rw [if_neg h50, A _ (by omega), e38], (same.rf.sr (by simp)).tr hs38⟩⟩
      · refine r_iload_n (i := 0) hX dX7_thickest_53 rfl (RR.pc (b := 54) rfl ?_)
        refine r_goto (tgt := 66) hX dX7_thickest_54 rfl ?_
        exact r_iret hX hZ dX7_thickest_66 ⟨_, rfl, ⟨by rw [eF, bestY_ag A 59 (by omega)]; first | rw [if_pos h50, e38] | rw [if_neg h50, A _ (by omega), e38], (same.rf.sr (by simp)).tr hs38⟩⟩
    · try simp only [Int32.reduceToInt] at h16
      first | exact RR.cut (bad (fun z => h7 z.1)) (List.forall_mem_cons.mpr ⟨rfl, fun _ h => absurd h List.not_mem_nil⟩) | exact RR.cut (bad (fun z => h16 z.2)) (List.forall_mem_cons.mpr ⟨rfl, fun _ h => absurd h List.not_mem_nil⟩)
theorem WO.kind1 {w : Nat → Int32} {n m k : Nat} (h : WO w n m) : WO (upd w (131 + 5 * k) 1) n m := by
  obtain ⟨h0, h8, hM, hmi, t, ht, et⟩ := h
  refine ⟨by rw [pk_un (by omega)]; exact h0, h8, fun a ha => ?_, by rw [pk_un (by omega)]; exact hmi, t, ht, by rw [pk_un (by omega)]; exact et⟩
  by_cases e : a = k
  · subst e
    obtain ⟨q0, q1, q2, q3, q4⟩ := hM a ha
    unfold MO
    rw [pk_us, pk_un (by omega), pk_un (by omega), pk_un (by omega), pk_un (by omega)]
    exact ⟨⟨1, by omega, rfl⟩, q1, q2, q3, q4⟩
  · exact (hM a ha).congr (fun j hj => pk_un (by omega))
theorem sackW_N {w : Nat → Int32} {n : Nat} (hM : ∀ a, a < n → MO w a) : ∀ k, k ≤ n → ∃ s : Nat, s ≤ 9999 * k ∧ sackW w k = nI s := by
  intro k
  induction k with
  | zero => intro _; exact ⟨0, by omega, rfl⟩
  | succ k ih =>
    intro hk
    obtain ⟨s, hs, es⟩ := ih (by omega)
    obtain ⟨g, hg, eg⟩ := (hM k (by omega)).2.2.2.1
    exact ⟨s + g, by omega, by unfold sackW; rw [es, eg, nI_add]⟩
set_option maxHeartbeats 4000000 in
set_option maxRecDepth 100000 in
theorem c_X7_leftIfPatched {G : GM} {σ : SG} {Ts : Nat → Tx} {nt n m k c : Nat} (hT : CT (σ 3) (σ 0) Ts nt) (hW : WO (σ 0) n m) (hm : m ≤ 9999) (hk : k < n) (hc : c ≤ 100) : CI G yX7_leftIfPatched cX7_leftIfPatched 3 (some .int) 6 [rf G 0, .int (nI k), .int (nI c)] σ (fun r s => r = patV (lkV Ts nt) n (σ 0) c k ∧ same [2, 4] σ s) := by
  refine Con.of cd_X7_leftIfPatched (Nat.le_of_ble_eq_true rfl) ?_
  intro X hX hZ
  have hX : Fx X G RX7 cX7_leftIfPatched 3 6 := hX
  show RR X G 3 0 (ll [(0, rf G 0), (1, .int (nI k)), (2, .int (nI c))]) [] σ
  have hV : VO (lkV Ts nt) := lkV_VO
  have h8 := hW.2.1
  have lm := layM2 (i := k) (by omega)
  have a1 : Ag (131 + 5 * n) (upd (σ 0) (131 + 5 * k) 1) (upd (becW (σ 2) (σ 0) n) (131 + 5 * k) 1) := becW_ag.u (fun _ => rfl)
  have A := minN_ag a1 hV hW.kind1 c
  refine r_aload_n hX dX7_leftIfPatched_0 rfl ⟨_, rfl⟩ (RR.pc (b := 1) rfl ?_)
  refine r_getr hX dX7_leftIfPatched_1 fl_X7_46 (by first | rfl | assumption) rfl (RR.pc (b := 4) rfl ?_)
  refine r_aload_n hX dX7_leftIfPatched_4 rfl ⟨_, rfl⟩ (RR.pc (b := 5) rfl ?_)
  refine r_getr hX dX7_leftIfPatched_5 fl_X7_39 (by first | rfl | assumption) rfl (RR.pc (b := 8) rfl ?_)
  refine r_callVve hX dX7_leftIfPatched_8 ml_X7_191 cd_X6_become iv_X6_become (c_X6_become (w := 2) (u := 0) (n := n) (by decide) (by decide) (by decide) hW.1 h8) (by decide) (by first | rfl | assumption) rfl rfl rfl rfl (Nat.le_of_ble_eq_true rfl) (RR.pc (b := 11) rfl ?_)
  refine r_aload_n hX dX7_leftIfPatched_11 rfl ⟨_, rfl⟩ (RR.pc (b := 12) rfl ?_)
  refine r_getr hX dX7_leftIfPatched_12 fl_X7_46 (by first | rfl | assumption) rfl (RR.pc (b := 15) rfl ?_)
  refine r_getr hX dX7_leftIfPatched_15 fl_X7_88 (by first | rfl | assumption) rfl (RR.pc (b := 18) rfl ?_)
  refine r_iload_n (i := 0) hX dX7_leftIfPatched_18 rfl (RR.pc (b := 19) rfl ?_)
  refine r_aald hX dX7_leftIfPatched_19 (by first | rfl | assumption) ⟨_, rfl⟩ rfl (by omega) (by decide) (RR.pc (b := 20) rfl ?_)
  refine r_iconst (v := 1) hX dX7_leftIfPatched_20 (by decide) (RR.pc (b := 21) rfl ?_)
  refine r_puti hX dX7_leftIfPatched_21 fl_X7_92 (by first | rfl | assumption) rfl ft_0_0 (RR.pc (b := 24) rfl ?_)
  refine r_aload_n hX dX7_leftIfPatched_24 rfl ⟨_, rfl⟩ (RR.pc (b := 25) rfl ?_)
  refine r_getr hX dX7_leftIfPatched_25 fl_X7_46 (by first | rfl | assumption) rfl (RR.pc (b := 28) rfl ?_)
  refine r_iload_n (i := 0) hX dX7_leftIfPatched_28 rfl (RR.pc (b := 29) rfl ?_)
  refine r_callVv hX dX7_leftIfPatched_29 ml_X7_171 cd_X6_pass iv_X6_pass (c_X6_pass (w := 2) (Ts := Ts) (nt := nt) (n := n) (m := m) (q := c) (by decide) (by rw [su_ne (by decide), su_eq, sr_ne (by decide), sr_eq]; exact hT.bec.congr (pk_un (by omega)) (fun i hi => pk_un (by omega))) (by rw [su_eq, sr_eq]; exact hW.kind1.ag a1) (by omega)) (by decide) (by first | rfl | assumption) rfl rfl rfl rfl (Nat.le_of_ble_eq_true rfl) (fun s_29 e_29 => RR.pc (b := 32) rfl ?_)
  obtain ⟨e29, hs29⟩ := e_29
  rw [su_eq, sr_eq] at e29
  refine r_aload_n hX dX7_leftIfPatched_32 rfl ⟨_, rfl⟩ (RR.pc (b := 33) rfl ?_)
  refine r_getr hX dX7_leftIfPatched_33 fl_X7_46 (by first | rfl | assumption) rfl (RR.pc (b := 36) rfl ?_)
  refine r_callVie hX dX7_leftIfPatched_36 ml_X7_185 cd_X6_grainOfAll iv_X6_grainOfAll (c_X6_grainOfAll (w := 2) (n := n) (by decide) (by rw [e29]; exact (minN_WO hV (hW.kind1.ag a1) c).1) h8) (by decide) (by first | rfl | assumption) rfl rfl rfl rfl (Nat.le_of_ble_eq_true rfl) (RR.pc (b := 39) rfl ?_)
  exact r_iret hX hZ dX7_leftIfPatched_39 ⟨_, rfl, ⟨by unfold patV; rw [sackW_ag A n (by omega), e29], ((same.rf.sr (by simp)).su (by simp)).tr hs29⟩⟩
theorem patB_N {f : Nat → Int32} (h : ¬ f 0 ≤ -1) : ∀ k, ∃ j : Nat, j ≤ k ∧ patB f (k + 1) = nI j := by
  intro k
  induction k with
  | zero => exact ⟨0, by omega, if_neg h⟩
  | succ k ih =>
    obtain ⟨j, hj, e⟩ := ih
    unfold patB
    split
    · exact ⟨j, by omega, e⟩
    · exact ⟨k + 1, by omega, rfl⟩
set_option maxHeartbeats 4000000 in
set_option maxRecDepth 100000 in
theorem c_X7_patch {G : GM} {σ : SG} {Ts : Nat → Tx} {nt n m : Nat} {q what : Int32} (hT : CT (σ 3) (σ 0) Ts nt) (hW : WO (σ 0) n m) (hm : m ≤ 9999) : CI G yX7_patch cX7_patch 7 (some .int) 7 [rf G 0, .int q, .int what] σ (fun r s => r = patF (lkV Ts nt) n (σ 0) q what ∧ same [2, 4] σ s) := by
  refine Con.of cd_X7_patch (Nat.le_of_ble_eq_true rfl) ?_
  intro X hX hZ
  have hX : Fx X G RX7 cX7_patch 7 7 := hX
  show RR X G 7 0 (ll [(0, rf G 0), (1, .int q), (2, .int what)]) [] σ
  have hV : VO (lkV Ts nt) := lkV_VO
  have h8 := hW.2.1
  have bad : ¬ ((1 ≤ q.toInt ∧ q.toInt ≤ 60) ∧ (0 ≤ what.toInt ∧ what.toInt ≤ 1)) → RR X G 7 19 (ll [(0, rf G 0)]) [] σ := by
    intro h
    refine r_ldc hX dX7_patch_19 kc_X7_75 (RR.pc (b := 21) rfl ?_)
    exact r_iret hX hZ dX7_patch_21 ⟨_, rfl, ⟨by unfold patF; rw [if_neg h], same.rf⟩⟩
  have go : (1 ≤ q.toInt ∧ q.toInt ≤ 60) → (0 ≤ what.toInt ∧ what.toInt ≤ 1) → RR X G 7 22 (ll [(0, rf G 0), (1, .int q), (2, .int what)]) [] σ := by
    intro h9 h19
    obtain ⟨c, hc, rfl⟩ := ix_of (n := 101) (k := q) ⟨by omega, by omega⟩ (by omega)
    have eF : patF (lkV Ts nt) n (σ 0) (nI c) what = (if 0 ≤ patB (patV (lkV Ts nt) n (σ 0) c) n then (if what = 0 then patB (patV (lkV Ts nt) n (σ 0) c) n else patM (patV (lkV Ts nt) n (σ 0) c) n) else vNONE) := by
      unfold patF
      rw [if_pos ⟨h9, h19⟩, nI_clamp (by omega)]
    rw [eF] at hZ
    have hp : ¬ patV (lkV Ts nt) n (σ 0) c 0 ≤ -1 := by
      obtain ⟨s, hs, es⟩ := sackW_N (minN_WO hV (hW.kind1 (k := 0)) c).2.2.1 n (Nat.le_refl n)
      unfold patV
      rw [es, Int32.le_iff_toInt_le, nI_toInt (by omega)]
      have : (-1 : Int32).toInt = -1 := rfl
      omega
    generalize hf : patV (lkV Ts nt) n (σ 0) c = f at hZ hp
    have loop := loopK n (fun k => 0 < k → ∀ σ1 : SG, same [2, 4] σ σ1 → RR X G 7 48 (ll [(0, rf G 0), (1, .int (nI c)), (2, .int what), (3, .int (patB f k)), (4, .int (patM f k)), (5, .int (nI k))]) [] σ1) (by
      intro k hk ih k0 σ1 hs
      have e0 := hs 0 (by decide)
      have e3 := hs 3 (by decide)
      refine r_iload hX dX7_patch_48 rfl (RR.pc (b := 50) rfl ?_)
      refine r_aload_n hX dX7_patch_50 rfl ⟨_, rfl⟩ (RR.pc (b := 51) rfl ?_)
      refine r_getr hX dX7_patch_51 fl_X7_39 (by first | rfl | assumption) rfl (RR.pc (b := 54) rfl ?_)
      refine r_geti hX dX7_patch_54 fl_X7_76 (by first | rfl | assumption) rfl (RR.pc (b := 57) rfl ?_)
      rw [e0, hW.1]
      refine r_icmp_ge (tgt := 89) hX dX7_patch_57 rfl (fun h57 => ?_) (fun h57 => RR.pc (b := 60) rfl ?_)
      · have hk2 : k = n := by rw [nI_leI (by omega) (by omega)] at h57; omega
        subst hk2
        have hB : 0 ≤ patB f k := by
          obtain ⟨j, hj, e⟩ := patB_N hp (k - 1)
          rw [show k - 1 + 1 = k by omega] at e
          rw [e]
          exact (nI_leI (a := 0) (by omega) (by omega)).mpr (Nat.zero_le _)
        rw [if_pos hB] at hZ
        refine r_iload_n (i := 0) hX dX7_patch_89 rfl (RR.pc (b := 90) rfl ?_)
        refine r_if_ne (tgt := 97) hX dX7_patch_90 rfl (fun h90 => ?_) (fun h90 => RR.pc (b := 93) rfl ?_)
        · refine r_iload hX dX7_patch_97 rfl (RR.pc (b := 99) rfl ?_)
          exact r_iret hX hZ dX7_patch_99 ⟨_, rfl, ⟨by first | rw [if_pos h90] | rw [if_neg h90], hs⟩⟩
        · refine r_iload_n (i := 0) hX dX7_patch_93 rfl (RR.pc (b := 94) rfl ?_)
          refine r_goto (tgt := 99) hX dX7_patch_94 rfl ?_
          exact r_iret hX hZ dX7_patch_99 ⟨_, rfl, ⟨by first | rw [if_pos h90] | rw [if_neg h90], hs⟩⟩
      · have hk2 : k < n := by rw [nI_leI (by omega) (by omega)] at h57; omega
        have next : ∀ (τ : SG) (b1 b2 : Int32), patB f (k + 1) = b1 → patM f (k + 1) = b2 → same [2, 4] σ τ → RR X G 7 83 (ll [(0, rf G 0), (1, .int (nI c)), (2, .int what), (3, .int b1), (4, .int b2), (5, .int (nI k))]) [] τ := by
          intro τ b1 b2 q1 q2 hτ
          subst q1 q2
          refine r_iinc hX dX7_patch_83 rfl (by decide) (nI_1 k) (RR.pc (b := 86) rfl ?_)
          refine r_goto (tgt := 48) hX dX7_patch_86 rfl ?_
          exact RR.cut (ih hk2 (by omega) τ hτ) (List.forall_mem_cons.mpr ⟨rfl, List.forall_mem_cons.mpr ⟨rfl, List.forall_mem_cons.mpr ⟨rfl, List.forall_mem_cons.mpr ⟨rfl, List.forall_mem_cons.mpr ⟨rfl, List.forall_mem_cons.mpr ⟨rfl, fun _ h => absurd h List.not_mem_nil⟩⟩⟩⟩⟩⟩)
        refine r_aload_n hX dX7_patch_60 rfl ⟨_, rfl⟩ (RR.pc (b := 61) rfl ?_)
        refine r_iload hX dX7_patch_61 rfl (RR.pc (b := 63) rfl ?_)
        refine r_iload_n (i := 0) hX dX7_patch_63 rfl (RR.pc (b := 64) rfl ?_)
        refine r_callVi hX dX7_patch_64 ml_X7_203 cd_X7_leftIfPatched iv_X7_leftIfPatched (c_X7_leftIfPatched (Ts := Ts) (nt := nt) (n := n) (m := m) (k := k) (c := c) (by rw [e0, e3]; exact hT) (by rw [e0]; exact hW) hm hk2 (by omega)) (by decide) (by first | rfl | assumption) rfl rfl rfl rfl (Nat.le_of_ble_eq_true rfl) (fun r_64 s_64 e_64 => RR.pc (b := 67) rfl ?_)
        obtain ⟨rfl, hs64⟩ := e_64
        rw [e0, hf]
        refine r_istore hX dX7_patch_67 (by decide) (RR.pc (b := 69) rfl ?_)
        refine r_iload hX dX7_patch_69 rfl (RR.pc (b := 71) rfl ?_)
        refine r_iload hX dX7_patch_71 rfl (RR.pc (b := 73) rfl ?_)
        refine r_icmp_le (tgt := 83) hX dX7_patch_73 rfl (fun h73 => ?_) (fun h73 => RR.pc (b := 76) rfl ?_)
        · first | exact RR.cut (next _ (patB f k) (patM f k) (if_pos h73) (if_pos h73) (hs.tr hs64)) (List.forall_mem_cons.mpr ⟨rfl, List.forall_mem_cons.mpr ⟨rfl, List.forall_mem_cons.mpr ⟨rfl, List.forall_mem_cons.mpr ⟨rfl, List.forall_mem_cons.mpr ⟨rfl, List.forall_mem_cons.mpr ⟨rfl, fun _ h => absurd h List.not_mem_nil⟩⟩⟩⟩⟩⟩) | exact RR.cut (next _ (nI k) (f k) (if_neg h73) (if_neg h73) (hs.tr hs64)) (List.forall_mem_cons.mpr ⟨rfl, List.forall_mem_cons.mpr ⟨rfl, List.forall_mem_cons.mpr ⟨rfl, List.forall_mem_cons.mpr ⟨rfl, List.forall_mem_cons.mpr ⟨rfl, List.forall_mem_cons.mpr ⟨rfl, fun _ h => absurd h List.not_mem_nil⟩⟩⟩⟩⟩⟩)
        · refine r_iload hX dX7_patch_76 rfl (RR.pc (b := 78) rfl ?_)
          refine r_istore_n hX dX7_patch_78 (by decide) (RR.pc (b := 79) rfl ?_)
          refine r_iload hX dX7_patch_79 rfl (RR.pc (b := 81) rfl ?_)
          refine r_istore hX dX7_patch_81 (by decide) (RR.pc (b := 83) rfl ?_)
          first | exact RR.cut (next _ (patB f k) (patM f k) (if_pos h73) (if_pos h73) (hs.tr hs64)) (List.forall_mem_cons.mpr ⟨rfl, List.forall_mem_cons.mpr ⟨rfl, List.forall_mem_cons.mpr ⟨rfl, List.forall_mem_cons.mpr ⟨rfl, List.forall_mem_cons.mpr ⟨rfl, List.forall_mem_cons.mpr ⟨rfl, fun _ h => absurd h List.not_mem_nil⟩⟩⟩⟩⟩⟩) | exact RR.cut (next _ (nI k) (f k) (if_neg h73) (if_neg h73) (hs.tr hs64)) (List.forall_mem_cons.mpr ⟨rfl, List.forall_mem_cons.mpr ⟨rfl, List.forall_mem_cons.mpr ⟨rfl, List.forall_mem_cons.mpr ⟨rfl, List.forall_mem_cons.mpr ⟨rfl, List.forall_mem_cons.mpr ⟨rfl, fun _ h => absurd h List.not_mem_nil⟩⟩⟩⟩⟩⟩)
      )
    by_cases hn : n = 0
    · subst hn
      refine r_aload_n hX dX7_patch_22 rfl ⟨_, rfl⟩ (RR.pc (b := 23) rfl ?_)
      refine r_getr hX dX7_patch_23 fl_X7_39 (by first | rfl | assumption) rfl (RR.pc (b := 26) rfl ?_)
      refine r_geti hX dX7_patch_26 fl_X7_76 (by first | rfl | assumption) rfl (RR.pc (b := 29) rfl ?_)
      refine r_if_ne (tgt := 35) hX dX7_patch_29 rfl (fun h29 => absurd (by rw [hW.1]; decide) h29) (fun h29 => RR.pc (b := 32) rfl ?_)
      refine r_ldc hX dX7_patch_32 kc_X7_199 (RR.pc (b := 34) rfl ?_)
      exact r_iret hX hZ dX7_patch_34 ⟨_, rfl, ⟨rfl, same.rf⟩⟩
    · skip
      refine r_aload_n hX dX7_patch_22 rfl ⟨_, rfl⟩ (RR.pc (b := 23) rfl ?_)
      refine r_getr hX dX7_patch_23 fl_X7_39 (by first | rfl | assumption) rfl (RR.pc (b := 26) rfl ?_)
      refine r_geti hX dX7_patch_26 fl_X7_76 (by first | rfl | assumption) rfl (RR.pc (b := 29) rfl ?_)
      rw [hW.1]
      refine r_if_ne (tgt := 35) hX dX7_patch_29 rfl (fun h29 => ?_) (fun h29 => absurd h29 (fun z => hn ((nI_eq (a := n) (b := 0) (by omega) (by omega)).mp z)))
      refine r_iconst (v := 0) hX dX7_patch_35 (by decide) (RR.pc (b := 36) rfl ?_)
      refine r_istore_n hX dX7_patch_36 (by decide) (RR.pc (b := 37) rfl ?_)
      refine r_aload_n hX dX7_patch_37 rfl ⟨_, rfl⟩ (RR.pc (b := 38) rfl ?_)
      refine r_iconst (v := 0) hX dX7_patch_38 (by decide) (RR.pc (b := 39) rfl ?_)
      refine r_iload_n (i := 0) hX dX7_patch_39 rfl (RR.pc (b := 40) rfl ?_)
      refine r_callVi hX dX7_patch_40 ml_X7_203 cd_X7_leftIfPatched iv_X7_leftIfPatched (c_X7_leftIfPatched (Ts := Ts) (nt := nt) (n := n) (m := m) (k := 0) (c := c) hT hW hm (by omega) (by omega)) (by decide) (by first | rfl | assumption) rfl rfl rfl rfl (Nat.le_of_ble_eq_true rfl) (fun r_40 s_40 e_40 => RR.pc (b := 43) rfl ?_)
      obtain ⟨rfl, hs40⟩ := e_40
      rw [hf]
      refine r_istore hX dX7_patch_43 (by decide) (RR.pc (b := 45) rfl ?_)
      refine r_iconst (v := 1) hX dX7_patch_45 (by decide) (RR.pc (b := 46) rfl ?_)
      refine r_istore hX dX7_patch_46 (by decide) (RR.pc (b := 48) rfl ?_)
      have eB : patB f 1 = 0 := if_neg hp
      have eM : patM f 1 = f 0 := if_neg hp
      rw [← eB, ← eM]
      exact RR.cut (loop 1 (by omega) (by omega) _ hs40) (List.forall_mem_cons.mpr ⟨rfl, List.forall_mem_cons.mpr ⟨rfl, List.forall_mem_cons.mpr ⟨rfl, List.forall_mem_cons.mpr ⟨rfl, List.forall_mem_cons.mpr ⟨rfl, List.forall_mem_cons.mpr ⟨rfl, fun _ h => absurd h List.not_mem_nil⟩⟩⟩⟩⟩⟩)
  refine r_iload_n (i := 0) hX dX7_patch_0 rfl (RR.pc (b := 1) rfl ?_)
  refine r_iconst (v := 1) hX dX7_patch_1 (by decide) (RR.pc (b := 2) rfl ?_)
  refine r_bipush (v := 60) hX dX7_patch_2 (by decide) (RR.pc (b := 4) rfl ?_)
  refine r_callSie hX dX7_patch_4 ml_X7_71 cd_X7_within st_X7_within c_X7_within (by decide) rfl rfl (Nat.le_of_ble_eq_true rfl) (RR.pc (b := 7) rfl ?_)
  refine r_if_eq_b (tgt := 19) hX dX7_patch_7 rfl (fun h7 => ?_) (fun h7 => RR.pc (b := 10) rfl ?_)
  · try simp only [Int32.reduceToInt] at h7
    exact RR.cut (bad (fun z => by first | exact h7 z.1 | exact h16 z.2)) (List.forall_mem_cons.mpr ⟨rfl, fun _ h => absurd h List.not_mem_nil⟩)
  · try simp only [Int32.reduceToInt] at h7
    refine r_iload_n (i := 0) hX dX7_patch_10 rfl (RR.pc (b := 11) rfl ?_)
    refine r_iconst (v := 0) hX dX7_patch_11 (by decide) (RR.pc (b := 12) rfl ?_)
    refine r_iconst (v := 1) hX dX7_patch_12 (by decide) (RR.pc (b := 13) rfl ?_)
    refine r_callSie hX dX7_patch_13 ml_X7_71 cd_X7_within st_X7_within c_X7_within (by decide) rfl rfl (Nat.le_of_ble_eq_true rfl) (RR.pc (b := 16) rfl ?_)
    refine r_if_ne_b (tgt := 22) hX dX7_patch_16 rfl (fun h16 => ?_) (fun h16 => RR.pc (b := 19) rfl ?_)
    · try simp only [Int32.reduceToInt] at h16
      exact RR.cut (go h7 h16) (List.forall_mem_cons.mpr ⟨rfl, List.forall_mem_cons.mpr ⟨rfl, List.forall_mem_cons.mpr ⟨rfl, fun _ h => absurd h List.not_mem_nil⟩⟩⟩)
    · try simp only [Int32.reduceToInt] at h16
      exact RR.cut (bad (fun z => by first | exact h7 z.1 | exact h16 z.2)) (List.forall_mem_cons.mpr ⟨rfl, fun _ h => absurd h List.not_mem_nil⟩)
theorem panW_ag {V : Int32 → Int32 → Int32 → Int32} {n m p : Nat} {w w' : Nat → Int32} (h : Ag (131 + 5 * n) w w') (hV : VO V) (hW : WO w n m) : ∀ k, Ag (131 + 5 * n) (panW V n w p k) (panW V n w' p k) := by
  intro k
  induction k with
  | zero => exact h
  | succ k A => exact (minW_ag A hV (panW_WO hV hW k).2.2.1).u (fun _ => rfl)
theorem panS_ag {V : Int32 → Int32 → Int32 → Int32} {n m p : Nat} {w w' : Nat → Int32} (h : Ag (131 + 5 * n) w w') (hV : VO V) (hW : WO w n m) : ∀ k, panS V n w p k = panS V n w' p k := by
  intro k
  induction k with
  | zero => rfl
  | succ k ih =>
    unfold panS
    rw [ih, minW_ag (panW_ag h hV hW k) hV (panW_WO hV hW k).2.2.1 _ (by omega)]
theorem min59 {v : Nat} (hv : v ≤ 9 * 60) : (if (59 : Int32) < nI v then 59 else nI v) = nI (min v 59) := by
  rw [show (59 : Int32) = nI 59 from rfl]
  by_cases h : 59 < v
  · rw [if_pos (nI_lt h (by omega)), show min v 59 = 59 by omega]
  · rw [if_neg (nI_nlt (by omega) (by omega)), show min v 59 = v by omega]
set_option maxHeartbeats 4000000 in
set_option maxRecDepth 100000 in
theorem c_X7_pan {G : GM} {σ : SG} {Ts : Nat → Tx} {nt n m : Nat} {p q : Int32} (hT : CT (σ 3) (σ 0) Ts nt) (hW : WO (σ 0) n m) (hm : m ≤ 9999) : CI G yX7_pan cX7_pan 5 (some .int) 6 [rf G 0, .int p, .int q] σ (fun r s => r = panF (lkV Ts nt) n (σ 0) p q ∧ same [2, 4] σ s) := by
  refine Con.of cd_X7_pan (Nat.le_of_ble_eq_true rfl) ?_
  intro X hX hZ
  have hX : Fx X G RX7 cX7_pan 5 6 := hX
  show RR X G 5 0 (ll [(0, rf G 0), (1, .int p), (2, .int q)]) [] σ
  have hV : VO (lkV Ts nt) := lkV_VO
  have h8 := hW.2.1
  have bad : ¬ ((0 ≤ p.toInt ∧ p.toInt ≤ 9) ∧ (1 ≤ q.toInt ∧ q.toInt ≤ 60)) → RR X G 5 20 (ll [(0, rf G 0)]) [] σ := by
    intro h
    refine r_ldc hX dX7_pan_20 kc_X7_75 (RR.pc (b := 22) rfl ?_)
    exact r_iret hX hZ dX7_pan_22 ⟨_, rfl, ⟨by unfold panF; rw [if_neg h], same.rf⟩⟩
  have go : (0 ≤ p.toInt ∧ p.toInt ≤ 9) → (1 ≤ q.toInt ∧ q.toInt ≤ 60) → RR X G 5 23 (ll [(0, rf G 0), (1, .int p), (2, .int q)]) [] σ := by
    intro h9 h19
    obtain ⟨c, hc, rfl⟩ := ix_of (n := 101) (k := q) ⟨by omega, by omega⟩ (by omega)
    obtain ⟨b, hb, rfl⟩ := ix_of (n := 10) (k := p) ⟨by omega, by omega⟩ (by omega)
    have hW2 : WO (becW (σ 2) (σ 0) n) n m := hW.ag becW_ag
    have eF : panF (lkV Ts nt) n (σ 0) (nI b) (nI c) = panS (lkV Ts nt) n (becW (σ 2) (σ 0) n) b c := by
      unfold panF
      rw [if_pos ⟨h9, h19⟩, nI_clamp (by omega), nI_clamp (by omega), panS_ag (becW_ag (g := σ 2)) hV hW]
    rw [eF] at hZ
    have hc2 : c ≤ 60 := by rw [nI_toInt (by omega)] at h19; omega
    have loop := loopK c (fun k => ∀ σ1 : SG, σ1 2 = panW (lkV Ts nt) n (becW (σ 2) (σ 0) n) b k → same [2, 4] σ σ1 → RR X G 5 39 (ll [(0, rf G 0), (1, .int (nI b)), (2, .int (nI c)), (3, .int (panS (lkV Ts nt) n (becW (σ 2) (σ 0) n) b k)), (4, .int (nI (k + 1)))]) [] σ1) (by
      intro k hk ih σ1 e1 hs
      have hW1 : WO (σ1 2) n (m + k) := by rw [e1]; exact panW_WO hV hW2 k
      have hT1 : CT (σ1 3) (σ1 2) Ts nt := by rw [hs 3 (by decide), e1]; exact hT.bec.congr (panW_out hV hW2 (by omega) k) (fun i hi => panW_out hV hW2 (by omega) k)
      refine r_iload hX dX7_pan_39 rfl (RR.pc (b := 41) rfl ?_)
      refine r_iload_n (i := 0) hX dX7_pan_41 rfl (RR.pc (b := 42) rfl ?_)
      refine r_icmp_gt (tgt := 78) hX dX7_pan_42 rfl (fun h42 => ?_) (fun h42 => RR.pc (b := 45) rfl ?_)
      · have hk2 : k = c := by rw [nI_ltI (by omega) (by omega)] at h42; omega
        subst hk2
        refine r_iload_n (i := 0) hX dX7_pan_78 rfl (RR.pc (b := 79) rfl ?_)
        exact r_iret hX hZ dX7_pan_79 ⟨_, rfl, ⟨rfl, hs⟩⟩
      · have hk2 : k < c := by rw [nI_ltI (by omega) (by omega)] at h42; omega
        have hbk : b * (k + 1) ≤ 9 * 60 := Nat.mul_le_mul (by omega) (by omega)
        refine r_aload_n hX dX7_pan_45 rfl ⟨_, rfl⟩ (RR.pc (b := 46) rfl ?_)
        refine r_getr hX dX7_pan_46 fl_X7_46 (by first | rfl | assumption) rfl (RR.pc (b := 49) rfl ?_)
        refine r_iconst (v := 1) hX dX7_pan_49 (by decide) (RR.pc (b := 50) rfl ?_)
        refine r_callVv hX dX7_pan_50 ml_X7_171 cd_X6_pass iv_X6_pass (c_X6_pass (w := 2) (Ts := Ts) (nt := nt) (n := n) (m := m + k) (q := 1) (by decide) hT1 hW1 (by omega)) (by decide) (by first | rfl | assumption) rfl rfl rfl rfl (Nat.le_of_ble_eq_true rfl) (fun s_50 e_50 => RR.pc (b := 53) rfl ?_)
        obtain ⟨e50, hs50⟩ := e_50
        refine r_iload_n (i := 0) hX dX7_pan_53 rfl (RR.pc (b := 54) rfl ?_)
        refine r_aload_n hX dX7_pan_54 rfl ⟨_, rfl⟩ (RR.pc (b := 55) rfl ?_)
        refine r_getr hX dX7_pan_55 fl_X7_46 (by first | rfl | assumption) rfl (RR.pc (b := 58) rfl ?_)
        refine r_iload_n (i := 0) hX dX7_pan_58 rfl (RR.pc (b := 59) rfl ?_)
        refine r_iload hX dX7_pan_59 rfl (RR.pc (b := 61) rfl ?_)
        refine r_imul hX dX7_pan_61 (RR.pc (b := 62) rfl ?_)
        rw [pk_mul]
        refine r_bipush (v := 59) hX dX7_pan_62 (by decide) (RR.pc (b := 64) rfl ?_)
        refine r_min hX (by decide) dX7_pan_64 ml_X7_153 (Nat.le_of_ble_eq_true rfl) (RR.pc (b := 67) rfl ?_)
        rw [min59 hbk]
        refine r_callVie hX dX7_pan_67 ml_X7_146 cd_X6_takeAll iv_X6_takeAll (c_X6_takeAll (w := 2) (a := min (b * (k + 1)) 59) (by decide) (by omega)) (by decide) (by first | rfl | assumption) rfl rfl rfl rfl (Nat.le_of_ble_eq_true rfl) (RR.pc (b := 70) rfl ?_)
        refine r_iadd hX dX7_pan_70 (RR.pc (b := 71) rfl ?_)
        refine r_istore_n hX dX7_pan_71 (by decide) (RR.pc (b := 72) rfl ?_)
        refine r_iinc hX dX7_pan_72 rfl (by decide) (nI_1 (k + 1)) (RR.pc (b := 75) rfl ?_)
        refine r_goto (tgt := 39) hX dX7_pan_75 rfl ?_
        refine RR.cut (ih hk2 _ (by rw [su_eq, e50, e1]; rfl) ((hs.tr hs50).su (by simp))) (List.forall_mem_cons.mpr ⟨rfl, List.forall_mem_cons.mpr ⟨rfl, List.forall_mem_cons.mpr ⟨rfl, List.forall_mem_cons.mpr ⟨?_, List.forall_mem_cons.mpr ⟨rfl, fun _ h => absurd h List.not_mem_nil⟩⟩⟩⟩⟩)
        show some (Value.int _) = some (Value.int _)
        rw [e50, e1]
        rfl
      )
    refine r_aload_n hX dX7_pan_23 rfl ⟨_, rfl⟩ (RR.pc (b := 24) rfl ?_)
    refine r_getr hX dX7_pan_24 fl_X7_46 (by first | rfl | assumption) rfl (RR.pc (b := 27) rfl ?_)
    refine r_aload_n hX dX7_pan_27 rfl ⟨_, rfl⟩ (RR.pc (b := 28) rfl ?_)
    refine r_getr hX dX7_pan_28 fl_X7_39 (by first | rfl | assumption) rfl (RR.pc (b := 31) rfl ?_)
    refine r_callVve hX dX7_pan_31 ml_X7_191 cd_X6_become iv_X6_become (c_X6_become (w := 2) (u := 0) (n := n) (by decide) (by decide) (by decide) hW.1 h8) (by decide) (by first | rfl | assumption) rfl rfl rfl rfl (Nat.le_of_ble_eq_true rfl) (RR.pc (b := 34) rfl ?_)
    refine r_iconst (v := 0) hX dX7_pan_34 (by decide) (RR.pc (b := 35) rfl ?_)
    refine r_istore_n hX dX7_pan_35 (by decide) (RR.pc (b := 36) rfl ?_)
    refine r_iconst (v := 1) hX dX7_pan_36 (by decide) (RR.pc (b := 37) rfl ?_)
    refine r_istore hX dX7_pan_37 (by decide) (RR.pc (b := 39) rfl ?_)
    exact RR.cut (loop 0 (by omega) _ sr_eq (same.rf.sr (by simp))) (List.forall_mem_cons.mpr ⟨rfl, List.forall_mem_cons.mpr ⟨rfl, List.forall_mem_cons.mpr ⟨rfl, List.forall_mem_cons.mpr ⟨rfl, List.forall_mem_cons.mpr ⟨rfl, fun _ h => absurd h List.not_mem_nil⟩⟩⟩⟩⟩)
  refine r_iload_n (i := 0) hX dX7_pan_0 rfl (RR.pc (b := 1) rfl ?_)
  refine r_iconst (v := 0) hX dX7_pan_1 (by decide) (RR.pc (b := 2) rfl ?_)
  refine r_bipush (v := 9) hX dX7_pan_2 (by decide) (RR.pc (b := 4) rfl ?_)
  refine r_callSie hX dX7_pan_4 ml_X7_71 cd_X7_within st_X7_within c_X7_within (by decide) rfl rfl (Nat.le_of_ble_eq_true rfl) (RR.pc (b := 7) rfl ?_)
  refine r_if_eq_b (tgt := 20) hX dX7_pan_7 rfl (fun h7 => ?_) (fun h7 => RR.pc (b := 10) rfl ?_)
  · try simp only [Int32.reduceToInt] at h7
    exact RR.cut (bad (fun z => by first | exact h7 z.1 | exact h17 z.2)) (List.forall_mem_cons.mpr ⟨rfl, fun _ h => absurd h List.not_mem_nil⟩)
  · try simp only [Int32.reduceToInt] at h7
    refine r_iload_n (i := 0) hX dX7_pan_10 rfl (RR.pc (b := 11) rfl ?_)
    refine r_iconst (v := 1) hX dX7_pan_11 (by decide) (RR.pc (b := 12) rfl ?_)
    refine r_bipush (v := 60) hX dX7_pan_12 (by decide) (RR.pc (b := 14) rfl ?_)
    refine r_callSie hX dX7_pan_14 ml_X7_71 cd_X7_within st_X7_within c_X7_within (by decide) rfl rfl (Nat.le_of_ble_eq_true rfl) (RR.pc (b := 17) rfl ?_)
    refine r_if_ne_b (tgt := 23) hX dX7_pan_17 rfl (fun h17 => ?_) (fun h17 => RR.pc (b := 20) rfl ?_)
    · try simp only [Int32.reduceToInt] at h17
      exact RR.cut (go h7 h17) (List.forall_mem_cons.mpr ⟨rfl, List.forall_mem_cons.mpr ⟨rfl, List.forall_mem_cons.mpr ⟨rfl, fun _ h => absurd h List.not_mem_nil⟩⟩⟩)
    · try simp only [Int32.reduceToInt] at h17
      exact RR.cut (bad (fun z => by first | exact h7 z.1 | exact h17 z.2)) (List.forall_mem_cons.mpr ⟨rfl, fun _ h => absurd h List.not_mem_nil⟩)
theorem fee_giv {Ts : Nat → Tx} {nt : Nat} {x y z : Int32} (ho : ∀ t, t < nt → okT (Ts t)) : givF Ts nt 1 x x y z = (match cnt Ts 1 nt with | none => x | some t => evT (Ts t) (nm2 101 98 x y)) := by
  unfold givF
  cases hc : cnt Ts 1 nt with
  | none => rfl
  | some t =>
    show evT (Ts t) _ = evT (Ts t) _
    refine evT_congr (ho t (cnt_lt hc)) ?_
    intro v hv
    rw [cnt_key hc] at hv ⊢
    simp only [nmK, if_neg (show ¬ (1 : Int32) = 0 by decide), if_true, List.mem_cons, List.not_mem_nil, or_false] at hv
    rcases hv with rfl | rfl <;> rfl
theorem fine_giv {Ts : Nat → Tx} {nt : Nat} {x y z : Int32} (ho : ∀ t, t < nt → okT (Ts t)) : givF Ts nt 2 x x y z = (match cnt Ts 2 nt with | none => x | some t => evT (Ts t) (nm2 103 121 x y)) := by
  unfold givF
  cases hc : cnt Ts 2 nt with
  | none => rfl
  | some t =>
    show evT (Ts t) _ = evT (Ts t) _
    refine evT_congr (ho t (cnt_lt hc)) ?_
    intro v hv
    rw [cnt_key hc] at hv ⊢
    simp only [nmK, if_neg (show ¬ (2 : Int32) = 0 by decide), if_neg (show ¬ (2 : Int32) = 1 by decide), List.mem_cons, List.not_mem_nil, or_false] at hv
    rcases hv with rfl | rfl <;> rfl
set_option maxHeartbeats 4000000 in
set_option maxRecDepth 100000 in
theorem c_X7_fee {G : GM} {σ : SG} {Ts : Nat → Tx} {nt : Nat} (hT : CT (σ 3) (σ 0) Ts nt) : CI G yX7_fee cX7_fee 1 (some .int) 3 [rf G 0] σ (fun r s => r = feeF Ts nt (σ 0) ∧ same [4] σ s) := by
  refine Con.of cd_X7_fee (Nat.le_of_ble_eq_true rfl) ?_
  intro X hX hZ
  have hX : Fx X G RX7 cX7_fee 1 3 := hX
  show RR X G 1 0 (ll [(0, rf G 0)]) [] σ
  have ho : ∀ t, t < nt → okT (Ts t) := fun t ht => (hT.2.2.2 t ht).2
  refine r_aload_n hX dX7_fee_0 rfl ⟨_, rfl⟩ (RR.pc (b := 1) rfl ?_)
  refine r_getr hX dX7_fee_1 fl_X7_39 (by first | rfl | assumption) rfl (RR.pc (b := 4) rfl ?_)
  refine r_iconst (v := 1) hX dX7_fee_4 (by decide) (RR.pc (b := 5) rfl ?_)
  refine r_aload_n hX dX7_fee_5 rfl ⟨_, rfl⟩ (RR.pc (b := 6) rfl ?_)
  refine r_getr hX dX7_fee_6 fl_X7_39 (by first | rfl | assumption) rfl (RR.pc (b := 9) rfl ?_)
  refine r_geti hX dX7_fee_9 fl_X7_179 (by first | rfl | assumption) rfl (RR.pc (b := 12) rfl ?_)
  refine r_aload_n hX dX7_fee_12 rfl ⟨_, rfl⟩ (RR.pc (b := 13) rfl ?_)
  refine r_getr hX dX7_fee_13 fl_X7_39 (by first | rfl | assumption) rfl (RR.pc (b := 16) rfl ?_)
  refine r_geti hX dX7_fee_16 fl_X7_179 (by first | rfl | assumption) rfl (RR.pc (b := 19) rfl ?_)
  refine r_aload_n hX dX7_fee_19 rfl ⟨_, rfl⟩ (RR.pc (b := 20) rfl ?_)
  refine r_getr hX dX7_fee_20 fl_X7_39 (by first | rfl | assumption) rfl (RR.pc (b := 23) rfl ?_)
  refine r_geti hX dX7_fee_23 fl_X7_182 (by first | rfl | assumption) rfl (RR.pc (b := 26) rfl ?_)
  refine r_iconst (v := 0) hX dX7_fee_26 (by decide) (RR.pc (b := 27) rfl ?_)
  refine r_callVi hX dX7_fee_27 ml_X7_217 cd_X6_given iv_X6_given (c_X6_given (w := 0) (Ts := Ts) (nt := nt) (k := 1) (by decide) (by decide) hT) (by decide) (by first | rfl | assumption) rfl rfl rfl rfl (Nat.le_of_ble_eq_true rfl) (fun r_27 s_27 e_27 => RR.pc (b := 30) rfl ?_)
  obtain ⟨rfl, hs⟩ := e_27
  exact r_iret hX hZ dX7_fee_30 ⟨_, rfl, ⟨fee_giv ho, hs⟩⟩
set_option maxHeartbeats 4000000 in
set_option maxRecDepth 100000 in
theorem c_X7_fine {G : GM} {σ : SG} {Ts : Nat → Tx} {nt n : Nat} {k : Int32} (hT : CT (σ 3) (σ 0) Ts nt) (hN : σ 0 0 = nI n) (h8 : n ≤ 8) : CI G yX7_fine cX7_fine 3 (some .int) 3 [rf G 0, .int k] σ (fun r s => r = finF Ts nt n (σ 0) k ∧ same [4] σ s) := by
  refine Con.of cd_X7_fine (Nat.le_of_ble_eq_true rfl) ?_
  intro X hX hZ
  have hX : Fx X G RX7 cX7_fine 3 3 := hX
  show RR X G 3 0 (ll [(0, rf G 0), (1, .int k)]) [] σ
  have ho : ∀ t, t < nt → okT (Ts t) := fun t ht => (hT.2.2.2 t ht).2
  refine r_aload_n hX dX7_fine_0 rfl ⟨_, rfl⟩ (RR.pc (b := 1) rfl ?_)
  refine r_iload_n (i := 0) hX dX7_fine_1 rfl (RR.pc (b := 2) rfl ?_)
  refine r_callVie hX dX7_fine_2 ml_X7_85 cd_X7_isMule iv_X7_isMule (c_X7_isMule hN h8) (by decide) (by first | rfl | assumption) rfl rfl rfl rfl (Nat.le_of_ble_eq_true rfl) (RR.pc (b := 5) rfl ?_)
  refine r_if_ne_b (tgt := 11) hX dX7_fine_5 rfl (fun h5 => ?_) (fun h5 => RR.pc (b := 8) rfl ?_)
  · obtain ⟨a, ha, rfl⟩ := ix_of h5 (by omega)
    have lm := layM0 (i := a) (by omega)
    refine r_aload_n hX dX7_fine_11 rfl ⟨_, rfl⟩ (RR.pc (b := 12) rfl ?_)
    refine r_getr hX dX7_fine_12 fl_X7_39 (by first | rfl | assumption) rfl (RR.pc (b := 15) rfl ?_)
    refine r_getr hX dX7_fine_15 fl_X7_88 (by first | rfl | assumption) rfl (RR.pc (b := 18) rfl ?_)
    refine r_iload_n (i := 0) hX dX7_fine_18 rfl (RR.pc (b := 19) rfl ?_)
    refine r_aald hX dX7_fine_19 (by first | rfl | assumption) ⟨_, rfl⟩ rfl (by omega) (by decide) (RR.pc (b := 20) rfl ?_)
    refine r_astore_n hX dX7_fine_20 (by decide) ⟨_, rfl⟩ (RR.pc (b := 21) rfl ?_)
    refine r_aload_n hX dX7_fine_21 rfl ⟨_, rfl⟩ (RR.pc (b := 22) rfl ?_)
    refine r_getr hX dX7_fine_22 fl_X7_39 (by first | rfl | assumption) rfl (RR.pc (b := 25) rfl ?_)
    refine r_iconst (v := 2) hX dX7_fine_25 (by decide) (RR.pc (b := 26) rfl ?_)
    refine r_aload_n hX dX7_fine_26 rfl ⟨_, rfl⟩ (RR.pc (b := 27) rfl ?_)
    refine r_geti hX dX7_fine_27 fl_X7_103 (by first | rfl | assumption) rfl (RR.pc (b := 30) rfl ?_)
    refine r_aload_n hX dX7_fine_30 rfl ⟨_, rfl⟩ (RR.pc (b := 31) rfl ?_)
    refine r_geti hX dX7_fine_31 fl_X7_103 (by first | rfl | assumption) rfl (RR.pc (b := 34) rfl ?_)
    refine r_aload_n hX dX7_fine_34 rfl ⟨_, rfl⟩ (RR.pc (b := 35) rfl ?_)
    refine r_geti hX dX7_fine_35 fl_X7_100 (by first | rfl | assumption) rfl (RR.pc (b := 38) rfl ?_)
    refine r_iconst (v := 0) hX dX7_fine_38 (by decide) (RR.pc (b := 39) rfl ?_)
    refine r_callVi hX dX7_fine_39 ml_X7_217 cd_X6_given iv_X6_given (c_X6_given (w := 0) (Ts := Ts) (nt := nt) (k := 2) (by decide) (by decide) hT) (by decide) (by first | rfl | assumption) rfl rfl rfl rfl (Nat.le_of_ble_eq_true rfl) (fun r_39 s_39 e_39 => RR.pc (b := 42) rfl ?_)
    obtain ⟨rfl, hs⟩ := e_39
    exact r_iret hX hZ dX7_fine_42 ⟨_, rfl, ⟨by unfold finF; rw [ix_some ha (by omega)]; exact fine_giv ho, hs⟩⟩
  · refine r_ldc hX dX7_fine_8 kc_X7_75 (RR.pc (b := 10) rfl ?_)
    exact r_iret hX hZ dX7_fine_10 ⟨_, rfl, ⟨by unfold finF; rw [ix_none h5], same.rf⟩⟩
