/-! the class: what will be -/
def Ag (N : Nat) (w w' : Nat → Int32) : Prop := ∀ i, i < N → w i = w' i
theorem Ag.u {N : Nat} {w w' : Nat → Int32} (h : Ag N w w') {j : Nat} {v v' : Int32} (e : j < N → v = v') : Ag N (upd w j v) (upd w' j v') := by
  intro i hi
  unfold upd
  split
  next q => exact e (q ▸ hi)
  next => exact h i hi
theorem addL_ag {N : Nat} {w w' : Nat → Int32} {o : Nat} {e : Int32} (h : Ag N w w') : ∀ k, o + k ≤ N → Ag N (addL w o e k) (addL w' o e k) := by
  intro k
  induction k with
  | zero => intro _; exact h
  | succ k ih =>
    intro hk
    have A := ih (by omega)
    unfold addL
    exact A.u (fun q => by rw [A _ q])
theorem walkW_ag {V : Int32 → Int32 → Int32 → Int32} {N a : Nat} {w w' : Nat → Int32} (h : Ag N w w') (hN : 131 + 5 * a + 5 ≤ N) (hV : VO V) (hM : MO w a) : Ag N (walkW V w a) (walkW V w' a) := by
  obtain ⟨y, g, fl, s, hy, hg, hfl, hs, ey, eg, efl, es⟩ := walk_nums hV hM
  have e0 := h (131 + 5 * a) (by omega)
  have e1 := h (131 + 5 * a + 1) (by omega)
  have e2 := h (131 + 5 * a + 2) (by omega)
  have e3 := h (131 + 5 * a + 3) (by omega)
  have e4 := h (131 + 5 * a + 4) (by omega)
  have e5 := h 3 (by omega)
  have efl' : flW V w' a = flW V w a := by unfold flW lkW; rw [← e0, ← e1, ← e3, ← e4]
  have eg' : gW w' a = gW w a := by unfold gW; rw [← e0, ← e1, ← e2]
  unfold walkW wk3 wk1
  rw [efl', eg', ← e2, ← e3, ← e5, ey, es, nI_clamp (by omega), nI_clamp (by omega)]
  have A := addL_ag (o := 11 + y) (e := flW V w a / nI s) ((h.u (j := 131 + 5 * a + 3) (v := w (131 + 5 * a + 3) - flW V w a) (fun _ => rfl)).u (j := 3) (v := w 3 + flW V w a) (fun _ => rfl)) s (by omega)
  exact (A.u (fun q => by rw [A _ q])).u (fun _ => rfl)
theorem walkAll_ag {V : Int32 → Int32 → Int32 → Int32} {n : Nat} {w w' : Nat → Int32} (h : Ag (131 + 5 * n) w w') (hV : VO V) (hM : ∀ a, a < n → MO w a) : ∀ k, k ≤ n → Ag (131 + 5 * n) (walkAll V w k) (walkAll V w' k) := by
  intro k
  induction k with
  | zero => intro _; exact h
  | succ k ih =>
    intro hk
    have A := ih (by omega)
    unfold walkAll
    rw [← A (131 + 5 * k + 2) (by omega)]
    split
    · exact walkW_ag A (by omega) hV ((walkAll_ok hV hM k (by omega)).1 k (by omega))
    · exact A
theorem thrAll_ag {N : Nat} {w w' : Nat → Int32} (h : Ag N w w') (hN : 131 ≤ N) : ∀ k, Ag N (thrAll w k) (thrAll w' k) := by
  intro k
  induction k with
  | zero => exact h
  | succ k A =>
    unfold thrAll
    rw [← A 10 (by omega)]
    exact A.u (fun q => by rw [A _ q])
theorem thrW_ag {N n : Nat} {w w' : Nat → Int32} (h : Ag N w w') (hN : 131 ≤ N) : Ag N (thrW w n) (thrW w' n) := by
  unfold thrW
  rw [← h 2 (by omega)]
  split
  · exact thrAll_ag h hN n
  · exact h
theorem birdW_ag {N : Nat} {w w' : Nat → Int32} (h : Ag N w w') (hN : 131 ≤ N) : Ag N (birdW w) (birdW w') := by
  have q : dn (dz (w 6)) % 60 < 60 := Nat.mod_lt _ (by decide)
  unfold birdW eatW
  rw [← h 6 (by omega), ← h 4 (by omega), ← h 7 (by omega), ← h (11 + dn (dz (w 6)) % 60) (by omega)]
  exact ((h.u (fun _ => rfl)).u (fun _ => rfl)).u (fun _ => rfl)
theorem gustT_ag {N f : Nat} {v : Int32} {w w' : Nat → Int32} (h : Ag N w w') (hN : 131 ≤ N) : Ag N (gustT w f v) (gustT w' f v) := by
  unfold gustT
  rw [← h 9 (by omega), ← h 5 (by omega)]
  split
  · exact h.u (fun q => by rw [h _ q])
  · exact h.u (fun _ => rfl)
theorem gustW_ag {N : Nat} {w w' : Nat → Int32} (h : Ag N w w') (hN : 131 ≤ N) : Ag N (gustW w) (gustW w') := by
  have q : dn (dz (w 6)) % 60 < 60 := Nat.mod_lt _ (by decide)
  unfold gustW
  rw [← h 6 (by omega), ← h (11 + dn (dz (w 6)) % 60) (by omega)]
  exact gustT_ag ((h.u (fun _ => rfl)).u (fun _ => rfl)) hN
theorem minW_ag {V : Int32 → Int32 → Int32 → Int32} {n : Nat} {w w' : Nat → Int32} (h : Ag (131 + 5 * n) w w') (hV : VO V) (hM : ∀ a, a < n → MO w a) : Ag (131 + 5 * n) (minW V n w) (minW V n w') := by
  have A := birdW_ag (thrW_ag (n := n) (walkAll_ag h hV hM n (Nat.le_refl n)) (by omega)) (by omega)
  have B : Ag (131 + 5 * n) (gustsW (birdW (thrW (walkAll V w n) n))) (gustsW (birdW (thrW (walkAll V w' n) n))) := by
    generalize birdW (thrW (walkAll V w n) n) = u at A
    generalize birdW (thrW (walkAll V w' n) n) = u' at A
    unfold gustsW
    rw [← A 8 (by omega), ← A 6 (by omega)]
    split
    · exact A.u (fun _ => rfl)
    · exact gustW_ag (A.u (fun _ => rfl)) (by omega)
  unfold minW
  exact B.u (fun q => by rw [B _ q])
theorem minN_ag {V : Int32 → Int32 → Int32 → Int32} {n m : Nat} {w w' : Nat → Int32} (h : Ag (131 + 5 * n) w w') (hV : VO V) (hW : WO w n m) : ∀ k, Ag (131 + 5 * n) (minN V n w k) (minN V n w' k) := by
  intro k
  induction k with
  | zero => exact h
  | succ k A => exact minW_ag A hV (minN_WO hV hW k).2.2.1
theorem becW_ag {g f : Nat → Int32} {n : Nat} : Ag (131 + 5 * n) f (becW g f n) := fun i hi => by unfold becW; rw [if_pos hi]
theorem WO.ag {w w' : Nat → Int32} {n m : Nat} (h : WO w n m) (a : Ag (131 + 5 * n) w w') : WO w' n m := by
  obtain ⟨h0, h8, hM, hm, t, ht, et⟩ := h
  exact ⟨by rw [← a 0 (by omega)]; exact h0, h8, fun b hb => (hM b hb).congr (fun j hj => (a _ (by omega)).symm), by rw [← a 2 (by omega)]; exact hm, t, ht, by rw [← a 10 (by omega)]; exact et⟩
theorem CT.bec {s g f : Nat → Int32} {Ts : Nat → Tx} {nt n : Nat} (h : CT s f Ts nt) : CT s (becW g f n) Ts nt := ⟨by rw [← becW_ag 1 (by omega)]; exact h.1, h.2.1, fun k hk => by rw [← h.2.2.1 k hk]; unfold becW; split; rfl; rw [if_pos (by omega)], h.2.2.2⟩
theorem sumW_ag {N o : Nat} {w w' : Nat → Int32} (h : Ag N w w') : ∀ k, o + k ≤ N → sumW w o k = sumW w' o k := by
  intro k
  induction k with
  | zero => intro _; rfl
  | succ k ih => intro hk; unfold sumW; rw [ih (by omega), h _ (by omega)]
theorem sackW_ag {N : Nat} {w w' : Nat → Int32} (h : Ag N w w') : ∀ k, 131 + 5 * k ≤ N → sackW w k = sackW w' k := by
  intro k
  induction k with
  | zero => intro _; rfl
  | succ k ih => intro hk; unfold sackW; rw [ih (by omega), h _ (by omega)]
theorem thrP_ag {n : Nat} {w w' : Nat → Int32} (h : Ag (131 + 5 * n) w w') : thrP w n ↔ thrP w' n := by
  constructor
  · intro q k hk; rw [← h _ (by omega), ← h _ (by omega)]; exact q k hk
  · intro q k hk; rw [h _ (by omega), h _ (by omega)]; exact q k hk
theorem bestY_ag {N : Nat} {w w' : Nat → Int32} (h : Ag N w w') : ∀ k, 11 + k < N → bestY w k = bestY w' k := by
  intro k
  induction k with
  | zero => intro _; rfl
  | succ k ih =>
    intro hk
    have l := bestY_le (w := w') k
    unfold bestY
    rw [ih (by omega), h _ (by omega), h _ (by omega)]
