/-! calls that change the world -/
def mlim (f : Nat) : Nat := if f = 0 then 5 else if f = 1 then 9 else if f = 2 then 59 else if f = 3 then 9999 else 50
theorem MO_iff {w : Nat → Int32} {a : Nat} : MO w a ↔ ∀ f, f < 5 → ∃ c : Nat, c ≤ mlim f ∧ w (131 + 5 * a + f) = nI c := by
  constructor
  · rintro ⟨q0, q1, q2, q3, q4⟩ f hf
    match f, hf with
    | 0, _ => exact q0
    | 1, _ => exact q1
    | 2, _ => exact q2
    | 3, _ => exact q3
    | 4, _ => exact q4
  · intro h
    exact ⟨h 0 (by omega), h 1 (by omega), h 2 (by omega), h 3 (by omega), h 4 (by omega)⟩
theorem inOf {v : Int32} {K : Nat} (h : 0 ≤ v.toInt ∧ v.toInt ≤ K) (hK : K < 100000) : ∃ c : Nat, c ≤ K ∧ v = nI c := by
  obtain ⟨a, ha, e⟩ := ix_of (n := K + 1) (k := v) ⟨h.1, by omega⟩ (by omega)
  exact ⟨a, by omega, e⟩
theorem WO.low {w w' : Nat → Int32} {n m : Nat} (h : WO w n m) (e0 : w' 0 = w 0) (e2 : w' 2 = w 2) (e10 : ∃ t : Nat, t ≤ 9 ∧ w' 10 = nI t) (e : ∀ i, 131 ≤ i → i < 171 → w' i = w i) : WO w' n m := by
  obtain ⟨h0, h8, hM, hmi, -⟩ := h
  exact ⟨by rw [e0]; exact h0, h8, fun a ha => (hM a ha).congr (fun j hj => e _ (by omega) (by omega)), by rw [e2]; exact hmi, e10⟩
theorem WO.um {w : Nat → Int32} {n m a f c : Nat} {v : Int32} (h : WO w n m) (hf : f < 5) (hc : c ≤ mlim f) (e : v = nI c) : WO (upd w (131 + 5 * a + f) v) n m := by
  obtain ⟨h0, h8, hM, hmi, t, ht, et⟩ := h
  refine ⟨by rw [pk_un (by omega)]; exact h0, h8, fun b hb => MO_iff.mpr (fun g hg => ?_), by rw [pk_un (by omega)]; exact hmi, t, ht, by rw [pk_un (by omega)]; exact et⟩
  by_cases q : 131 + 5 * b + g = 131 + 5 * a + f
  · have q1 : g = f := by omega
    rw [q, pk_us, q1]
    exact ⟨c, hc, e⟩
  · rw [pk_un q]
    exact MO_iff.mp (hM b hb) g hg
def StN (w w' : Nat → Int32) (n m : Nat) (v v' : Nat → Int32) : Prop := Ag (131 + 5 * n) v v' ∧ WO v n m ∧ WG v m ∧ m ≤ 9999 ∧ (∀ i, i = 1 ∨ 171 ≤ i → v i = w i) ∧ ∀ i, i = 1 ∨ 171 ≤ i → v' i = w' i
def StP (w w' : Nat → Int32) (p p' : Int32 × (Nat → Int32)) : Prop := p'.1 = p.1 ∧ ∃ n m : Nat, StN w w' n m p.2 p'.2
section STN
variable {w w' v v' : Nat → Int32} {n m : Nat}
theorem StN.rf (hA : Ag (131 + 5 * n) w w') (hW : WO w n m) (hG : WG w m) (hm : m ≤ 9999) : StN w w' n m w w' := ⟨hA, hW, hG, hm, fun _ _ => rfl, fun _ _ => rfl⟩
theorem StN.up {j : Nat} {x x' : Int32} (h : StN w w' n m v v') (hx : x' = x) (hW : WO (upd v j x) n m) (hG : WG (upd v j x) m) (h1 : j ≠ 1) (hj : j < 171) : StN w w' n m (upd v j x) (upd v' j x') := by
  obtain ⟨a1, -, -, a4, a5, a6⟩ := h
  exact ⟨a1.u (fun _ => hx.symm), hW, hG, a4, fun i hi => by rw [pk_un (by omega)]; exact a5 i hi, fun i hi => by rw [pk_un (by omega)]; exact a6 i hi⟩
theorem StN.um {a f c : Nat} {x x' : Int32} (h : StN w w' n m v v') (ha : a < n) (hf : f < 5) (hc : c ≤ mlim f) (e : x = nI c) (hx : x' = x) : StN w w' n m (upd v (131 + 5 * a + f) x) (upd v' (131 + 5 * a + f) x') := by
  have h8 := h.2.1.2.1
  exact h.up hx (h.2.1.um hf hc e) (h.2.2.1.congr (fun i _ _ => pk_un (by omega))) (by omega) (by omega)
theorem StN.id {r : Int32} (h : StN w w' n m w w') : StP w w' (r, w) (r, w') := ⟨rfl, n, m, h⟩
theorem turnsF_st {k kind : Int32} (h : StN w w' n m w w') : StP w w' (turnsF w n k kind) (turnsF w' n k kind) := by
  have h8 := h.2.1.2.1
  unfold turnsF
  cases hi : ix k n with
  | none => exact h.id
  | some a =>
    have ha := (ix_lt hi (by omega)).1
    dsimp only
    by_cases c : 0 ≤ kind.toInt ∧ kind.toInt ≤ 5
    · rw [if_pos c, if_pos c]
      obtain ⟨q, hq, e⟩ := inOf (K := 5) c (by omega)
      exact ⟨(h.1 _ (by omega)).symm, n, m, h.um (f := 0) ha (by omega) hq e rfl⟩
    · rw [if_neg c, if_neg c]
      exact h.id
theorem setF_st {k what x : Int32} (h : StN w w' n m w w') : StP w w' (setF w n k what x) (setF w' n k what x) := by
  have h8 := h.2.1.2.1
  unfold setF
  cases hi : ix k n with
  | none => exact h.id
  | some a =>
    have ha := (ix_lt hi (by omega)).1
    dsimp only
    by_cases c1 : what = 1
    · rw [if_pos c1, if_pos c1]
      by_cases c : 0 ≤ x.toInt ∧ x.toInt ≤ 9
      · rw [if_pos c, if_pos c]
        obtain ⟨q, hq, e⟩ := inOf (K := 9) c (by omega)
        exact ⟨(h.1 _ (by omega)).symm, n, m, h.um (f := 1) ha (by omega) hq e rfl⟩
      · rw [if_neg c, if_neg c]; exact h.id
    · rw [if_neg c1, if_neg c1]
      by_cases c2 : what = 2
      · rw [if_pos c2, if_pos c2]
        by_cases c : 0 ≤ x.toInt ∧ x.toInt ≤ 59
        · rw [if_pos c, if_pos c]
          obtain ⟨q, hq, e⟩ := inOf (K := 59) c (by omega)
          exact ⟨(h.1 _ (by omega)).symm, n, m, h.um (f := 2) ha (by omega) hq e rfl⟩
        · rw [if_neg c, if_neg c]; exact h.id
      · rw [if_neg c2, if_neg c2]
        by_cases c3 : what = 3
        · rw [if_pos c3, if_pos c3]
          by_cases c : 0 ≤ x.toInt ∧ x.toInt ≤ 9999
          · rw [if_pos c, if_pos c]
            obtain ⟨q, hq, e⟩ := inOf (K := 9999) c (by omega)
            exact ⟨(h.1 _ (by omega)).symm, n, m, h.um (f := 3) ha (by omega) hq e rfl⟩
          · rw [if_neg c, if_neg c]; exact h.id
        · rw [if_neg c3, if_neg c3]
          by_cases c4 : what = 4
          · rw [if_pos c4, if_pos c4]
            by_cases c : 0 ≤ x.toInt ∧ x.toInt ≤ 50
            · rw [if_pos c, if_pos c]
              obtain ⟨q, hq, e⟩ := inOf (K := 50) c (by omega)
              exact ⟨(h.1 _ (by omega)).symm, n, m, h.um (f := 4) ha (by omega) hq e rfl⟩
            · rw [if_neg c, if_neg c]; exact h.id
          · rw [if_neg c4, if_neg c4]; exact h.id
theorem WO.t10 (h : WO w n m) : ∃ t : Nat, t ≤ 9 ∧ w 10 = nI t := h.2.2.2.2
theorem ruleF_st {what x : Int32} (h : StN w w' n m w w') : StP w w' (ruleF w what x) (ruleF w' what x) := by
  have hW := h.2.1
  have hG := h.2.2.1
  unfold ruleF
  by_cases c1 : what = 0
  · rw [if_pos c1, if_pos c1]
    by_cases c : 0 ≤ x.toInt ∧ x.toInt ≤ 99
    · rw [if_pos c, if_pos c]
      obtain ⟨q, hq, e⟩ := inOf (K := 99) c (by omega)
      exact ⟨(h.1 7 (by omega)).symm, n, m, h.up rfl (hW.low (pk_un (by omega)) (pk_un (by omega)) (by rw [pk_un (by omega)]; exact hW.t10) (fun i _ _ => pk_un (by omega))) ⟨⟨q, hq, by rw [pk_us]; exact e⟩, hG.2.congr (fun i _ _ => pk_un (by omega))⟩ (by omega) (by omega)⟩
    · rw [if_neg c, if_neg c]; exact h.id
  · rw [if_neg c1, if_neg c1]
    by_cases c2 : what = 1
    · rw [if_pos c2, if_pos c2]
      by_cases c : 0 ≤ x.toInt ∧ x.toInt ≤ 100
      · rw [if_pos c, if_pos c]
        exact ⟨(h.1 8 (by omega)).symm, n, m, h.up rfl (hW.low (pk_un (by omega)) (pk_un (by omega)) (by rw [pk_un (by omega)]; exact hW.t10) (fun i _ _ => pk_un (by omega))) ⟨by rw [pk_un (by omega)]; exact hG.1, hG.2.congr (fun i _ _ => pk_un (by omega))⟩ (by omega) (by omega)⟩
      · rw [if_neg c, if_neg c]; exact h.id
    · rw [if_neg c2, if_neg c2]
      by_cases c3 : what = 2
      · rw [if_pos c3, if_pos c3]
        by_cases c : -3 ≤ x.toInt ∧ x.toInt ≤ 3
        · rw [if_pos c, if_pos c]
          exact ⟨(h.1 9 (by omega)).symm, n, m, h.up rfl (hW.low (pk_un (by omega)) (pk_un (by omega)) (by rw [pk_un (by omega)]; exact hW.t10) (fun i _ _ => pk_un (by omega))) ⟨by rw [pk_un (by omega)]; exact hG.1, hG.2.congr (fun i _ _ => pk_un (by omega))⟩ (by omega) (by omega)⟩
        · rw [if_neg c, if_neg c]; exact h.id
      · rw [if_neg c3, if_neg c3]
        by_cases c4 : what = 3
        · rw [if_pos c4, if_pos c4]
          by_cases c : 0 ≤ x.toInt ∧ x.toInt ≤ 9
          · rw [if_pos c, if_pos c]
            obtain ⟨q, hq, e⟩ := inOf (K := 9) c (by omega)
            exact ⟨(h.1 10 (by omega)).symm, n, m, h.up rfl (hW.low (pk_un (by omega)) (pk_un (by omega)) ⟨q, hq, by rw [pk_us]; exact e⟩ (fun i _ _ => pk_un (by omega))) ⟨by rw [pk_un (by omega)]; exact hG.1, hG.2.congr (fun i _ _ => pk_un (by omega))⟩ (by omega) (by omega)⟩
          · rw [if_neg c, if_neg c]; exact h.id
        · rw [if_neg c4, if_neg c4]; exact h.id
theorem StN.u6 {x x' : Int32} (h : StN w w' n m v v') (hx : x' = x) : StN w w' n m (upd v 6 x) (upd v' 6 x') := by
  have hW := h.2.1
  have hG := h.2.2.1
  exact h.up hx (hW.low (pk_un (by omega)) (pk_un (by omega)) (by rw [pk_un (by omega)]; exact hW.t10) (fun i _ _ => pk_un (by omega))) ⟨by rw [pk_un (by omega)]; exact hG.1, hG.2.congr (fun i _ _ => pk_un (by omega))⟩ (by omega) (by omega)
theorem sweepF_st {y : Int32} (h : StN w w' n m w w') : StP w w' (sweepF w y) (sweepF w' y) := by
  have hW := h.2.1
  have hG := h.2.2.1
  unfold sweepF
  cases hi : ix y 60 with
  | none => exact h.id
  | some a =>
    have ha := (ix_lt hi (by omega)).1
    obtain ⟨f, hf, hB⟩ := hG.2
    have hs := sumN_u (f := f) (v := 0) ha
    exact ⟨(h.1 _ (by omega)).symm, n, m, h.up rfl (hW.low (pk_un (by omega)) (pk_un (by omega)) (by rw [pk_un (by omega)]; exact hW.t10) (fun i _ _ => pk_un (by omega))) ⟨by rw [pk_un (by omega)]; exact hG.1, updN f a 0, hf.u rfl, by omega⟩ (by omega) (by omega)⟩
theorem rainW_out {i : Nat} (hi : i < 11 ∨ 131 ≤ i) : ∀ k, k ≤ 60 → rainW w k i = w i := by
  intro k
  induction k with
  | zero => intro _; rfl
  | succ k ih => intro hk; unfold rainW; rw [pk_un (by omega), pk_un (by omega), ih (by omega)]
theorem rainW_ag {N : Nat} (h : Ag N w w') (hN : 131 ≤ N) : ∀ k, k ≤ 60 → Ag N (rainW w k) (rainW w' k) := by
  intro k
  induction k with
  | zero => intro _; exact h
  | succ k ih =>
    intro hk
    have g := ih (by omega)
    unfold rainW
    rw [g (11 + k) (by omega), g (71 + k) (by omega)]
    exact (g.u (fun _ => rfl)).u (fun _ => rfl)
theorem rainS_ag {N : Nat} (h : Ag N w w') (hN : 131 ≤ N) : ∀ k, k ≤ 60 → rainS w k = rainS w' k := by
  intro k
  induction k with
  | zero => intro _; rfl
  | succ k ih => intro hk; unfold rainS; rw [ih (by omega), rainW_ag h hN k (by omega) (11 + k) (by omega)]
theorem rainW_GO {B : Nat} (h : GO w B) (hB : B < 2 ^ 31) : ∀ k, k ≤ 60 → GO (rainW w k) B := by
  intro k
  induction k with
  | zero => intro _; exact h
  | succ k ih =>
    intro hk
    obtain ⟨f, hf, hs⟩ := ih (by omega)
    have hk' : k < 60 := by omega
    have e := hf k hk'
    have hle := sumN_le (f := f) hk'
    have hs2 := sumN_u (f := f) (v := f k - f k / 10) hk'
    unfold rainW
    refine ⟨updN f k (f k - f k / 10), ?_, by omega⟩
    refine RP.o (hf.u ?_) (by omega)
    rw [e, show (nI (f k) / 10 : Int32) = nI (f k / 10) from pk_div (d := 10) (by omega) (by omega) (by omega)]
    exact pk_sub (by omega)
theorem rain_st (h : StN w w' n m w w') : rainS w' 60 = rainS w 60 ∧ StN w w' n m (rainW w 60) (rainW w' 60) := by
  have hW := h.2.1
  have hG := h.2.2.1
  have hm := h.2.2.2.1
  refine ⟨(rainS_ag h.1 (by omega) 60 (by omega)).symm, rainW_ag h.1 (by omega) 60 (by omega), hW.low (rainW_out (by omega) 60 (by omega)) (rainW_out (by omega) 60 (by omega)) (by rw [rainW_out (by omega) 60 (by omega)]; exact hW.t10) (fun i hi _ => rainW_out (by omega) 60 (by omega)), ⟨by rw [rainW_out (by omega) 60 (by omega)]; exact hG.1, rainW_GO hG.2 (by omega) 60 (by omega)⟩, hm, fun i hi => rainW_out (by omega) 60 (by omega), fun i hi => rainW_out (by omega) 60 (by omega)⟩
theorem StN.add {c p g o : Nat} {kind pace grain hole : Int32} (h : StN w w' n m v v') (hn : n < 8) (hc : c ≤ 5) (ec : kind = nI c) (hp : p ≤ 9) (ep : pace = nI p) (hg : g ≤ 9999) (eg : grain = nI g) (ho : o ≤ 50) (eo : hole = nI o) : StN w w' (n + 1) m (addM v n kind pace grain hole) (addM v' n kind pace grain hole) := by
  obtain ⟨a1, ⟨h0, h8, hM, hmi, ht⟩, a3, a4, a5, a6⟩ := h
  refine ⟨?_, ⟨addM_0, by omega, fun a ha => ?_, by rw [addM_out (by omega) (by omega)]; exact hmi, by rw [addM_out (by omega) (by omega)]; exact ht⟩, a3.congr (fun i _ _ => addM_out (by omega) (by omega)), a4, fun i hi => by rw [addM_out (by omega) (by omega)]; exact a5 i hi, fun i hi => by rw [addM_out (by omega) (by omega)]; exact a6 i hi⟩
  · intro i hi
    unfold addM upd
    by_cases q : i < 131 + 5 * n
    · simp only [a1 i q]
    · by_cases q0 : i = 131 + 5 * n
      · simp [q0]
      · by_cases q1 : i = 131 + 5 * n + 1
        · simp [q1]
        · by_cases q2 : i = 131 + 5 * n + 2
          · simp [q2]
          · by_cases q3 : i = 131 + 5 * n + 3
            · simp [q3]
            · have q4 : i = 131 + 5 * n + 4 := by omega
              simp [q4]
  · by_cases q : a < n
    · exact (hM a q).congr (fun j hj => addM_out (by omega) (by omega))
    · have q : a = n := by omega
      subst q
      unfold MO addM
      exact ⟨⟨c, hc, by rw [pk_un (by omega), pk_un (by omega), pk_un (by omega), pk_un (by omega), pk_us]; exact ec⟩, ⟨p, hp, by rw [pk_un (by omega), pk_un (by omega), pk_un (by omega), pk_us]; exact ep⟩, ⟨0, by omega, by rw [pk_un (by omega), pk_un (by omega), pk_us]; rfl⟩, ⟨g, hg, by rw [pk_un (by omega), pk_us]; exact eg⟩, ⟨o, ho, by rw [pk_us]; exact eo⟩⟩
theorem muleF_st {kind pace grain hole : Int32} (h : StN w w' n m w w') : StP w w' (muleF w n kind pace grain hole) (muleF w' n kind pace grain hole) := by
  have h8 := h.2.1.2.1
  unfold muleF
  by_cases c : (0 ≤ kind.toInt ∧ kind.toInt ≤ 5) ∧ (0 ≤ pace.toInt ∧ pace.toInt ≤ 9) ∧ (0 ≤ grain.toInt ∧ grain.toInt ≤ 9999) ∧ (0 ≤ hole.toInt ∧ hole.toInt ≤ 50)
  · rw [if_pos c, if_pos c]
    by_cases hn : n = 8
    · rw [if_pos hn, if_pos hn]; exact h.id
    · rw [if_neg hn, if_neg hn]
      obtain ⟨x, hx, ex⟩ := inOf (K := 5) c.1 (by omega)
      obtain ⟨p, hp, ep⟩ := inOf (K := 9) c.2.1 (by omega)
      obtain ⟨g, hg, eg⟩ := inOf (K := 9999) c.2.2.1 (by omega)
      obtain ⟨o, ho, eo⟩ := inOf (K := 50) c.2.2.2 (by omega)
      exact ⟨rfl, n + 1, m, h.add (by omega) hx ex hp ep hg eg ho eo⟩
  · rw [if_neg c, if_neg c]; exact h.id
theorem dealW_st (h : StN w w' n m w w') : ∀ k, n + k ≤ 8 → StN w w' (n + k) m (dealW w n k) (dealW w' n k) := by
  intro k
  induction k with
  | zero => intro _; exact h
  | succ k ih =>
    intro hk
    have g := ih (by omega)
    unfold dealW
    rw [← g.1 6 (by omega)]
    exact (g.u6 rfl).add (by omega) (by omega) rfl (by omega) rfl (by omega) rfl (by omega) rfl
theorem dealF_st {q : Int32} (h : StN w w' n m w w') : StP w w' (dealF w n q) (dealF w' n q) := by
  have h8 := h.2.1.2.1
  unfold dealF
  by_cases c : 1 ≤ q.toInt ∧ q.toInt ≤ 8
  · rw [if_pos c, if_pos c]
    exact ⟨rfl, _, m, dealW_st h (min q.toNatClampNeg (8 - n)) (by omega)⟩
  · rw [if_neg c, if_neg c]; exact h.id
theorem minutesF_st {V : Int32 → Int32 → Int32 → Int32} {q : Int32} (hV : VO V) (h : StN w w' n m w w') : StP w w' (minutesF V w n m q) (minutesF V w' n m q) := by
  obtain ⟨hA, hW, hG, hm, -, -⟩ := id h
  unfold minutesF
  by_cases c : 1 ≤ q.toInt ∧ q.toInt ≤ 100
  · rw [if_pos c, if_pos c]
    have A := minN_ag hA hV hW (min q.toNatClampNeg (9999 - m))
    refine ⟨?_, n, m + min q.toNatClampNeg (9999 - m), A, minN_WO hV hW _, minN_WG hV hW hG _ (by omega), by omega, fun i hi => minN_out hV hW (by omega) _, fun i hi => minN_out hV (hW.ag hA) (by omega) _⟩
    dsimp only
    rw [A 3 (by omega), hA 3 (by omega)]
  · rw [if_neg c, if_neg c]; exact h.id
theorem hold_le {x : Int32} {K : Nat} (hK : K < 1000) : ∃ c : Nat, c ≤ K ∧ hold x (nI K) = nI c := by
  unfold hold
  by_cases h0 : x < 0
  · rw [if_pos h0]; exact ⟨0, by omega, rfl⟩
  · rw [if_neg h0]
    by_cases h1 : nI K < x
    · rw [if_pos h1]; exact ⟨K, by omega, rfl⟩
    · rw [if_neg h1]
      have a0 : 0 ≤ x.toInt := by
        have := Int32.not_lt.mp h0
        exact Int32.le_iff_toInt_le.mp this
      have a1 : x.toInt ≤ K := by
        have := Int32.le_iff_toInt_le.mp (Int32.not_lt.mp h1)
        rw [nI_toInt (by omega)] at this
        exact this
      obtain ⟨c, hc, e⟩ := inOf ⟨a0, a1⟩ (by omega)
      exact ⟨c, hc, e⟩
theorem pouW_st {f f' : Nat → Int32} (h : StN w w' n m w w') : ∀ k, k ≤ n → (∀ j, j < k → f' j = f j) → pouC w' f' k = pouC w f k ∧ StN w w' n m (pouW w f k) (pouW w' f' k) := by
  have h8 := h.2.1.2.1
  intro k
  induction k with
  | zero => intro _ _; exact ⟨rfl, h⟩
  | succ k ih =>
    intro hk hf
    obtain ⟨g1, g2⟩ := ih (by omega) (fun j hj => hf j (by omega))
    rw [show pouC w' f' (k + 1) = pouC w' f' k + (if (if f' k = vNONE then pouW w' f' k (131 + 5 * k + 4) else hold (f' k) 50) = pouW w' f' k (131 + 5 * k + 4) then 0 else 1) from rfl, show pouC w f (k + 1) = pouC w f k + (if (if f k = vNONE then pouW w f k (131 + 5 * k + 4) else hold (f k) 50) = pouW w f k (131 + 5 * k + 4) then 0 else 1) from rfl, show pouW w' f' (k + 1) = upd (pouW w' f' k) (131 + 5 * k + 4) (if f' k = vNONE then pouW w' f' k (131 + 5 * k + 4) else hold (f' k) 50) from rfl, show pouW w f (k + 1) = upd (pouW w f k) (131 + 5 * k + 4) (if f k = vNONE then pouW w f k (131 + 5 * k + 4) else hold (f k) 50) from rfl, hf k (by omega), g1, ← g2.1 (131 + 5 * k + 4) (by omega)]
    refine ⟨rfl, ?_⟩
    by_cases c : f k = vNONE
    · rw [if_pos c]
      obtain ⟨o, ho, eo⟩ := (g2.2.1.2.2.1 k (by omega)).2.2.2.2
      exact g2.um (f := 4) (c := o) (by omega) (by omega) ho eo rfl
    · rw [if_neg c]
      obtain ⟨o, ho, eo⟩ := hold_le (x := f k) (K := 50) (by omega)
      exact g2.um (f := 4) (c := o) (by omega) (by omega) ho eo rfl
theorem pourF_st {S S' : Nat → Nat → Int32} {sheet : Int32} (h : StN w w' n m w w') (hE : shEq S S') (hS : SO S) : StP w w' (pourF S w n sheet) (pourF S' w' n sheet) := by
  have h8 := h.2.1.2.1
  unfold pourF
  cases hi : ix sheet 4 with
  | none => exact h.id
  | some a =>
    have ha := (ix_lt hi (by omega)).1
    dsimp only
    rw [← hE a ha 24 (by omega), ← hE a ha 25 (by omega)]
    by_cases c : S a 24 < 0
    · rw [if_pos c, if_pos c]; exact h.id
    · rw [if_neg c, if_neg c]
      obtain ⟨g1, g2⟩ := pouW_st (f := S a) (f' := S' a) h (min (S a 25).toNatClampNeg n) (by omega) (fun j hj => (hE a ha j (by omega)).symm)
      exact ⟨g1, n, m, g2⟩
end STN
theorem Rel.st {σ s : SG} {Ts : Nat → Tx} {nt n m : Nat} (hC : CT (σ 3) (σ 0) Ts nt) (hRT : RT (σ 20) Ts nt) (hI : ImgR σ Ts nt) (hSh : ShR σ) (hSl : SlR σ) (hTp : TpR σ) (hWt : WtR σ) (h : StN (σ 0) (σ 20) n m (s 0) (s 20)) (e : ∀ r, r ∉ [0, 20, 2, 4, 6, 22, 31, 33, 34, 35, 37] → s r = σ r) : Rel s := by
  have e38 := e 38 (by decide)
  have e9 := e 9 (by decide)
  have e3 := e 3 (by decide)
  obtain ⟨a1, a2, a3, a4, a5, a6⟩ := h
  exact ⟨⟨Ts, nt, ⟨n, m, by rw [e3]; exact hC.congr (a5 1 (Or.inl rfl)) (fun i hi => a5 i (Or.inr hi)), hRT.congr (a6 1 (Or.inl rfl)) (fun i hi => a6 i (Or.inr hi)), a2, a1, a3, a4⟩, hI.same (e 1 (by decide)) e3 (e 21 (by decide)) (by rw [e9]) (by rw [e38])⟩, hSh.same (e 7 (by decide)) (e 23 (by decide)) (e 24 (by decide)) (e 25 (by decide)), hSl.same (e 8 (by decide)) (e 26 (by decide)) (e 27 (by decide)) (e 28 (by decide)) (e 29 (by decide)) (e 30 (by decide)), hTp.same (e 5 (by decide)) (e 32 (by decide)) (by rw [e38]), hWt.same e9 (e 36 (by decide)) (by rw [e38])⟩
theorem sr2_out {σ : SG} {f g : Nat → Int32} : ∀ r, r ∉ [0, 20, 2, 4, 6, 22, 31, 33, 34, 35, 37] → sr (sr σ 0 f) 20 g r = σ r := fun r hr => by
  simp only [List.mem_cons, List.not_mem_nil, or_false] at hr
  rw [sr_ne (by omega), sr_ne (by omega)]
theorem p_mule {G : GM} {σ : SG} {kind pace grain hole : Int32} (hR : Rel σ) : Pair G yX7_mule cX7_mule 5 2 yX8_mule cX8_mule 5 2 [.int kind, .int pace, .int grain, .int hole] σ := by
  obtain ⟨⟨Ts, nt, ⟨n, m, hC, hRT, hW, hA, hG, hm⟩, hI⟩, hSh, hSl, hTp, hWt⟩ := id hR
  have h8 := hW.2.1
  have hN20 : σ 20 0 = nI n := by rw [← hA 0 (by omega)]; exact hW.1
  have hW20 : WO (σ 20) n m := hW.ag hA
  have hV : VO (lkV Ts nt) := lkV_VO
  have hk : ∀ {f : Nat → Int32}, sr σ 0 f 20 = σ 20 := fun {f} => sr_ne (by omega)
  refine Pair.mk (P := fun r s => r = (muleF (σ 0) n kind pace grain hole).1 ∧ s = sr σ 0 (muleF (σ 0) n kind pace grain hole).2) (Q := fun r s r' s' => r' = (muleF (σ 20) n kind pace grain hole).1 ∧ s' = sr s 20 (muleF (σ 20) n kind pace grain hole).2) (c_X7_mule hW.1 h8) (fun r s hp => ?_) ?_
  · obtain ⟨-, rfl⟩ := hp
    have := @c_X8_mule G (sr σ 0 (muleF (σ 0) n kind pace grain hole).2) n kind pace grain hole (by rw [hk]; exact hN20) h8
    rw [hk] at this
    exact this
  · rintro r s r' s' ⟨e1, e2⟩ ⟨e3, e4⟩
    subst r r' s' s
    obtain ⟨h1, n', m', h2⟩ := muleF_st (StN.rf hA hW hG hm)
    exact ⟨h1, Rel.st hC hRT hI hSh hSl hTp hWt (by rw [sr_ne (by omega), sr_eq, sr_eq]; exact h2) sr2_out⟩
theorem p_turns {G : GM} {σ : SG} {k kind : Int32} (hR : Rel σ) : Pair G yX7_turns cX7_turns 4 2 yX8_turns cX8_turns 3 2 [.int k, .int kind] σ := by
  obtain ⟨⟨Ts, nt, ⟨n, m, hC, hRT, hW, hA, hG, hm⟩, hI⟩, hSh, hSl, hTp, hWt⟩ := id hR
  have h8 := hW.2.1
  have hN20 : σ 20 0 = nI n := by rw [← hA 0 (by omega)]; exact hW.1
  have hW20 : WO (σ 20) n m := hW.ag hA
  have hV : VO (lkV Ts nt) := lkV_VO
  have hk : ∀ {f : Nat → Int32}, sr σ 0 f 20 = σ 20 := fun {f} => sr_ne (by omega)
  refine Pair.mk (P := fun r s => r = (turnsF (σ 0) n k kind).1 ∧ s = sr σ 0 (turnsF (σ 0) n k kind).2) (Q := fun r s r' s' => r' = (turnsF (σ 20) n k kind).1 ∧ s' = sr s 20 (turnsF (σ 20) n k kind).2) (c_X7_turns hW.1 h8) (fun r s hp => ?_) ?_
  · obtain ⟨-, rfl⟩ := hp
    have := @c_X8_turns G (sr σ 0 (turnsF (σ 0) n k kind).2) n k kind (by rw [hk]; exact hN20) h8
    rw [hk] at this
    exact this
  · rintro r s r' s' ⟨e1, e2⟩ ⟨e3, e4⟩
    subst r r' s' s
    obtain ⟨h1, n', m', h2⟩ := turnsF_st (StN.rf hA hW hG hm)
    exact ⟨h1, Rel.st hC hRT hI hSh hSl hTp hWt (by rw [sr_ne (by omega), sr_eq, sr_eq]; exact h2) sr2_out⟩
theorem p_set {G : GM} {σ : SG} {k what v : Int32} (hR : Rel σ) : Pair G yX7_set cX7_set 6 3 yX8_set cX8_set 4 2 [.int k, .int what, .int v] σ := by
  obtain ⟨⟨Ts, nt, ⟨n, m, hC, hRT, hW, hA, hG, hm⟩, hI⟩, hSh, hSl, hTp, hWt⟩ := id hR
  have h8 := hW.2.1
  have hN20 : σ 20 0 = nI n := by rw [← hA 0 (by omega)]; exact hW.1
  have hW20 : WO (σ 20) n m := hW.ag hA
  have hV : VO (lkV Ts nt) := lkV_VO
  have hk : ∀ {f : Nat → Int32}, sr σ 0 f 20 = σ 20 := fun {f} => sr_ne (by omega)
  refine Pair.mk (P := fun r s => r = (setF (σ 0) n k what v).1 ∧ s = sr σ 0 (setF (σ 0) n k what v).2) (Q := fun r s r' s' => r' = (setF (σ 20) n k what v).1 ∧ s' = sr s 20 (setF (σ 20) n k what v).2) (c_X7_set hW.1 h8) (fun r s hp => ?_) ?_
  · obtain ⟨-, rfl⟩ := hp
    have := @c_X8_set G (sr σ 0 (setF (σ 0) n k what v).2) n k what v (by rw [hk]; exact hN20) h8
    rw [hk] at this
    exact this
  · rintro r s r' s' ⟨e1, e2⟩ ⟨e3, e4⟩
    subst r r' s' s
    obtain ⟨h1, n', m', h2⟩ := setF_st (StN.rf hA hW hG hm)
    exact ⟨h1, Rel.st hC hRT hI hSh hSl hTp hWt (by rw [sr_ne (by omega), sr_eq, sr_eq]; exact h2) sr2_out⟩
theorem p_rule {G : GM} {σ : SG} {what v : Int32} (hR : Rel σ) : Pair G yX7_rule cX7_rule 4 1 yX8_rule cX8_rule 4 1 [.int what, .int v] σ := by
  obtain ⟨⟨Ts, nt, ⟨n, m, hC, hRT, hW, hA, hG, hm⟩, hI⟩, hSh, hSl, hTp, hWt⟩ := id hR
  have h8 := hW.2.1
  have hN20 : σ 20 0 = nI n := by rw [← hA 0 (by omega)]; exact hW.1
  have hW20 : WO (σ 20) n m := hW.ag hA
  have hV : VO (lkV Ts nt) := lkV_VO
  have hk : ∀ {f : Nat → Int32}, sr σ 0 f 20 = σ 20 := fun {f} => sr_ne (by omega)
  refine Pair.mk (P := fun r s => r = (ruleF (σ 0) what v).1 ∧ s = sr σ 0 (ruleF (σ 0) what v).2) (Q := fun r s r' s' => r' = (ruleF (σ 20) what v).1 ∧ s' = sr s 20 (ruleF (σ 20) what v).2) (c_X7_rule) (fun r s hp => ?_) ?_
  · obtain ⟨-, rfl⟩ := hp
    have := @c_X8_rule G (sr σ 0 (ruleF (σ 0) what v).2) what v
    rw [hk] at this
    exact this
  · rintro r s r' s' ⟨e1, e2⟩ ⟨e3, e4⟩
    subst r r' s' s
    obtain ⟨h1, n', m', h2⟩ := ruleF_st (StN.rf hA hW hG hm)
    exact ⟨h1, Rel.st hC hRT hI hSh hSl hTp hWt (by rw [sr_ne (by omega), sr_eq, sr_eq]; exact h2) sr2_out⟩
theorem p_sweep {G : GM} {σ : SG} {y : Int32} (hR : Rel σ) : Pair G yX7_sweep cX7_sweep 2 3 yX8_sweep cX8_sweep 2 2 [.int y] σ := by
  obtain ⟨⟨Ts, nt, ⟨n, m, hC, hRT, hW, hA, hG, hm⟩, hI⟩, hSh, hSl, hTp, hWt⟩ := id hR
  have h8 := hW.2.1
  have hN20 : σ 20 0 = nI n := by rw [← hA 0 (by omega)]; exact hW.1
  have hW20 : WO (σ 20) n m := hW.ag hA
  have hV : VO (lkV Ts nt) := lkV_VO
  have hk : ∀ {f : Nat → Int32}, sr σ 0 f 20 = σ 20 := fun {f} => sr_ne (by omega)
  refine Pair.mk (P := fun r s => r = (sweepF (σ 0) y).1 ∧ s = sr σ 0 (sweepF (σ 0) y).2) (Q := fun r s r' s' => r' = (sweepF (σ 20) y).1 ∧ s' = sr s 20 (sweepF (σ 20) y).2) (c_X7_sweep) (fun r s hp => ?_) ?_
  · obtain ⟨-, rfl⟩ := hp
    have := @c_X8_sweep G (sr σ 0 (sweepF (σ 0) y).2) y
    rw [hk] at this
    exact this
  · rintro r s r' s' ⟨e1, e2⟩ ⟨e3, e4⟩
    subst r r' s' s
    obtain ⟨h1, n', m', h2⟩ := sweepF_st (StN.rf hA hW hG hm)
    exact ⟨h1, Rel.st hC hRT hI hSh hSl hTp hWt (by rw [sr_ne (by omega), sr_eq, sr_eq]; exact h2) sr2_out⟩
theorem p_deal {G : GM} {σ : SG} {q : Int32} (hR : Rel σ) : Pair G yX7_deal cX7_deal 4 2 yX8_deal cX8_deal 6 2 [.int q] σ := by
  obtain ⟨⟨Ts, nt, ⟨n, m, hC, hRT, hW, hA, hG, hm⟩, hI⟩, hSh, hSl, hTp, hWt⟩ := id hR
  have h8 := hW.2.1
  have hN20 : σ 20 0 = nI n := by rw [← hA 0 (by omega)]; exact hW.1
  have hW20 : WO (σ 20) n m := hW.ag hA
  have hV : VO (lkV Ts nt) := lkV_VO
  have hk : ∀ {f : Nat → Int32}, sr σ 0 f 20 = σ 20 := fun {f} => sr_ne (by omega)
  refine Pair.mk (P := fun r s => r = (dealF (σ 0) n q).1 ∧ s = sr σ 0 (dealF (σ 0) n q).2) (Q := fun r s r' s' => r' = (dealF (σ 20) n q).1 ∧ s' = sr s 20 (dealF (σ 20) n q).2) (c_X7_deal hW.1 h8) (fun r s hp => ?_) ?_
  · obtain ⟨-, rfl⟩ := hp
    have := @c_X8_deal G (sr σ 0 (dealF (σ 0) n q).2) n q (by rw [hk]; exact hN20) h8
    rw [hk] at this
    exact this
  · rintro r s r' s' ⟨e1, e2⟩ ⟨e3, e4⟩
    subst r r' s' s
    obtain ⟨h1, n', m', h2⟩ := dealF_st (StN.rf hA hW hG hm)
    exact ⟨h1, Rel.st hC hRT hI hSh hSl hTp hWt (by rw [sr_ne (by omega), sr_eq, sr_eq]; exact h2) sr2_out⟩
theorem p_rain {G : GM} {σ : SG} (hR : Rel σ) : Pair G yX7_rain cX7_rain 1 1 yX8_rain cX8_rain 4 0 [] σ := by
  obtain ⟨⟨Ts, nt, ⟨n, m, hC, hRT, hW, hA, hG, hm⟩, hI⟩, hSh, hSl, hTp, hWt⟩ := id hR
  have h8 := hW.2.1
  have hN20 : σ 20 0 = nI n := by rw [← hA 0 (by omega)]; exact hW.1
  have hW20 : WO (σ 20) n m := hW.ag hA
  have hV : VO (lkV Ts nt) := lkV_VO
  have hk : ∀ {f : Nat → Int32}, sr σ 0 f 20 = σ 20 := fun {f} => sr_ne (by omega)
  refine Pair.mk (P := fun r s => r = rainS (σ 0) 60 ∧ s = sr σ 0 (rainW (σ 0) 60)) (Q := fun r s r' s' => r' = rainS (σ 20) 60 ∧ s' = sr s 20 (rainW (σ 20) 60)) c_X7_rain (fun r s hp => ?_) ?_
  · obtain ⟨-, rfl⟩ := hp
    have := @c_X8_rain G (sr σ 0 (rainW (σ 0) 60))
    rw [hk] at this
    exact this
  · rintro r s r' s' ⟨e1, e2⟩ ⟨e3, e4⟩
    subst r r' s' s
    obtain ⟨h1, h2⟩ := rain_st (StN.rf hA hW hG hm)
    exact ⟨h1, Rel.st hC hRT hI hSh hSl hTp hWt (by rw [sr_ne (by omega), sr_eq, sr_eq]; exact h2) sr2_out⟩
theorem p_seed {G : GM} {σ : SG} {v : Int32} (hR : Rel σ) : Pair G yX7_seed cX7_seed 3 0 yX8_seed cX8_seed 2 1 [.int v] σ := by
  obtain ⟨⟨Ts, nt, ⟨n, m, hC, hRT, hW, hA, hG, hm⟩, hI⟩, hSh, hSl, hTp, hWt⟩ := id hR
  have h8 := hW.2.1
  have hN20 : σ 20 0 = nI n := by rw [← hA 0 (by omega)]; exact hW.1
  have hW20 : WO (σ 20) n m := hW.ag hA
  have hV : VO (lkV Ts nt) := lkV_VO
  have hk : ∀ {f : Nat → Int32}, sr σ 0 f 20 = σ 20 := fun {f} => sr_ne (by omega)
  refine Pair.mk (P := fun r s => r = σ 0 6 ∧ s = sr σ 0 (upd (σ 0) 6 v)) (Q := fun r s r' s' => r' = σ 20 6 ∧ s' = sr s 20 (upd (σ 20) 6 v)) c_X7_seed (fun r s hp => ?_) ?_
  · obtain ⟨-, rfl⟩ := hp
    have := @c_X8_seed G (sr σ 0 (upd (σ 0) 6 v)) v
    unfold su at this
    rw [hk] at this
    exact this
  · rintro r s r' s' ⟨e1, e2⟩ ⟨e3, e4⟩
    subst r r' s' s
    exact ⟨(hA 6 (by omega)).symm, Rel.st hC hRT hI hSh hSl hTp hWt (by rw [sr_ne (by omega), sr_eq, sr_eq]; exact (StN.rf hA hW hG hm).u6 rfl) sr2_out⟩
theorem p_minutes {G : GM} {σ : SG} {q : Int32} (hR : Rel σ) : Pair G yX7_minutes cX7_minutes 3 6 yX8_minutes cX8_minutes 4 5 [.int q] σ := by
  obtain ⟨⟨Ts, nt, ⟨n, m, hC, hRT, hW, hA, hG, hm⟩, hI⟩, hSh, hSl, hTp, hWt⟩ := id hR
  have h8 := hW.2.1
  have hN20 : σ 20 0 = nI n := by rw [← hA 0 (by omega)]; exact hW.1
  have hW20 : WO (σ 20) n m := hW.ag hA
  have hV : VO (lkV Ts nt) := lkV_VO
  refine Pair.mk (c_X7_minutes hC hW hm) (fun r s hp => c_X8_minutes (Ts := Ts) (nt := nt) (n := n) (m := m) (by rw [hp.2.2 20 (by decide)]; exact hRT) (by rw [hp.2.2 20 (by decide)]; exact hW20) hm) ?_
  rintro r s r' s' ⟨e1, e2, h1⟩ ⟨e3, e4, h2⟩
  rw [h1 20 (by decide)] at e3 e4
  obtain ⟨q1, n', m', q2⟩ := minutesF_st (q := q) hV (StN.rf hA hW hG hm)
  refine ⟨by rw [e1, e3]; exact q1, Rel.st hC hRT hI hSh hSl hTp hWt (by rw [h2 0 (by decide), e2, e4]; exact q2) (fun r hr => ?_)⟩
  rw [h2 r (fun z => hr (by simp only [List.mem_cons, List.not_mem_nil, or_false] at z ⊢; omega)), h1 r (fun z => hr (by simp only [List.mem_cons, List.not_mem_nil, or_false] at z ⊢; omega))]
theorem p_pour {G : GM} {σ : SG} {sheet : Int32} (hR : Rel σ) : Pair G yX7_pour cX7_pour 6 3 yX8_pour cX8_pour 6 2 [.int sheet] σ := by
  obtain ⟨⟨Ts, nt, ⟨n, m, hC, hRT, hW, hA, hG, hm⟩, hI⟩, hSh, hSl, hTp, hWt⟩ := id hR
  have h8 := hW.2.1
  have hN20 : σ 20 0 = nI n := by rw [← hA 0 (by omega)]; exact hW.1
  have hW20 : WO (σ 20) n m := hW.ag hA
  have hV : VO (lkV Ts nt) := lkV_VO
  have hk : ∀ {f : Nat → Int32}, sr σ 0 f 20 = σ 20 := fun {f} => sr_ne (by omega)
  have hk2 : ∀ {f : Nat → Int32}, shR (sr σ 0 f) = shR σ := fun {f} => by unfold shR; rw [sr_ne (by omega), sr_ne (by omega), sr_ne (by omega)]
  have hk3 : ∀ {f : Nat → Int32}, sr σ 0 f 24 = σ 24 := fun {f} => sr_ne (by omega)
  refine Pair.mk (P := fun r s => r = (pourF (shC σ) (σ 0) n sheet).1 ∧ s = sr σ 0 (pourF (shC σ) (σ 0) n sheet).2) (Q := fun r s r' s' => r' = (pourF (shR σ) (σ 20) n sheet).1 ∧ s' = sr s 20 (pourF (shR σ) (σ 20) n sheet).2) (c_X7_pour hSh.2.1 hW.1 h8) (fun r s hp => ?_) ?_
  · obtain ⟨-, rfl⟩ := hp
    have := @c_X8_pour G (sr σ 0 (pourF (shC σ) (σ 0) n sheet).2) n sheet (by rw [hk3]; exact shz hSh) (by rw [hk]; exact hN20) h8
    rw [hk, hk2] at this
    exact this
  · rintro r s r' s' ⟨e1, e2⟩ ⟨e3, e4⟩
    subst r r' s' s
    obtain ⟨h1, n', m', h2⟩ := pourF_st (sheet := sheet) (StN.rf hA hW hG hm) hSh.1 hSh.2.1
    exact ⟨h1, Rel.st hC hRT hI hSh hSl hTp hWt (by rw [sr_ne (by omega), sr_eq, sr_eq]; exact h2) sr2_out⟩
