/-! constructors: the class -/
def rOK (m j : Nat) : Bool := match lay j with
  | .inl _ => true
  | .inr (.inl a) => (List.range a.2.1).all (fun i => decide (a.2.2 i < m))
  | .inr (.inr a) => a.2.all (fun x => match x with
    | .inl k => decide (k < m)
    | .inr _ => true)
theorem EqE_ad {G : GM} {ad ad' : Nat → Nat} {σ : SG} {j m : Nat} (h : rOK m j = true) (e : ∀ i, i < m → ad' i = ad i) : EqE G (ce (GA G ad) σ j) (ce (GA G ad') σ j) := by
  unfold rOK at h
  unfold ce
  generalize lay j = x at h
  match x with
  | .inl a => exact EqE.rf
  | .inr (.inl a) =>
    refine EqE.refs (fun i hi => ?_)
    have h1 := List.all_eq_true.mp h i (List.mem_range.mpr hi)
    show some (ad (a.2.2 i)) = some (ad' (a.2.2 i))
    rw [e _ (of_decide_eq_true h1)]
  | .inr (.inr a) =>
    refine EqE.of ?_
    have : a.2.map (fv (GA G ad) σ) = a.2.map (fv (GA G ad') σ) := by
      apply List.map_congr_left
      intro y hy
      have h1 := List.all_eq_true.mp h y hy
      match y with
      | .inl k =>
        show Value.ref (ad k) = Value.ref (ad' k)
        rw [e _ (of_decide_eq_true h1)]
      | .inr _ => rfl
    show (.inr (a.1, a.2.map (fv (GA G ad) σ)) : va_E) = .inr (a.1, a.2.map (fv (GA G ad') σ))
    rw [this]
theorem EqE_zI {G : GM} {ad : Nat → Nat} {j N r o : Nat} (hl : lay j = lI N r o) (h : ∀ i, i < N → σ0 r (o + i) = 0) : EqE G (zI G N) (ce (GA G ad) σ0 j) := by
  unfold ce
  rw [hl]
  exact EqE.ints (fun i hi => by rw [ia_at hi, h i hi])
theorem EqE_int {G : GM} {ad : Nat → Nat} {j N r o : Nat} {g : Nat → Int32} (hl : lay j = lI N r o) (h : ∀ i, i < N → g i = σ0 r (o + i)) : EqE G (.inl (G.2.1 0, N, .inl g)) (ce (GA G ad) σ0 j) := by
  unfold ce
  rw [hl]
  exact EqE.ints (fun i hi => by rw [ia_at hi, h i hi])
theorem EqE_obj {G : GM} {ad : Nat → Nat} {j ci : Nat} {fl : List LF} {vs : List Value} (hl : lay j = lO ci fl) (h : vs = fl.map (fv (GA G ad) σ0)) : EqE G (.inr (ci, vs)) (ce (GA G ad) σ0 j) := by
  unfold ce
  rw [hl, h]
  exact EqE.rf
theorem EqE_ref {G : GM} {ad : Nat → Nat} {j c N : Nat} {f : Nat → Nat} {g : Nat → Option Nat} (hl : lay j = lR c N f) (h : ∀ i, i < N → g i = some (ad (f i))) : EqE G (.inl (G.2.1 c, N, .inr (.inr (.inr (.inr g))))) (ce (GA G ad) σ0 j) := by
  unfold ce
  rw [hl]
  exact EqE.refs h
/-- the cells from 2 on, below m, are as they shall be -/
def Fin_ (G : GM) (m : Nat) (ad : Nat → Nat) (c : Nat → va_E) : Prop := ∀ j, 2 ≤ j → j < m → EqE G (c j) (ce (GA G ad) σ0 j)
theorem rOKs : ∀ m ∈ [31, 36, 50, 64, 78, 87, 108], (List.range m).all (fun j => decide (j < 2) || rOK m j) = true := by decide +kernel
theorem Fin_.step {G : GM} {m : Nat} {ad ad' : Nat → Nat} {c c' : Nat → va_E} (h : Fin_ G m ad c) (hm : m ∈ [31, 36, 50, 64, 78, 87, 108]) (ea : ∀ j, j < m → ad' j = ad j) (ec : ∀ j, 2 ≤ j → j < m → c' j = c j) : Fin_ G m ad' c' := by
  intro j h2 hj
  have h1 := List.all_eq_true.mp (rOKs m hm) j (List.mem_range.mpr hj)
  have h3 : rOK m j = true := by
    rw [Bool.or_eq_true] at h1
    exact h1.resolve_left (fun z => absurd (of_decide_eq_true z) (by omega))
  rw [ec j h2 hj]
  exact (h j h2 hj).tr (EqE_ad h3 ea)
theorem s0w {w o : Nat} (hw : w < 3) (h6 : o ≠ 6) (h7 : ¬ (171 ≤ o ∧ o < 174)) : σ0 w o = 0 := by
  unfold σ0
  rw [if_pos (by omega), if_neg h6, if_neg h7]
/-- a world -/
theorem EqE_W {G : GM} {n w : Nat} {ad : Nat → Nat} {c : Nat → va_E} {b : Nat} (hw : w < 3) (hn : n = 37 + 14 * w) (hb : b = ad 1)
    (e0 : c (36 + 14 * w) = .inr (6, [.ref b, .ref (ad n), .ref (ad (n + 9)), .ref (ad (n + 10)), .ref (ad (n + 11)), .ref (ad (n + 12)), .int 0, .int 0, .int 0, .int 0, .int 0, .int 1, .int 0]))
    (e1 : ∃ f : Nat → Option Nat, c n = .inl (G.2.1 1, 8, .inr (.inr (.inr (.inr f)))) ∧ ∀ i, i < 8 → f i = some (ad (n + 1 + i)))
    (e2 : ∀ i, i < 8 → c (n + 1 + i) = .inr (0, df_0)) (e3 : c (n + 9) = zI G 60) (e4 : c (n + 10) = zI G 60) (e5 : c (n + 11) = zI G 4)
    (e6 : ∃ g : Nat → Int32, c (n + 12) = .inl (G.2.1 0, 3, .inl g) ∧ ∀ i, i < 3 → g i = vNONE) : ∀ j, 36 + 14 * w ≤ j → j < 50 + 14 * w → EqE G (c j) (ce (GA G ad) σ0 j) := by
  subst hn
  subst hb
  obtain ⟨l0, l1, l2, l3, l4, l5⟩ := layW hw
  have z := fun o h6 h7 => s0w (w := w) (o := o) hw h6 h7
  intro j h1 h2
  by_cases c0 : j = 36 + 14 * w
  · subst c0
    rw [e0]
    refine EqE_obj l0 ?_
    simp only [List.map_cons, List.map_nil, fv, rf, GA]
    rw [z 0 (by decide) (by omega), z 3 (by decide) (by omega), z 4 (by decide) (by omega), z 5 (by decide) (by omega), z 2 (by decide) (by omega), z 1 (by decide) (by omega), show σ0 w 6 = 1 from by unfold σ0; rw [if_pos (by omega), if_pos rfl]]
    rw [show 37 + 14 * w + 9 = 46 + 14 * w by omega, show 37 + 14 * w + 10 = 47 + 14 * w by omega, show 37 + 14 * w + 11 = 48 + 14 * w by omega, show 37 + 14 * w + 12 = 49 + 14 * w by omega]
  · by_cases c1 : j = 37 + 14 * w
    · subst c1
      obtain ⟨f, f1, f2⟩ := e1
      rw [f1]
      exact EqE_ref l1 (fun i hi => by rw [f2 i hi, show 37 + 14 * w + 1 + i = 38 + 14 * w + i by omega])
    · by_cases c2 : j < 46 + 14 * w
      · obtain ⟨i, hi, rfl⟩ : ∃ i, i < 8 ∧ j = 38 + 14 * w + i := ⟨j - (38 + 14 * w), by omega, by omega⟩
        have := e2 i hi
        rw [show 37 + 14 * w + 1 + i = 38 + 14 * w + i by omega] at this
        rw [this]
        refine EqE_obj (layM hw hi) ?_
        simp only [List.map_cons, List.map_nil, fv]
        rw [z _ (by omega) (by omega), z _ (by omega) (by omega), z _ (by omega) (by omega), z _ (by omega) (by omega), z _ (by omega) (by omega)]
        rfl
      · by_cases c3 : j = 46 + 14 * w
        · subst c3
          rw [show 37 + 14 * w + 9 = 46 + 14 * w by omega] at e3
          rw [e3]
          exact EqE_zI l2 (fun i hi => z _ (by omega) (by omega))
        · by_cases c4 : j = 47 + 14 * w
          · subst c4
            rw [show 37 + 14 * w + 10 = 47 + 14 * w by omega] at e4
            rw [e4]
            exact EqE_zI l3 (fun i hi => z _ (by omega) (by omega))
          · by_cases c5 : j = 48 + 14 * w
            · subst c5
              rw [show 37 + 14 * w + 11 = 48 + 14 * w by omega] at e5
              rw [e5]
              exact EqE_zI l4 (fun i hi => z _ (by omega) (by omega))
            · have c6 : j = 49 + 14 * w := by omega
              subst c6
              obtain ⟨g, g1, g2⟩ := e6
              rw [show 37 + 14 * w + 12 = 49 + 14 * w by omega] at g1
              rw [g1]
              exact EqE_int l5 (fun i hi => by rw [g2 i hi]; unfold σ0; rw [if_pos (by omega), if_neg (by omega), if_pos (by omega)])
