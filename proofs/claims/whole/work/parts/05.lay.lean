/-! the store, the layout, the cells -/
abbrev SG : Type := Nat → Nat → Int32
def sr (σ : SG) (r : Nat) (f : Nat → Int32) : SG := fun r' => if r' = r then f else σ r'
def su (σ : SG) (r o : Nat) (v : Int32) : SG := sr σ r (upd (σ r) o v)
theorem sr_eq {σ : SG} {r : Nat} {f : Nat → Int32} : sr σ r f r = f := by simp [sr]
theorem sr_ne {σ : SG} {r r' : Nat} {f : Nat → Int32} (h : r' ≠ r) : sr σ r f r' = σ r' := by simp [sr, h]
theorem su_eq {σ : SG} {r o : Nat} {v : Int32} : su σ r o v r = upd (σ r) o v := sr_eq
theorem su_ne {σ : SG} {r r' o : Nat} {v : Int32} (h : r' ≠ r) : su σ r o v r' = σ r' := sr_ne h
theorem su_at {σ : SG} {r o r' o' : Nat} {v : Int32} (h : ¬ (r' = r ∧ o' = o)) : su σ r o v r' o' = σ r' o' := by
  by_cases hr : r' = r
  · subst hr
    rw [su_eq]
    exact if_neg (fun e => h ⟨rfl, e⟩)
  · rw [su_ne hr]
abbrev LF : Type := Nat ⊕ (Nat × Nat)
abbrev LC : Type := (Nat × Nat × Nat) ⊕ ((Nat × Nat × (Nat → Nat)) ⊕ (Nat × List LF))
abbrev lI (n r o : Nat) : LC := .inl (n, r, o)
abbrev lR (c n : Nat) (f : Nat → Nat) : LC := .inr (.inl (c, n, f))
abbrev lO (ci : Nat) (fl : List LF) : LC := .inr (.inr (ci, fl))
abbrev fR (k : Nat) : LF := .inl k
abbrev fI (r o : Nat) : LF := .inr (r, o)
def layL : List LC := [
  lO 7 [fR 1, fR 31, fR 33, fR 36, fR 50, fR 64, fR 78, fR 87, fR 108, fI 9 60, fI 9 61],
  lR 4 14 (fun i => 3 + 2 * i),
  lI 96 4 0,
  lO 4 [fR 4, fI 3 96, fI 3 97, fI 3 98, fR 2],
  lI 96 3 0,
  lO 4 [fR 6, fI 3 196, fI 3 197, fI 3 198, fR 2],
  lI 96 3 100,
  lO 4 [fR 8, fI 3 296, fI 3 297, fI 3 298, fR 2],
  lI 96 3 200,
  lO 4 [fR 10, fI 3 396, fI 3 397, fI 3 398, fR 2],
  lI 96 3 300,
  lO 4 [fR 12, fI 3 496, fI 3 497, fI 3 498, fR 2],
  lI 96 3 400,
  lO 4 [fR 14, fI 3 596, fI 3 597, fI 3 598, fR 2],
  lI 96 3 500,
  lO 4 [fR 16, fI 3 696, fI 3 697, fI 3 698, fR 2],
  lI 96 3 600,
  lO 4 [fR 18, fI 3 796, fI 3 797, fI 3 798, fR 2],
  lI 96 3 700,
  lO 4 [fR 20, fI 3 896, fI 3 897, fI 3 898, fR 2],
  lI 96 3 800,
  lO 4 [fR 22, fI 3 996, fI 3 997, fI 3 998, fR 2],
  lI 96 3 900,
  lO 4 [fR 24, fI 3 1096, fI 3 1097, fI 3 1098, fR 2],
  lI 96 3 1000,
  lO 4 [fR 26, fI 3 1196, fI 3 1197, fI 3 1198, fR 2],
  lI 96 3 1100,
  lO 4 [fR 28, fI 3 1296, fI 3 1297, fI 3 1298, fR 2],
  lI 96 3 1200,
  lO 4 [fR 30, fI 3 1396, fI 3 1397, fI 3 1398, fR 2],
  lI 96 3 1300,
  lO 3 [fR 32, fI 5 96],
  lI 96 5 0,
  lO 5 [fR 34, fI 6 0, fR 31, fI 6 1, fI 6 2],
  lO 4 [fR 35, fI 3 1496, fI 3 1497, fI 3 1498, fR 2],
  lI 96 3 1400,
  lO 6 [fR 1, fR 37, fR 46, fR 47, fR 48, fR 49, fI 0 0, fI 0 3, fI 0 4, fI 0 5, fI 0 2, fI 0 6, fI 0 1],
  lR 1 8 (fun i => 38 + i),
  lO 0 [fI 0 131, fI 0 132, fI 0 133, fI 0 134, fI 0 135],
  lO 0 [fI 0 136, fI 0 137, fI 0 138, fI 0 139, fI 0 140],
  lO 0 [fI 0 141, fI 0 142, fI 0 143, fI 0 144, fI 0 145],
  lO 0 [fI 0 146, fI 0 147, fI 0 148, fI 0 149, fI 0 150],
  lO 0 [fI 0 151, fI 0 152, fI 0 153, fI 0 154, fI 0 155],
  lO 0 [fI 0 156, fI 0 157, fI 0 158, fI 0 159, fI 0 160],
  lO 0 [fI 0 161, fI 0 162, fI 0 163, fI 0 164, fI 0 165],
  lO 0 [fI 0 166, fI 0 167, fI 0 168, fI 0 169, fI 0 170],
  lI 60 0 11,
  lI 60 0 71,
  lI 4 0 7,
  lI 3 0 171,
  lO 6 [fR 1, fR 51, fR 60, fR 61, fR 62, fR 63, fI 1 0, fI 1 3, fI 1 4, fI 1 5, fI 1 2, fI 1 6, fI 1 1],
  lR 1 8 (fun i => 52 + i),
  lO 0 [fI 1 131, fI 1 132, fI 1 133, fI 1 134, fI 1 135],
  lO 0 [fI 1 136, fI 1 137, fI 1 138, fI 1 139, fI 1 140],
  lO 0 [fI 1 141, fI 1 142, fI 1 143, fI 1 144, fI 1 145],
  lO 0 [fI 1 146, fI 1 147, fI 1 148, fI 1 149, fI 1 150],
  lO 0 [fI 1 151, fI 1 152, fI 1 153, fI 1 154, fI 1 155],
  lO 0 [fI 1 156, fI 1 157, fI 1 158, fI 1 159, fI 1 160],
  lO 0 [fI 1 161, fI 1 162, fI 1 163, fI 1 164, fI 1 165],
  lO 0 [fI 1 166, fI 1 167, fI 1 168, fI 1 169, fI 1 170],
  lI 60 1 11,
  lI 60 1 71,
  lI 4 1 7,
  lI 3 1 171,
  lO 6 [fR 1, fR 65, fR 74, fR 75, fR 76, fR 77, fI 2 0, fI 2 3, fI 2 4, fI 2 5, fI 2 2, fI 2 6, fI 2 1],
  lR 1 8 (fun i => 66 + i),
  lO 0 [fI 2 131, fI 2 132, fI 2 133, fI 2 134, fI 2 135],
  lO 0 [fI 2 136, fI 2 137, fI 2 138, fI 2 139, fI 2 140],
  lO 0 [fI 2 141, fI 2 142, fI 2 143, fI 2 144, fI 2 145],
  lO 0 [fI 2 146, fI 2 147, fI 2 148, fI 2 149, fI 2 150],
  lO 0 [fI 2 151, fI 2 152, fI 2 153, fI 2 154, fI 2 155],
  lO 0 [fI 2 156, fI 2 157, fI 2 158, fI 2 159, fI 2 160],
  lO 0 [fI 2 161, fI 2 162, fI 2 163, fI 2 164, fI 2 165],
  lO 0 [fI 2 166, fI 2 167, fI 2 168, fI 2 169, fI 2 170],
  lI 60 2 11,
  lI 60 2 71,
  lI 4 2 7,
  lI 3 2 171,
  lR 2 4 (fun i => 79 + 2 * i),
  lO 1 [fR 80, fI 7 24, fI 7 25],
  lI 24 7 0,
  lO 1 [fR 82, fI 7 56, fI 7 57],
  lI 24 7 32,
  lO 1 [fR 84, fI 7 88, fI 7 89],
  lI 24 7 64,
  lO 1 [fR 86, fI 7 120, fI 7 121],
  lI 24 7 96,
  lR 3 5 (fun i => 88 + 4 * i),
  lO 2 [fR 89, fR 90, fI 8 0, fI 8 1],
  lO 0 [fI 8 2, fI 8 3, fI 8 4, fI 8 5, fI 8 6],
  lO 1 [fR 91, fI 8 34, fI 8 35],
  lI 24 8 10,
  lO 2 [fR 93, fR 94, fI 8 64, fI 8 65],
  lO 0 [fI 8 66, fI 8 67, fI 8 68, fI 8 69, fI 8 70],
  lO 1 [fR 95, fI 8 98, fI 8 99],
  lI 24 8 74,
  lO 2 [fR 97, fR 98, fI 8 128, fI 8 129],
  lO 0 [fI 8 130, fI 8 131, fI 8 132, fI 8 133, fI 8 134],
  lO 1 [fR 99, fI 8 162, fI 8 163],
  lI 24 8 138,
  lO 2 [fR 101, fR 102, fI 8 192, fI 8 193],
  lO 0 [fI 8 194, fI 8 195, fI 8 196, fI 8 197, fI 8 198],
  lO 1 [fR 103, fI 8 226, fI 8 227],
  lI 24 8 202,
  lO 2 [fR 105, fR 106, fI 8 256, fI 8 257],
  lO 0 [fI 8 258, fI 8 259, fI 8 260, fI 8 261, fI 8 262],
  lO 1 [fR 107, fI 8 290, fI 8 291],
  lI 24 8 266,
  lI 60 9 0,
  lO 8 [fR 110, fR 111, fR 112, fI 38 0, fR 113, fR 114, fR 115, fR 116, fR 117, fR 118, fR 119, fR 120, fR 121, fR 122, fI 38 1, fI 38 2, fI 38 3, fI 38 4, fI 38 5, fI 38 6, fI 38 7, fI 38 8, fI 38 9, fI 38 10, fI 38 11, fR 123, fR 124, fR 125, fR 126, fI 38 12, fR 127],
  lI 3171 20 0,
  lI 3171 21 0,
  lI 3171 22 0,
  lI 4 23 0,
  lI 4 24 0,
  lI 96 25 0,
  lI 5 26 0,
  lI 5 27 0,
  lI 5 28 0,
  lI 5 29 0,
  lI 120 30 0,
  lI 171 31 0,
  lI 96 32 0,
  lI 128 33 0,
  lI 100 34 0,
  lI 24 35 0,
  lI 60 36 0,
  lI 60 37 0]
def lay (k : Nat) : LC := layL.getD k (lI 0 0 0)
theorem layL_len : layL.length = 128 := by decide +kernel
theorem lay_out {k : Nat} (h : 128 ≤ k) : lay k = lI 0 0 0 := by
  unfold lay
  rw [List.getD_eq_getElem?_getD, List.getElem?_eq_none (by rw [layL_len]; exact h)]
  rfl
/-- which cell a place of the store belongs to -/
def who (r o : Nat) : Nat :=
  if r ≤ 2 then (if o < 7 then 36 + 14 * r else if o < 11 then 48 + 14 * r else if o < 71 then 46 + 14 * r else if o < 131 then 47 + 14 * r else if o < 171 then 38 + 14 * r + (o - 131) / 5 else 49 + 14 * r)
  else if r = 3 then (if o % 100 < 96 then (if o / 100 = 14 then 35 else 4 + 2 * (o / 100)) else (if o / 100 = 14 then 34 else 3 + 2 * (o / 100)))
  else if r = 4 then 2
  else if r = 5 then (if o < 96 then 32 else 31)
  else if r = 6 then 33
  else if r = 7 then (if o % 32 < 24 then 80 + 2 * (o / 32) else 79 + 2 * (o / 32))
  else if r = 8 then (if o % 64 < 2 then 88 + 4 * (o / 64) else if o % 64 < 7 then 89 + 4 * (o / 64) else if o % 64 < 34 then 91 + 4 * (o / 64) else 90 + 4 * (o / 64))
  else if r = 9 then (if o < 60 then 108 else 0)
  else if r = 38 then 109 else 90 + r
def whoF (k : Nat) (x : LF) : Bool := match x with
  | .inl _ => true
  | .inr q => who q.1 q.2 == k
def whoC (k : Nat) : Bool := match lay k with
  | .inl a => (List.range a.1).all (fun i => who a.2.1 (a.2.2 + i) == k)
  | .inr (.inl _) => true
  | .inr (.inr a) => a.2.all (whoF k)
theorem whoC_ok : (List.range 128).all whoC = true := by decide +kernel
/-- D: the classes' numbers and slots; the array classes; the cells' addresses; the cells that may change; the texts, their bytes; the tables -/
abbrev GM : Type := va_G × (Nat → ClassId) × (Nat → Nat) × (Nat → Prop) × (Nat → Nat) × (Nat → Nat) × (Nat → Nat)
def rf (G : GM) (k : Nat) : Value := .ref (G.2.2.1 k)
def fv (G : GM) (σ : SG) (x : LF) : Value := match x with
  | .inl k => rf G k
  | .inr q => .int (σ q.1 q.2)
def ia (σ : SG) (n r o : Nat) : Nat → Int32 := fun i => if i < n then σ r (o + i) else 0
def ceL (G : GM) (σ : SG) (x : LC) : va_E := match x with
  | .inl a => .inl (G.2.1 0, a.1, .inl (ia σ a.1 a.2.1 a.2.2))
  | .inr (.inl a) => .inl (G.2.1 a.1, a.2.1, .inr (.inr (.inr (.inr (fun i => some (G.2.2.1 (a.2.2 i)))))))
  | .inr (.inr a) => .inr (a.1, a.2.map (fv G σ))
def ce (G : GM) (σ : SG) (k : Nat) : va_E := ceL G σ (lay k)
def cs (G : GM) (σ : SG) : va_W := (List.range 128).map (fun k => (G.2.2.1 k, ce G σ k))
def ty5 (G : GM) : List (ClassId × FieldType) := [(G.2.1 0, .int), (G.2.1 1, .object RX0), (G.2.1 2, .object RX1), (G.2.1 3, .object RX2), (G.2.1 4, .object RX4)]
def GD (G : GM) : Prop := (∀ i j, i < 128 → j < 128 → G.2.2.1 i = G.2.2.1 j → i = j) ∧ ∀ i, i < 128 → G.2.2.2.1 (G.2.2.1 i)
theorem cs_at {G : GM} {σ : SG} {k : Nat} (h : k < 128) : (cs G σ)[k]? = some (G.2.2.1 k, ce G σ k) := by
  simp [cs, h]
theorem cs_len {G : GM} {σ : SG} : (cs G σ).length = 128 := by simp [cs]
theorem cs_D {G : GM} {σ : SG} (h : GD G) : va_D G.2.2.2.1 (cs G σ) := by
  refine ⟨fun i j p q hi hj e => ?_, fun k q hk => ?_⟩
  · have li : i < 128 := by have := (List.getElem?_eq_some_iff.mp hi).1; rwa [cs_len] at this
    have lj : j < 128 := by have := (List.getElem?_eq_some_iff.mp hj).1; rwa [cs_len] at this
    rw [cs_at li] at hi
    rw [cs_at lj] at hj
    cases hi
    cases hj
    exact h.1 i j li lj e
  · have lk : k < 128 := by have := (List.getElem?_eq_some_iff.mp hk).1; rwa [cs_len] at this
    rw [cs_at lk] at hk
    cases hk
    exact h.2 k lk
theorem cs_set {G : GM} {σ σ' : SG} {k : Nat} (hk : k < 128) (h : ∀ j, j < 128 → j ≠ k → ce G σ' j = ce G σ j) {e : va_E} (he : e = ce G σ' k) : (cs G σ).set k (G.2.2.1 k, e) = cs G σ' := by
  subst he
  apply List.ext_getElem?
  intro i
  by_cases hi : i < 128
  · by_cases e : i = k
    · subst e
      rw [List.getElem?_set_self (by rw [cs_len]; exact hi), cs_at hi]
    · rw [List.getElem?_set_ne (Ne.symm e), cs_at hi, cs_at hi, h i hi e]
  · rw [List.getElem?_eq_none (by rw [List.length_set, cs_len]; omega), List.getElem?_eq_none (by rw [cs_len]; omega)]
theorem whoC_at {k : Nat} (h : k < 128) : whoC k = true := List.all_eq_true.mp whoC_ok k (List.mem_range.mpr h)
/-- a cell doesn't see a change at places that aren't its own -/
theorem ce_other {G : GM} {σ σ' : SG} {k : Nat} (hk : k < 128) (h : ∀ r o, who r o = k → σ' r o = σ r o) : ce G σ' k = ce G σ k := by
  have hw := whoC_at hk
  unfold ce
  unfold whoC at hw
  generalize lay k = x at hw ⊢
  match x with
  | .inl a =>
    have : ia σ' a.1 a.2.1 a.2.2 = ia σ a.1 a.2.1 a.2.2 := by
      funext i
      unfold ia
      by_cases hi : i < a.1
      · rw [if_pos hi, if_pos hi]
        exact h _ _ (by simpa using List.all_eq_true.mp hw i (List.mem_range.mpr hi))
      · rw [if_neg hi, if_neg hi]
    simp only [ceL, this]
  | .inr (.inl a) => rfl
  | .inr (.inr a) =>
    have : a.2.map (fv G σ') = a.2.map (fv G σ) := by
      apply List.map_congr_left
      intro y hy
      have h1 := List.all_eq_true.mp hw y hy
      match y with
      | .inl _ => rfl
      | .inr q =>
        have h2 : who q.1 q.2 = k := by simpa [whoF] using h1
        simp only [fv, h _ _ h2]
    simp only [ceL, this]
theorem who_fI {k ci j r o : Nat} {fl : List LF} (hk : k < 128) (hl : lay k = lO ci fl) (hf : fl[j]? = some (fI r o)) : who r o = k := by
  have hw := whoC_at hk
  unfold whoC at hw
  rw [hl] at hw
  have h1 := List.all_eq_true.mp hw _ (List.mem_of_getElem? hf)
  simpa [whoF] using h1
theorem who_lI {k n r o i : Nat} (hk : k < 128) (hl : lay k = lI n r o) (hi : i < n) : who r (o + i) = k := by
  have hw := whoC_at hk
  unfold whoC at hw
  rw [hl] at hw
  simpa using List.all_eq_true.mp hw i (List.mem_range.mpr hi)
theorem lt_lO {k ci : Nat} {fl : List LF} (hl : lay k = lO ci fl) : k < 128 := by
  by_cases h : k < 128
  · exact h
  · rw [lay_out (by omega)] at hl
    cases hl
theorem lt_lR {k c n : Nat} {f : Nat → Nat} (hl : lay k = lR c n f) : k < 128 := by
  by_cases h : k < 128
  · exact h
  · rw [lay_out (by omega)] at hl
    cases hl
theorem lt_lI {k n r o : Nat} (hl : lay k = lI n r o) (hn : 0 < n) : k < 128 := by
  by_cases h : k < 128
  · exact h
  · rw [lay_out (by omega)] at hl
    cases hl
    omega
/-- the fields of an object behind a write of one of its ints (its places of the store are apart) -/
def fd (fl : List LF) : Bool := match fl with
  | [] => true
  | x :: l => (match x with
    | .inl _ => true
    | .inr q => l.all (fun y => match y with
      | .inl _ => true
      | .inr q2 => !(q.1 == q2.1 && q.2 == q2.2))) && fd l
def fdC (k : Nat) : Bool := match lay k with
  | .inr (.inr a) => fd a.2
  | _ => true
theorem fdC_ok : (List.range 128).all fdC = true := by decide +kernel
theorem fd_map {G : GM} {σ : SG} {r o : Nat} {v : Int32} : ∀ (fl : List LF) (j : Nat), fd fl = true → fl[j]? = some (fI r o) → (fl.map (fv G σ)).set j (.int v) = fl.map (fv G (su σ r o v)) := by
  intro fl
  induction fl with
  | nil => intro j _ h; cases j <;> cases h
  | cons x l ih =>
    intro j hd hj
    have hd2 : fd l = true := by
      unfold fd at hd
      exact (Bool.and_eq_true _ _ ▸ hd).2
    have hh := hd
    unfold fd at hh
    rw [Bool.and_eq_true] at hh
    cases j with
    | zero =>
      have hx : x = fI r o := by simpa using hj
      subst hx
      have h1 := hh.1
      simp only [List.map_cons, List.set_cons_zero, List.cons.injEq]
      refine ⟨by simp [fv, su_eq, upd], List.map_congr_left (fun y hy => ?_)⟩
      have h2 := List.all_eq_true.mp h1 y hy
      match y with
      | .inl _ => rfl
      | .inr q =>
        simp only [fv]
        rw [su_at]
        rintro ⟨e1, e2⟩
        simp [e1, e2] at h2
    | succ j =>
      have hj' : l[j]? = some (fI r o) := by simpa using hj
      simp only [List.map_cons, List.set_cons_succ, List.cons.injEq]
      refine ⟨?_, ih j hd2 hj'⟩
      match x with
      | .inl _ => rfl
      | .inr q =>
        have h2 := List.all_eq_true.mp hh.1 _ (List.mem_of_getElem? hj')
        simp only [fv]
        rw [su_at]
        rintro ⟨e1, e2⟩
        simp [e1, e2] at h2
theorem ce_fI {G : GM} {σ : SG} {k ci j r o : Nat} {fl : List LF} {v : Int32} (hl : lay k = lO ci fl) (hf : fl[j]? = some (fI r o)) : (.inr (ci, (fl.map (fv G σ)).set j (.int v)) : va_E) = ce G (su σ r o v) k := by
  have hk := lt_lO hl
  have hd := List.all_eq_true.mp fdC_ok k (List.mem_range.mpr hk)
  unfold fdC at hd
  rw [hl] at hd
  unfold ce
  rw [hl, fd_map fl j hd hf]
  rfl
theorem cs_fI {G : GM} {σ : SG} {k ci j r o : Nat} {fl : List LF} {v : Int32} (hl : lay k = lO ci fl) (hf : fl[j]? = some (fI r o)) : (cs G σ).set k (G.2.2.1 k, .inr (ci, (fl.map (fv G σ)).set j (.int v))) = cs G (su σ r o v) := by
  have hk := lt_lO hl
  refine cs_set hk (fun i hi hne => ce_other hi (fun r' o' hw => su_at ?_)) (ce_fI hl hf)
  rintro ⟨rfl, rfl⟩
  exact hne (hw.symm.trans (who_fI hk hl hf))
theorem cs_lI {G : GM} {σ : SG} {k n r o j : Nat} {v : Int32} (hl : lay k = lI n r o) (hj : j < n) : (cs G σ).set k (G.2.2.1 k, .inl (G.2.1 0, n, .inl (upd (ia σ n r o) j v))) = cs G (su σ r (o + j) v) := by
  have hk := lt_lI hl (by omega)
  refine cs_set hk (fun i hi hne => ce_other hi (fun r' o' hw => su_at ?_)) ?_
  · rintro ⟨rfl, rfl⟩
    exact hne (hw.symm.trans (who_lI hk hl hj))
  · unfold ce
    rw [hl]
    have : upd (ia σ n r o) j v = ia (su σ r (o + j) v) n r o := by
      funext i
      simp only [upd, ia, su_eq]
      by_cases e : i = j
      · subst e
        simp [hj]
      · rw [if_neg e, if_neg (show ¬ o + i = o + j by omega)]
    simp only [ceL, this]
/-- a whole row changes -/
theorem cs_row {G : GM} {σ : SG} {k n r o : Nat} {f g : Nat → Int32} (hl : lay k = lI n r o) (hn : 0 < n) (hg : ∀ i, i < n → g i = f (o + i)) (ho : ∀ q, ¬ (o ≤ q ∧ q < o + n) → f q = σ r q) (hz : ∀ i, n ≤ i → g i = 0) : (cs G σ).set k (G.2.2.1 k, .inl (G.2.1 0, n, .inl g)) = cs G (sr σ r f) := by
  have hk := lt_lI hl hn
  refine cs_set hk (fun i hi hne => ce_other hi (fun r' o' hw => ?_)) ?_
  · by_cases hr : r' = r
    · subst hr
      rw [sr_eq]
      refine ho o' (fun hq => ?_)
      obtain ⟨z, rfl⟩ : ∃ z, o' = o + z := ⟨o' - o, by omega⟩
      exact hne (hw.symm.trans (who_lI hk hl (by omega)))
    · rw [sr_ne hr]
  · unfold ce
    rw [hl]
    have : g = ia (sr σ r f) n r o := by
      funext i
      unfold ia
      by_cases hi : i < n
      · rw [if_pos hi, sr_eq]
        exact hg i hi
      · rw [if_neg hi]
        exact hz i (by omega)
    simp only [ceL, this]
