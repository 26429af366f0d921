/-! what will be, on flat worlds -/
def cpL (g f : Nat → Int32) (k : Nat) : Nat → Int32 := fun i => if i < k then f i else g i
theorem cpL_succ {g f : Nat → Int32} {k : Nat} : upd (cpL g f k) k (f k) = cpL g f (k + 1) := by
  funext i
  unfold upd cpL
  by_cases e : i = k
  · subst e; simp
  · by_cases h : i < k
    · rw [if_neg e, if_pos h, if_pos (by omega)]
    · rw [if_neg e, if_neg h, if_neg (by omega)]
theorem cpL_back {g f w : Nat → Int32} (h : ∀ i, 171 ≤ i → w i = f i) : cpL w (cpL g f 171) 171 = f := by
  funext i
  unfold cpL
  by_cases e : i < 171
  · rw [if_pos e, if_pos e]
  · rw [if_neg e, h i (by omega)]
def behF (V : Int32 → Int32 → Int32 → Int32) (n : Nat) (w : Nat → Int32) (q what : Int32) : Int32 :=
  if (0 ≤ q.toInt ∧ q.toInt ≤ 100) ∧ (0 ≤ what.toInt ∧ what.toInt ≤ 2 + n) then (if what = 0 then sumW (minN V n w q.toNatClampNeg) 11 60 else if what = 1 then minN V n w q.toNatClampNeg 4 else if what = 2 then minN V n w q.toNatClampNeg 5 else minN V n w q.toNatClampNeg (131 + 5 * (what.toNatClampNeg - 3) + 3)) else vBAD
abbrev thrP (w : Nat → Int32) (n : Nat) : Prop := ∀ k, k < n → ¬ (0 < w (131 + 5 * k + 3) ∧ w (131 + 5 * k + 2) < 59)
/-- the first of the minutes 301 - j .. 300 -/
def empN (V : Int32 → Int32 → Int32 → Int32) (n : Nat) (w : Nat → Int32) : Nat → Int32
  | 0 => vNONE
  | j + 1 => if thrP (minN V n w (300 - j)) n then nI (300 - j) else empN V n w j
def bestY (w : Nat → Int32) : Nat → Nat
  | 0 => 0
  | k + 1 => if w (11 + (k + 1)) ≤ w (11 + bestY w k) then bestY w k else k + 1
theorem bestY_le {w : Nat → Int32} : ∀ k, bestY w k ≤ k := by
  intro k
  induction k with
  | zero => exact Nat.le_refl _
  | succ k ih => unfold bestY; split <;> omega
def thiF (V : Int32 → Int32 → Int32 → Int32) (n : Nat) (w : Nat → Int32) (q what : Int32) : Int32 :=
  if (0 ≤ q.toInt ∧ q.toInt ≤ 100) ∧ (0 ≤ what.toInt ∧ what.toInt ≤ 1) then (if what = 0 then nI (bestY (minN V n w q.toNatClampNeg) 59) else minN V n w q.toNatClampNeg (11 + bestY (minN V n w q.toNatClampNeg) 59)) else vBAD
/-- what is left if mule k is patched -/
def patV (V : Int32 → Int32 → Int32 → Int32) (n : Nat) (w : Nat → Int32) (q k : Nat) : Int32 := sackW (minN V n (upd w (131 + 5 * k) 1) q) n
def patM (f : Nat → Int32) : Nat → Int32
  | 0 => -1
  | k + 1 => if f k ≤ patM f k then patM f k else f k
def patB (f : Nat → Int32) : Nat → Int32
  | 0 => -1
  | k + 1 => if f k ≤ patM f k then patB f k else nI k
def patF (V : Int32 → Int32 → Int32 → Int32) (n : Nat) (w : Nat → Int32) (q what : Int32) : Int32 :=
  if (1 ≤ q.toInt ∧ q.toInt ≤ 60) ∧ (0 ≤ what.toInt ∧ what.toInt ≤ 1) then (if 0 ≤ patB (patV V n w q.toNatClampNeg) n then (if what = 0 then patB (patV V n w q.toNatClampNeg) n else patM (patV V n w q.toNatClampNeg) n) else vNONE) else vBAD
def panW (V : Int32 → Int32 → Int32 → Int32) (n : Nat) (w : Nat → Int32) (p : Nat) : Nat → (Nat → Int32)
  | 0 => w
  | k + 1 => upd (minW V n (panW V n w p k)) (11 + min (p * (k + 1)) 59) 0
def panS (V : Int32 → Int32 → Int32 → Int32) (n : Nat) (w : Nat → Int32) (p : Nat) : Nat → Int32
  | 0 => 0
  | k + 1 => panS V n w p k + minW V n (panW V n w p k) (11 + min (p * (k + 1)) 59)
def panF (V : Int32 → Int32 → Int32 → Int32) (n : Nat) (w : Nat → Int32) (p q : Int32) : Int32 := if (0 ≤ p.toInt ∧ p.toInt ≤ 9) ∧ (1 ≤ q.toInt ∧ q.toInt ≤ 60) then panS V n w p.toNatClampNeg q.toNatClampNeg else vBAD
theorem WO.congr {w w' : Nat → Int32} {n m : Nat} (h : WO w n m) (e : ∀ i, i < 11 ∨ 71 ≤ i → w' i = w i) : WO w' n m := by
  obtain ⟨h0, h8, hM, hm, t, ht, et⟩ := h
  exact ⟨by rw [e 0 (by omega)]; exact h0, h8, fun a ha => (hM a ha).congr (fun j hj => e _ (by omega)), by rw [e 2 (by omega)]; exact hm, t, ht, by rw [e 10 (by omega)]; exact et⟩
theorem panW_WO {V : Int32 → Int32 → Int32 → Int32} {w : Nat → Int32} {n m p : Nat} (hV : VO V) (h : WO w n m) : ∀ k, WO (panW V n w p k) n (m + k) := by
  intro k
  induction k with
  | zero => exact h
  | succ k ih => exact (minW_WO hV ih).congr (fun i hi => pk_un (by omega))
theorem panW_out {V : Int32 → Int32 → Int32 → Int32} {w : Nat → Int32} {n m p i : Nat} (hV : VO V) (h : WO w n m) (hi : i = 0 ∨ i = 1 ∨ (7 ≤ i ∧ i < 11) ∨ 171 ≤ i) : ∀ k, panW V n w p k i = w i := by
  intro k
  induction k with
  | zero => rfl
  | succ k ih =>
    show upd _ _ _ i = w i
    rw [pk_un (by omega), minW_out hV (panW_WO hV h k).2.2.1 h.2.1 hi, ih]
/-- the holes of all others are 0 -/
def aloW (w : Nat → Int32) (o : Nat) : Nat → (Nat → Int32)
  | 0 => w
  | k + 1 => upd (aloW w o k) (131 + 5 * k + 4) (if k = o then w (131 + 5 * k + 4) else 0)
theorem aloW_out {w : Nat → Int32} {o i : Nat} : ∀ {k : Nat}, (∀ j, j < k → i ≠ 131 + 5 * j + 4) → aloW w o k i = w i := by
  intro k
  induction k with
  | zero => intro _; rfl
  | succ k ih =>
    intro h
    unfold aloW
    rw [pk_un (h k (by omega))]
    exact ih (fun j hj => h j (by omega))
theorem aloW_WO {w : Nat → Int32} {n m o : Nat} (h : WO w n m) : ∀ k, k ≤ n → WO (aloW w o k) n m := by
  intro k
  induction k with
  | zero => intro _; exact h
  | succ k ih =>
    intro hk
    obtain ⟨h0, h8, hM, hm, t, ht, et⟩ := ih (by omega)
    unfold aloW
    refine ⟨by rw [pk_un (by omega)]; exact h0, h8, fun a ha => ?_, by rw [pk_un (by omega)]; exact hm, t, ht, by rw [pk_un (by omega)]; exact et⟩
    by_cases e : a = k
    · subst e
      obtain ⟨q0, q1, q2, q3, q4⟩ := hM a ha
      unfold MO
      rw [pk_un (by omega), pk_un (by omega), pk_un (by omega), pk_un (by omega), pk_us]
      refine ⟨q0, q1, q2, q3, ?_⟩
      split
      · exact (h.2.2.1 a ha).2.2.2.2
      · exact ⟨0, by omega, rfl⟩
    · exact (hM a ha).congr (fun j hj => pk_un (by omega))
def offI (a b : Int32) : Int32 := if a < b then b - a else a - b
/-- how far a sheet's numbers and the grains differ -/
def difS (f w : Nat → Int32) : Nat → Int32
  | 0 => 0
  | k + 1 => difS f w k + (if f k = vNONE then 0 else offI (f k) (w (11 + k)))
def whoV (V : Int32 → Int32 → Int32 → Int32) (n : Nat) (w : Nat → Int32) (f : Nat → Int32) (sz q o : Nat) : Int32 := difS f (minN V n (aloW w o n) q) sz
def whoL (g : Nat → Int32) : Nat → Int32
  | 0 => 0
  | k + 1 => if k = 0 ∨ g k < whoL g k then g k else whoL g k
def whoB (g : Nat → Int32) : Nat → Int32
  | 0 => -1
  | k + 1 => if k = 0 ∨ g k < whoL g k then nI k else whoB g k
def wsoF (V : Int32 → Int32 → Int32 → Int32) (n : Nat) (w : Nat → Int32) (f : Nat → Int32) (sz q : Nat) (what : Int32) : Int32 := if n = 0 then vNONE else if what = 0 then whoB (whoV V n w f sz q) n else whoL (whoV V n w f sz q) n
def nm2 (a b : Int32) (x y : Int32) : Int32 → Int32 := fun v => if v = a then x else if v = b then y else 0
def feeF (Ts : Nat → Tx) (nt : Nat) (w : Nat → Int32) : Int32 := match cnt Ts 1 nt with
  | none => w 4
  | some t => evT (Ts t) (nm2 101 98 (w 4) (w 5))
def finF (Ts : Nat → Tx) (nt n : Nat) (w : Nat → Int32) (k : Int32) : Int32 := match ix k n with
  | none => vBAD
  | some a => match cnt Ts 2 nt with
    | none => w (131 + 5 * a + 3)
    | some t => evT (Ts t) (nm2 103 121 (w (131 + 5 * a + 3)) (w (131 + 5 * a + 2)))
