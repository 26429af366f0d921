/-! texts read: the pure words -/
def so (v : Int32) : Nat := if 97 ≤ v.toInt ∧ v.toInt ≤ 122 then 2 else if 48 ≤ v.toInt ∧ v.toInt ≤ 57 then 3 else 1
theorem so_123 (v : Int32) : so v = 1 ∨ so v = 2 ∨ so v = 3 := by
  unfold so
  split
  · exact Or.inr (Or.inl rfl)
  · split
    · exact Or.inr (Or.inr rfl)
    · exact Or.inl rfl
def rnF (tp : Nat → Int32) (P : Int32 → Bool) (L : Nat) : Nat → Nat → Nat
  | 0, p => p
  | f + 1, p => if p < L ∧ P (tp p) = true then rnF tp P L f (p + 1) else p
def rn (tp : Nat → Int32) (P : Int32 → Bool) (L p : Nat) : Nat := rnF tp P L (L - p) p
theorem rn_go {tp : Nat → Int32} {P : Int32 → Bool} {L p : Nat} (h : p < L) (hP : P (tp p) = true) : rn tp P L p = rn tp P L (p + 1) := by
  unfold rn
  rw [show L - p = (L - (p + 1)) + 1 by omega, rnF, if_pos ⟨h, hP⟩]
theorem rn_no {tp : Nat → Int32} {P : Int32 → Bool} {L p : Nat} (h : ¬ (p < L ∧ P (tp p) = true)) : rn tp P L p = p := by
  unfold rn
  cases L - p with
  | zero => rfl
  | succ f => rw [rnF, if_neg h]
theorem rnF_ge {tp : Nat → Int32} {P : Int32 → Bool} {L : Nat} : ∀ f p, p ≤ rnF tp P L f p ∧ (p ≤ L → rnF tp P L f p ≤ L) ∧ ∀ j, p ≤ j → j < rnF tp P L f p → P (tp j) = true := by
  intro f
  induction f with
  | zero => intro p; exact ⟨Nat.le_refl _, fun h => h, fun j h1 h2 => absurd h1 (by unfold rnF at h2; omega)⟩
  | succ f ih =>
    intro p
    unfold rnF
    split
    next h =>
      obtain ⟨a, b, c⟩ := ih (p + 1)
      refine ⟨by omega, fun _ => b (by omega), fun j h1 h2 => ?_⟩
      by_cases e : j = p
      · rw [e]; exact h.2
      · exact c j (by omega) h2
    next => exact ⟨Nat.le_refl _, fun h => h, fun j h1 h2 => by omega⟩
theorem rn_ge {tp : Nat → Int32} {P : Int32 → Bool} {L p : Nat} : p ≤ rn tp P L p ∧ (p ≤ L → rn tp P L p ≤ L) ∧ ∀ j, p ≤ j → j < rn tp P L p → P (tp j) = true := rnF_ge _ _
/-- a state of the reading: the token's sort, its begin and end, leaves, steps -/
abbrev St : Type := Nat × Nat × Nat × Nat × List (Int32 × Int32)
def blk (v : Int32) : Bool := decide (v = 32)
def like (c v : Int32) : Bool := decide (so v = so c)
def tkB (tp : Nat → Int32) (L e : Nat) : Nat := rn tp blk L e
def tkE (tp : Nat → Int32) (L b : Nat) : Nat := if b < L then (if so (tp b) = 1 then b + 1 else rn tp (like (tp b)) L (b + 1)) else b
def tkK (tp : Nat → Int32) (L k e b : Nat) : Nat := if b < L then (if so (tp b) = 1 then 1 else if ((k = 2 ∨ k = 3) ∧ b = e) ∨ (so (tp b) = 3 ∧ 4 < tkE tp L b - b) then 4 else so (tp b)) else 0
def nx (tp : Nat → Int32) (L : Nat) (st : St) : St := (tkK tp L st.1 st.2.2.1 (tkB tp L st.2.2.1), tkB tp L st.2.2.1, tkE tp L (tkB tp L st.2.2.1), st.2.2.2.1, st.2.2.2.2)
def addLf (st : St) (q : Int32 × Int32) : St := (st.1, st.2.1, st.2.2.1, st.2.2.2.1 + 1, st.2.2.2.2 ++ [q])
def addSg (st : St) (c : Int32) : St := (st.1, st.2.1, st.2.2.1, st.2.2.2.1, st.2.2.2.2 ++ [(2, c)])
/-- the number that digits spell -/
def numF (tp : Nat → Int32) (b : Nat) : Nat → Int32
  | 0 => 0
  | j + 1 => numF tp b j * 10 + tp (b + j) - 48
def sgL (lv : Nat) : List Int32 := kByt.getD (6 + lv) []
def ps (tp : Nat → Int32) (L : Nat) (key : Int32) : Nat → Nat → Nat → Nat → St → Bool × St
  | 0, _, _, _, st => (false, st)
  | f + 1, c, o, n, st =>
    if c < 5 then (match ps tp L key f (c + 1) o n st with
      | (false, s) => (false, s)
      | (true, s) => ps tp L key f (c + 6) o n s)
    else if c = 5 then
      (if st.1 = 3 then (true, nx tp L (addLf st (0, numF tp st.2.1 (st.2.2.1 - st.2.1))))
      else if st.1 = 2 then (if st.2.2.1 - st.2.1 = 1 ∧ tp st.2.1 ∈ nmK key then (true, nx tp L (addLf st (1, tp st.2.1))) else (false, st))
      else if st.1 = 1 ∧ tp st.2.1 = 33 then (if n < 8 then (match ps tp L key f 5 o (n + 1) (nx tp L st) with
        | (false, s) => (false, s)
        | (true, s) => (true, addSg s 33)) else (false, st))
      else if st.1 = 1 ∧ tp st.2.1 = 40 then (if o < 8 then (match ps tp L key f 0 (o + 1) n (nx tp L st) with
        | (false, s) => (false, s)
        | (true, s) => if s.1 = 1 ∧ tp s.2.1 = 41 then (true, nx tp L s) else (false, s)) else (false, st))
      else (false, st))
    else if st.1 = 1 ∧ tp st.2.1 ∈ sgL (c - 6) then (match ps tp L key f (c - 5) o n (nx tp L st) with
      | (false, s) => (false, s)
      | (true, s) => if c = 8 then (true, addSg s (tp st.2.1)) else ps tp L key f c o n (addSg s (tp st.2.1)))
    else (true, st)
/-- a state as it may be -/
def VS (tp : Nat → Int32) (L : Nat) (st : St) : Prop := st.2.1 ≤ L ∧ st.2.2.1 ≤ L ∧ st.1 ≤ 4 ∧ st.2.1 ≤ st.2.2.1 ∧ (st.1 ≠ 0 → st.2.1 < L ∧ st.2.1 < st.2.2.1) ∧ (st.1 = 3 → st.2.2.1 - st.2.1 ≤ 4 ∧ ∀ j, st.2.1 ≤ j → j < st.2.2.1 → so (tp j) = 3) ∧ (st.1 = 1 → so (tp st.2.1) = 1) ∧ (st.1 = 0 → st.2.1 = L)
theorem tkB_ge {tp : Nat → Int32} {L e : Nat} (h : e ≤ L) : e ≤ tkB tp L e ∧ tkB tp L e ≤ L := ⟨rn_ge.1, rn_ge.2.1 h⟩
theorem nx_VS {tp : Nat → Int32} {L : Nat} {st : St} (h : st.2.2.1 ≤ L) : VS tp L (nx tp L st) ∧ st.2.2.1 ≤ (nx tp L st).2.1 := by
  obtain ⟨h1, h2⟩ := tkB_ge (tp := tp) h
  unfold nx VS
  dsimp only
  generalize tkB tp L st.2.2.1 = b at h1 h2
  refine ⟨?_, h1⟩
  by_cases hb : b < L
  · have hs := so_123 (tp b)
    by_cases h3 : so (tp b) = 1
    · have e1 : tkE tp L b = b + 1 := by unfold tkE; rw [if_pos hb, if_pos h3]
      have e2 : tkK tp L st.1 st.2.2.1 b = 1 := by unfold tkK; rw [if_pos hb, if_pos h3]
      rw [e1, e2]
      exact ⟨h2, by omega, by omega, by omega, fun _ => ⟨hb, by omega⟩, fun z => absurd z (by decide), fun _ => h3, fun z => absurd z (by decide)⟩
    · have e1 : tkE tp L b = rn tp (like (tp b)) L (b + 1) := by unfold tkE; rw [if_pos hb, if_neg h3]
      obtain ⟨g1, g2, g3⟩ := rn_ge (tp := tp) (P := like (tp b)) (L := L) (p := b + 1)
      rw [← e1] at g1 g2 g3
      have e2 : tkK tp L st.1 st.2.2.1 b = if ((st.1 = 2 ∨ st.1 = 3) ∧ b = st.2.2.1) ∨ (so (tp b) = 3 ∧ 4 < tkE tp L b - b) then 4 else so (tp b) := by unfold tkK; rw [if_pos hb, if_neg h3]
      have e3 : tkK tp L st.1 st.2.2.1 b = 2 ∨ tkK tp L st.1 st.2.2.1 b = 3 ∨ tkK tp L st.1 st.2.2.1 b = 4 := by
        rw [e2]
        split
        · exact Or.inr (Or.inr rfl)
        · omega
      refine ⟨h2, g2 (by omega), by omega, by omega, fun _ => ⟨hb, by omega⟩, fun z => ?_, fun z => by omega, fun z => by omega⟩
      rw [e2] at z
      split at z
      · exact absurd z (by decide)
      next c =>
        refine ⟨?_, fun j j1 j2 => ?_⟩
        · have : ¬ 4 < tkE tp L b - b := fun y => c (Or.inr ⟨z, y⟩)
          omega
        · by_cases ej : j = b
          · rw [ej]; exact z
          · have := g3 j (by omega) j2
            unfold like at this
            rw [of_decide_eq_true this]
            exact z
  · have e1 : tkE tp L b = b := by unfold tkE; rw [if_neg hb]
    have e2 : tkK tp L st.1 st.2.2.1 b = 0 := by unfold tkK; rw [if_neg hb]
    rw [e1, e2]
    exact ⟨h2, h2, by omega, Nat.le_refl _, fun z => absurd rfl z, fun z => absurd z (by decide), fun z => absurd z (by decide), fun _ => by omega⟩
theorem hgt_app {l1 l2 : List (Int32 × Int32)} : ∀ {h k : Nat}, hgt l1 h = some k → hgt (l1 ++ l2) h = hgt l2 k := by
  induction l1 with
  | nil => intro h k e; unfold hgt at e; cases e; rfl
  | cons q l ih =>
    intro h k e
    rw [List.cons_append]
    unfold hgt at e
    rw [hgt]
    split at e
    next e1 =>
      rw [if_pos e1]
      split at e
      next e2 =>
        rw [if_pos e2]
        split at e
        next e3 => rw [if_pos e3]; exact ih e
        next => cases e
      next e2 =>
        rw [if_neg e2]
        split at e
        next e3 => rw [if_pos e3]; exact ih e
        next => cases e
    next e1 =>
      rw [if_neg e1]
      exact ih e
theorem so_dig {v : Int32} (h : so v = 3) : ∃ x : Nat, x ≤ 9 ∧ v = nI (48 + x) := by
  unfold so at h
  split at h
  · exact absurd h (by decide)
  · split at h
    next c =>
      obtain ⟨y, hy, rfl⟩ := ix_of (n := 58) (k := v) ⟨by omega, by omega⟩ (by omega)
      rw [nI_toInt (by omega)] at c
      exact ⟨y - 48, by omega, by rw [show 48 + (y - 48) = y by omega]⟩
    · exact absurd h (by decide)
theorem numF_N {tp : Nat → Int32} {b e : Nat} (h : ∀ j, b ≤ j → j < e → so (tp j) = 3) : ∀ k, b + k ≤ e → ∃ x : Nat, x < 10 ^ k ∧ numF tp b k = nI x := by
  intro k
  induction k with
  | zero => intro _; exact ⟨0, by decide, rfl⟩
  | succ k ih =>
    intro hk
    obtain ⟨x, hx, ex⟩ := ih (by omega)
    obtain ⟨y, hy, ey⟩ := so_dig (h (b + k) (by omega) (by omega))
    refine ⟨x * 10 + y, by rw [Nat.pow_succ]; omega, ?_⟩
    unfold numF
    rw [ex, ey, show (10 : Int32) = nI 10 from rfl, pk_mul, nI_add, show (48 : Int32) = nI 48 from rfl, pk_sub (by omega), show x * 10 + (48 + y) - 48 = x * 10 + y by omega]
theorem sgL_ok : ∀ c, c < 5 → ∀ v ∈ sgL c, ¬ v = 33 ∧ v.toNatClampNeg < 128 ∧ v = nI v.toNatClampNeg := by decide +kernel
/-- what a good reading gives: it goes on, so many steps, each as it may be, heights -/
def NW (key : Int32) (c : Nat) (st s : St) : Prop := st.2.1 ≤ s.2.1 ∧ (c ≤ 5 → st.2.1 < s.2.1) ∧ ∃ new, s.2.2.2.2 = st.2.2.2.2 ++ new ∧ new.length + st.2.1 ≤ s.2.1 ∧ (∀ q ∈ new, okS key q) ∧ (c ≤ 5 → ∀ h, hgt new h = some (h + 1)) ∧ (6 ≤ c → ∀ h, hgt new (h + 1) = some (h + 1))
theorem ps_ok {tp : Nat → Int32} {L : Nat} {key : Int32} : ∀ f c o n st s, c ≤ 10 → VS tp L st → ps tp L key f c o n st = (true, s) → VS tp L s ∧ NW key c st s := by
  intro f
  induction f with
  | zero => intro c o n st s _ _ h; exact absurd (congrArg Prod.fst h) (by simp [ps])
  | succ f ih =>
    intro c o n st s hc hV h
    have hn := nx_VS (tp := tp) (L := L) (st := st) hV.2.1
    unfold ps at h
    split at h
    next c5 =>
      split at h
      next s1 e1 => exact absurd (congrArg Prod.fst h) (by simp)
      next s1 e1 =>
        obtain ⟨v1, a1, a2, new1, n1, n2, n3, n4, -⟩ := ih (c + 1) o n st s1 (by omega) hV e1
        obtain ⟨v2, b1, -, new2, m1, m2, m3, -, m5⟩ := ih (c + 6) o n s1 s (by omega) v1 h
        refine ⟨v2, by omega, fun _ => by have := a2 (by omega); omega, new1 ++ new2, by rw [m1, n1, List.append_assoc], by rw [List.length_append]; omega, fun q hq => ?_, fun _ k => ?_, fun z => by omega⟩
        · rcases List.mem_append.mp hq with z | z
          · exact n3 q z
          · exact m3 q z
        · rw [hgt_app (n4 (by omega) k)]
          exact m5 (by omega) k
    next c5 =>
      split at h
      next e5 =>
        subst e5
        split at h
        next k3 =>
          -- a number
          cases h
          obtain ⟨g1, g2⟩ := nx_VS (tp := tp) (L := L) (st := addLf st (0, numF tp st.2.1 (st.2.2.1 - st.2.1))) hV.2.1
          have hb := hV.2.2.2.2.1 (by omega)
          obtain ⟨d1, d2⟩ := hV.2.2.2.2.2.1 k3
          obtain ⟨x, hx, ex⟩ := numF_N (e := st.2.2.1) d2 (st.2.2.1 - st.2.1) (by omega)
          have g2' : st.2.2.1 ≤ (nx tp L (addLf st (0, numF tp st.2.1 (st.2.2.1 - st.2.1)))).2.1 := g2
          refine ⟨g1, by omega, fun _ => by omega, [(0, numF tp st.2.1 (st.2.2.1 - st.2.1))], rfl, by simp only [List.length_cons, List.length_nil]; omega, fun q hq => ?_, fun _ k => rfl, fun z => by omega⟩
          rw [List.mem_singleton.mp hq]
          have hx2 : x < 10 ^ 4 := Nat.lt_of_lt_of_le hx (Nat.pow_le_pow_right (by decide) d1)
          exact ⟨Or.inl rfl, fun z => absurd z (show ¬ (0 : Int32) = 1 by decide), fun _ => ⟨x, by omega, ex⟩, fun z => absurd z (show ¬ (0 : Int32) = 2 by decide)⟩
        next k3 =>
          split at h
          next k2 =>
            split at h
            next nmk =>
              cases h
              obtain ⟨g1, g2⟩ := nx_VS (tp := tp) (L := L) (st := addLf st (1, tp st.2.1)) hV.2.1
              have g2' : st.2.2.1 ≤ (nx tp L (addLf st (1, tp st.2.1))).2.1 := g2
              have hb := hV.2.2.2.2.1 (by omega)
              refine ⟨g1, by omega, fun _ => by omega, [(1, tp st.2.1)], rfl, by simp only [List.length_cons, List.length_nil]; omega, fun q hq => ?_, fun _ k => rfl, fun z => by omega⟩
              rw [List.mem_singleton.mp hq]
              exact ⟨Or.inr (Or.inl rfl), fun _ => nmk.2, fun z => absurd z (show ¬ (1 : Int32) = 0 by decide), fun z => absurd z (show ¬ (1 : Int32) = 2 by decide)⟩
            next => exact absurd (congrArg Prod.fst h) (by simp)
          next k2 =>
            split at h
            next kn =>
              have hb := hV.2.2.2.2.1 (by omega)
              split at h
              next n8 =>
                split at h
                next s1 e1 => exact absurd (congrArg Prod.fst h) (by simp)
                next s1 e1 =>
                  cases h
                  obtain ⟨v1, a1, a2, new1, n1, n2, n3, n4, -⟩ := ih 5 o (n + 1) (nx tp L st) s1 (by omega) hn.1 e1
                  have a3 := a2 (by omega)
                  have hn2 := hn.2
                  refine ⟨v1, ?_, fun _ => ?_, new1 ++ [(2, 33)], ?_, ?_, fun q hq => ?_, fun _ k => ?_, fun z => by omega⟩
                  · show st.2.1 ≤ s1.2.1; omega
                  · show st.2.1 < s1.2.1; omega
                  · show s1.2.2.2.2 ++ [(2, 33)] = _
                    rw [n1]
                    exact List.append_assoc _ _ _
                  · show (new1 ++ [(2, 33)]).length + st.2.1 ≤ s1.2.1
                    rw [List.length_append]
                    simp only [List.length_cons, List.length_nil]
                    omega
                  · rcases List.mem_append.mp hq with z | z
                    · exact n3 q z
                    · rw [List.mem_singleton.mp z]
                      exact ⟨Or.inr (Or.inr rfl), fun z => absurd z (show ¬ (2 : Int32) = 1 by decide), fun z => absurd z (show ¬ (2 : Int32) = 0 by decide), fun _ => ⟨33, by decide, rfl⟩⟩
                  · rw [hgt_app (n4 (by omega) k)]
                    simp [hgt]
              next => exact absurd (congrArg Prod.fst h) (by simp)
            next kn =>
              split at h
              next kb =>
                have hb := hV.2.2.2.2.1 (by omega)
                split at h
                next o8 =>
                  split at h
                  next s1 e1 => exact absurd (congrArg Prod.fst h) (by simp)
                  next s1 e1 =>
                    split at h
                    next cl =>
                      cases h
                      obtain ⟨v1, a1, a2, new1, n1, n2, n3, n4, -⟩ := ih 0 (o + 1) n (nx tp L st) s1 (by omega) hn.1 e1
                      obtain ⟨g1, g2⟩ := nx_VS (tp := tp) (L := L) (st := s1) v1.2.1
                      have a3 := a2 (by omega)
                      have hn2 := hn.2
                      have v4 := v1.2.2.2.1
                      exact ⟨g1, by omega, fun _ => by omega, new1, n1, by omega, n3, fun _ k => n4 (by omega) k, fun z => by omega⟩
                    next => exact absurd (congrArg Prod.fst h) (by simp)
                next => exact absurd (congrArg Prod.fst h) (by simp)
              next => exact absurd (congrArg Prod.fst h) (by simp)
      next e5 =>
        split at h
        next ks =>
          have hb := hV.2.2.2.2.1 (by omega)
          obtain ⟨w1, w2, w3⟩ := sgL_ok (c - 6) (by omega) _ ks.2
          split at h
          next s1 e1 => exact absurd (congrArg Prod.fst h) (by simp)
          next s1 e1 =>
            obtain ⟨v1, a1, a2, new1, n1, n2, n3, n4, -⟩ := ih (c - 5) o n (nx tp L st) s1 (by omega) hn.1 e1
            have a3 := a2 (by omega)
            have hn2 := hn.2
            have hst : ∀ k, hgt (new1 ++ [(2, tp st.2.1)]) (k + 1) = some (k + 1) := by
              intro k
              rw [hgt_app (n4 (by omega) (k + 1))]
              simp [hgt, w1]
            have hok : ∀ q ∈ new1 ++ [(2, tp st.2.1)], okS key q := by
              intro q hq
              rcases List.mem_append.mp hq with z | z
              · exact n3 q z
              · rw [List.mem_singleton.mp z]
                exact ⟨Or.inr (Or.inr rfl), fun z => absurd z (show ¬ (2 : Int32) = 1 by decide), fun z => absurd z (show ¬ (2 : Int32) = 0 by decide), fun _ => ⟨_, w2, w3⟩⟩
            have hs1 : (addSg s1 (tp st.2.1)).2.2.2.2 = st.2.2.2.2 ++ (new1 ++ [(2, tp st.2.1)]) := by
              show s1.2.2.2.2 ++ [(2, tp st.2.1)] = _
              rw [n1]
              exact List.append_assoc _ _ _
            have hl1 : (new1 ++ [(2, tp st.2.1)]).length + st.2.1 ≤ s1.2.1 := by
              rw [List.length_append]
              simp only [List.length_cons, List.length_nil]
              omega
            split at h
            next c8 =>
              cases h
              exact ⟨v1, (by omega : st.2.1 ≤ s1.2.1), fun z => by omega, _, hs1, hl1, hok, fun z => by omega, fun _ k => hst k⟩
            next c8 =>
              obtain ⟨v2, b1, -, new2, m1, m2, m3, -, m5⟩ := ih c o n (addSg s1 (tp st.2.1)) s hc v1 h
              have b1' : s1.2.1 ≤ s.2.1 := b1
              have m2' : new2.length + s1.2.1 ≤ s.2.1 := m2
              refine ⟨v2, by omega, fun z => by omega, (new1 ++ [(2, tp st.2.1)]) ++ new2, by rw [m1, hs1, List.append_assoc], by rw [List.length_append]; omega, fun q hq => ?_, fun z => by omega, fun _ k => ?_⟩
              · rcases List.mem_append.mp hq with z | z
                · exact hok q z
                · exact m3 q z
              · rw [hgt_app (hst k)]
                exact m5 (by omega) k
        next =>
          cases h
          exact ⟨hV, Nat.le_refl _, fun z => by omega, [], by simp, by simp, fun q hq => absurd hq List.not_mem_nil, fun z => by omega, fun _ k => rfl⟩
