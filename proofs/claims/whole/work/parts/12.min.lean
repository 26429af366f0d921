/-! a minute, on a flat world -/
def addL (w : Nat → Int32) (o : Nat) (e : Int32) : Nat → (Nat → Int32)
  | 0 => w
  | n + 1 => upd (addL w o e n) (o + n) (addL w o e n (o + n) + e)
theorem addL_out {w : Nat → Int32} {o : Nat} {e : Int32} {n i : Nat} (h : i < o ∨ o + n ≤ i) : addL w o e n i = w i := by
  induction n with
  | zero => rfl
  | succ n ih =>
    unfold addL
    rw [pk_un (by omega), ih (by omega)]
def lkW (V : Int32 → Int32 → Int32 → Int32) (w : Nat → Int32) (a : Nat) : Int32 := lkK (w (131 + 5 * a)) (V (w (131 + 5 * a + 4)) (w (131 + 5 * a + 1)) (w (131 + 5 * a + 3)))
def flW (V : Int32 → Int32 → Int32 → Int32) (w : Nat → Int32) (a : Nat) : Int32 := if w (131 + 5 * a + 3) ≤ lkW V w a then w (131 + 5 * a + 3) else lkW V w a
def gW (w : Nat → Int32) (a : Nat) : Int32 := if 59 - w (131 + 5 * a + 2) ≤ goK (w (131 + 5 * a)) (w (131 + 5 * a + 1)) then 59 - w (131 + 5 * a + 2) else goK (w (131 + 5 * a)) (w (131 + 5 * a + 1))
def wk1 (w : Nat → Int32) (a : Nat) (fl : Int32) : Nat → Int32 := upd (upd w (131 + 5 * a + 3) (w (131 + 5 * a + 3) - fl)) 3 (w 3 + fl)
def wk3 (w2 : Nat → Int32) (o : Nat) (fl g : Int32) : Nat → Int32 := upd w2 o (w2 o + (if g = 0 then fl else fl - fl / g * g))
def walkW (V : Int32 → Int32 → Int32 → Int32) (w : Nat → Int32) (a : Nat) : Nat → Int32 :=
  upd (wk3 (addL (wk1 w a (flW V w a)) (11 + (w (131 + 5 * a + 2)).toNatClampNeg) (flW V w a / gW w a) (gW w a).toNatClampNeg) (11 + (w (131 + 5 * a + 2)).toNatClampNeg) (flW V w a) (gW w a)) (131 + 5 * a + 2) (w (131 + 5 * a + 2) + gW w a)
def walkAll (V : Int32 → Int32 → Int32 → Int32) (w : Nat → Int32) : Nat → (Nat → Int32)
  | 0 => w
  | n + 1 => if (walkAll V w n) (131 + 5 * n + 2) < 59 then walkW V (walkAll V w n) n else walkAll V w n
def thrAll (w : Nat → Int32) : Nat → (Nat → Int32)
  | 0 => w
  | n + 1 => upd (thrAll w n) (131 + 5 * n + 4) (hold ((thrAll w n) (131 + 5 * n + 4) + (thrAll w n) 10) 50)
def eatW (w : Nat → Int32) (i : Nat) : Int32 := if w 7 ≤ w i then w 7 else w i
def birdW (w : Nat → Int32) : Nat → Int32 := upd (upd (upd w 6 (dz (w 6))) (11 + dn (dz (w 6)) % 60) (w (11 + dn (dz (w 6)) % 60) - eatW w (11 + dn (dz (w 6)) % 60))) 4 (w 4 + eatW w (11 + dn (dz (w 6)) % 60))
def gustT (w : Nat → Int32) (f : Nat) (n : Int32) : Nat → Int32 := if 0 ≤ (nI f + w 9).toInt ∧ (nI f + w 9).toInt ≤ 59 then upd w (11 + (nI f + w 9).toNatClampNeg) (w (11 + (nI f + w 9).toNatClampNeg) + n) else upd w 5 (w 5 + n)
def gustW (w : Nat → Int32) : Nat → Int32 := gustT (upd (upd w 6 (dz (w 6))) (11 + dn (dz (w 6)) % 60) (w (11 + dn (dz (w 6)) % 60) - w (11 + dn (dz (w 6)) % 60) / 2)) (dn (dz (w 6)) % 60) (w (11 + dn (dz (w 6)) % 60) / 2)
def gustsW (w : Nat → Int32) : Nat → Int32 := if w 8 ≤ nI (dn (dz (w 6)) % 100) then upd w 6 (dz (w 6)) else gustW (upd w 6 (dz (w 6)))
def thrW (w : Nat → Int32) (n : Nat) : Nat → Int32 := if w 2 - w 2 / 5 * 5 = 4 then thrAll w n else w
def minW (V : Int32 → Int32 → Int32 → Int32) (n : Nat) (w : Nat → Int32) : Nat → Int32 := upd (gustsW (birdW (thrW (walkAll V w n) n))) 2 (gustsW (birdW (thrW (walkAll V w n) n)) 2 + 1)
def minN (V : Int32 → Int32 → Int32 → Int32) (n : Nat) (w : Nat → Int32) : Nat → (Nat → Int32)
  | 0 => w
  | k + 1 => minW V n (minN V n w k)
/-- mules are as they may be -/
def MO (w : Nat → Int32) (a : Nat) : Prop := (∃ c : Nat, c ≤ 5 ∧ w (131 + 5 * a) = nI c) ∧ (∃ p : Nat, p ≤ 9 ∧ w (131 + 5 * a + 1) = nI p) ∧ (∃ y : Nat, y ≤ 59 ∧ w (131 + 5 * a + 2) = nI y) ∧ (∃ g : Nat, g ≤ 9999 ∧ w (131 + 5 * a + 3) = nI g) ∧ ∃ h : Nat, h ≤ 50 ∧ w (131 + 5 * a + 4) = nI h
def VO (V : Int32 → Int32 → Int32 → Int32) : Prop := ∀ (h : Nat) (p g : Int32), h ≤ 50 → ∃ v : Nat, v ≤ 999 ∧ V (nI h) p g = nI v
/-- a world: n mules; the minute -/
def WO (w : Nat → Int32) (n m : Nat) : Prop := w 0 = nI n ∧ n ≤ 8 ∧ (∀ a, a < n → MO w a) ∧ w 2 = nI m ∧ ∃ t : Nat, t ≤ 9 ∧ w 10 = nI t
theorem MO.congr {w w' : Nat → Int32} {a : Nat} (h : MO w a) (e : ∀ j, j < 5 → w' (131 + 5 * a + j) = w (131 + 5 * a + j)) : MO w' a := by
  have e0 := e 0 (by omega)
  obtain ⟨h0, h1, h2, h3, h4⟩ := h
  unfold MO
  rw [show w' (131 + 5 * a) = w (131 + 5 * a) from e0, e 1 (by omega), e 2 (by omega), e 3 (by omega), e 4 (by omega)]
  exact ⟨h0, h1, h2, h3, h4⟩
def goN (kind : Int32) (p : Nat) : Nat := if kind = 2 then p - 1 else if kind = 3 then p + 1 else if kind = 4 then (p - 1) / 2 else p
theorem go_t : ∀ p, p < 10 → (if nI p ≤ 0 then (0 : Int32) else nI p - 1) = nI (p - 1) := by decide +kernel
theorem go_h : ∀ p, p < 10 → (if nI p ≤ 0 then (0 : Int32) else nI p - 1) / 2 = nI ((p - 1) / 2) := by decide +kernel
theorem goK_N {kind : Int32} {p : Nat} (hp : p ≤ 9) : goK kind (nI p) = nI (goN kind p) := by
  unfold goK goN
  split
  · exact go_t p (by omega)
  · split
    · exact nI_1 p
    · split
      · exact go_h p (by omega)
      · rfl
theorem goN_le {kind : Int32} {p : Nat} (hp : p ≤ 9) : goN kind p ≤ 10 := by
  unfold goN
  repeat' split
  all_goals omega
def lkN (kind : Int32) (v : Nat) : Nat := if kind = 1 then v / 2 else if kind = 2 then 2 * v else if kind = 3 then v / 2 - 2 else if kind = 4 then 2 * v - 5 else if kind = 5 then v + 1 else v
theorem lk_1 : ∀ v, v < 1000 → nI v / 2 = nI (v / 2) ∧ 2 * nI v = nI (2 * v) ∧ (if (2 : Int32) ≤ nI v / 2 then nI v / 2 - 2 else 0) = nI (v / 2 - 2) ∧ (if (5 : Int32) ≤ 2 * nI v then 2 * nI v - 5 else 0) = nI (2 * v - 5) := by decide +kernel
theorem lkK_N {kind : Int32} {v : Nat} (hv : v ≤ 999) : lkK kind (nI v) = nI (lkN kind v) := by
  obtain ⟨h1, h2, h3, h4⟩ := lk_1 v (by omega)
  unfold lkK lkN
  split
  · exact h1
  · split
    · exact h2
    · split
      · exact h3
      · split
        · exact h4
        · split
          · exact nI_1 v
          · rfl
theorem lkN_le {kind : Int32} {v : Nat} (hv : v ≤ 999) : lkN kind v ≤ 1998 := by
  unfold lkN
  repeat' split
  all_goals omega
/-- what a mule's walk is, in numbers -/
theorem walk_nums {V : Int32 → Int32 → Int32 → Int32} {w : Nat → Int32} {a : Nat} (hV : VO V) (hM : MO w a) : ∃ y g fl s : Nat, y ≤ 59 ∧ g ≤ 9999 ∧ fl ≤ g ∧ y + s ≤ 59 ∧ w (131 + 5 * a + 2) = nI y ∧ w (131 + 5 * a + 3) = nI g ∧ flW V w a = nI fl ∧ gW w a = nI s := by
  obtain ⟨⟨c, hc, ec⟩, ⟨p, hp, ep⟩, ⟨y, hy, ey⟩, ⟨g, hg, eg⟩, ⟨h, hh, eh⟩⟩ := hM
  obtain ⟨v, hv, ev⟩ := hV h (w (131 + 5 * a + 1)) (w (131 + 5 * a + 3)) hh
  have e1 : lkW V w a = nI (lkN (nI c) v) := by unfold lkW; rw [ec, eh, ev, lkK_N hv]
  have l1 := lkN_le (kind := nI c) hv
  have e2 : goK (w (131 + 5 * a)) (w (131 + 5 * a + 1)) = nI (goN (nI c) p) := by rw [ec, ep, goK_N hp]
  have l2 := goN_le (kind := nI c) hp
  have e3 : (59 : Int32) - nI y = nI (59 - y) := pk_sub (a := 59) hy
  refine ⟨y, g, if g ≤ lkN (nI c) v then g else lkN (nI c) v, if 59 - y ≤ goN (nI c) p then 59 - y else goN (nI c) p, hy, hg, ?_, ?_, ey, eg, ?_, ?_⟩
  · split <;> omega
  · split <;> omega
  · unfold flW
    rw [e1, eg]
    by_cases q : g ≤ lkN (nI c) v
    · rw [if_pos q, if_pos ((nI_leI (by omega) (by omega)).mpr q)]
    · rw [if_neg q, if_neg (fun z => q ((nI_leI (by omega) (by omega)).mp z))]
  · unfold gW
    rw [e2, ey, e3]
    by_cases q : 59 - y ≤ goN (nI c) p
    · rw [if_pos q, if_pos ((nI_leI (by omega) (by omega)).mpr q)]
    · rw [if_neg q, if_neg (fun z => q ((nI_leI (by omega) (by omega)).mp z))]
theorem walkW_out {V : Int32 → Int32 → Int32 → Int32} {w : Nat → Int32} {a i : Nat} (hV : VO V) (hM : MO w a) (h3 : i ≠ 3) (hi : i < 11 ∨ 71 ≤ i) (h4 : i ≠ 131 + 5 * a + 2) (h5 : i ≠ 131 + 5 * a + 3) : walkW V w a i = w i := by
  obtain ⟨y, g, fl, s, hy, hg, hfl, hs, ey, eg, efl, es⟩ := walk_nums hV hM
  unfold walkW wk3 wk1
  rw [ey, es, nI_clamp (by omega), nI_clamp (by omega), pk_un h4]
  by_cases q : i = 11 + y
  · have : s = 0 := by omega
    omega
  · rw [pk_un q, addL_out (by omega), pk_un h3, pk_un h5]
theorem walkW_MO {V : Int32 → Int32 → Int32 → Int32} {w : Nat → Int32} {a b : Nat} (hV : VO V) (hM : MO w a) (hb : MO w b) : MO (walkW V w a) b := by
  by_cases e : b = a
  · subst e
    have o0 := walkW_out (i := 131 + 5 * b) hV hM (by omega) (by omega) (by omega) (by omega)
    have o1 := walkW_out (i := 131 + 5 * b + 1) hV hM (by omega) (by omega) (by omega) (by omega)
    have o4 := walkW_out (i := 131 + 5 * b + 4) hV hM (by omega) (by omega) (by omega) (by omega)
    obtain ⟨y, g, fl, s, hy, hg, hfl, hs, ey, eg, efl, es⟩ := walk_nums hV hM
    obtain ⟨h0, h1, h2, h3, h4⟩ := hb
    unfold MO
    rw [o0, o1, o4]
    refine ⟨h0, h1, ⟨y + s, hs, ?_⟩, ⟨g - fl, by omega, ?_⟩, h4⟩
    · unfold walkW
      rw [pk_us, ey, es, nI_add]
    · unfold walkW wk3 wk1
      rw [ey, es, nI_clamp (by omega), nI_clamp (by omega), pk_un (by omega), pk_un (by omega), addL_out (by omega), pk_un (by omega), pk_us, eg, efl, pk_sub hfl]
  · exact hb.congr (fun j hj => walkW_out hV hM (by omega) (by omega) (by omega) (by omega))
theorem walkAll_ok {V : Int32 → Int32 → Int32 → Int32} {w : Nat → Int32} {n : Nat} (hV : VO V) (hM : ∀ a, a < n → MO w a) : ∀ k, k ≤ n → (∀ a, a < n → MO (walkAll V w k) a) ∧ ∀ i, i ≠ 3 → (i < 11 ∨ 171 ≤ i) → n ≤ 8 → walkAll V w k i = w i := by
  intro k
  induction k with
  | zero => intro _; exact ⟨hM, fun _ _ _ _ => rfl⟩
  | succ k ih =>
    intro hk
    obtain ⟨h1, h2⟩ := ih (by omega)
    unfold walkAll
    split
    · exact ⟨fun a ha => walkW_MO hV (h1 k (by omega)) (h1 a ha), fun i h3 hi h8 => by rw [walkW_out hV (h1 k (by omega)) h3 (by omega) (by omega) (by omega)]; exact h2 i h3 hi h8⟩
    · exact ⟨h1, h2⟩
theorem hold_N : ∀ v, v < 60 → hold (nI v) 50 = nI (if 50 < v then 50 else v) := by decide +kernel
theorem thrAll_out {w : Nat → Int32} {n i : Nat} (h : i < 131 ∨ 171 ≤ i) (hn : n ≤ 8) : thrAll w n i = w i := by
  induction n with
  | zero => rfl
  | succ n ih =>
    unfold thrAll
    rw [pk_un (by omega)]
    exact ih (by omega)
theorem thrAll_MO {w : Nat → Int32} {n : Nat} (hn : n ≤ 8) {t : Nat} (ht : t ≤ 9) (et : w 10 = nI t) (hM : ∀ a, a < n → MO w a) : ∀ k, k ≤ n → ∀ a, a < n → MO (thrAll w k) a := by
  intro k
  induction k with
  | zero => intro _; exact hM
  | succ k ih =>
    intro hk a ha
    have h1 := ih (by omega) a ha
    unfold thrAll
    by_cases e : a = k
    · subst e
      obtain ⟨h0, h1, h2, h3, h, hh, eh⟩ := h1
      unfold MO
      rw [pk_un (by omega), pk_un (by omega), pk_un (by omega), pk_un (by omega)]
      refine ⟨h0, h1, h2, h3, if 50 < h + t then 50 else h + t, by split <;> omega, ?_⟩
      rw [pk_us, eh, thrAll_out (by omega) (by omega), et, nI_add, hold_N _ (by omega)]
    · exact h1.congr (fun j hj => pk_un (by omega))
theorem birdW_out {w : Nat → Int32} {i : Nat} (h6 : i ≠ 6) (h4 : i ≠ 4) (hi : i < 11 ∨ 71 ≤ i) : birdW w i = w i := by
  unfold birdW
  have := Nat.mod_lt (dn (dz (w 6))) (show 0 < 60 by decide)
  rw [pk_un h4, pk_un (by omega), pk_un h6]
theorem gustW_out {w : Nat → Int32} {i : Nat} (h6 : i ≠ 6) (h5 : i ≠ 5) (hi : i < 11 ∨ 71 ≤ i) : gustW w i = w i := by
  unfold gustW gustT
  have := Nat.mod_lt (dn (dz (w 6))) (show 0 < 60 by decide)
  split
  next h =>
    obtain ⟨j, hj, e⟩ := vp_in_of (n := 60) (vp_in_iff.mpr ⟨h.1, by omega⟩) (by decide)
    rw [e, nI_clamp (by omega)] at *
    rw [pk_un (by omega), pk_un (by omega), pk_un h6]
  next => rw [pk_un h5, pk_un (by omega), pk_un h6]
theorem gustsW_out {w : Nat → Int32} {i : Nat} (h6 : i ≠ 6) (h5 : i ≠ 5) (hi : i < 11 ∨ 71 ≤ i) : gustsW w i = w i := by
  unfold gustsW
  split
  · exact pk_un h6
  · rw [gustW_out h6 h5 hi, pk_un h6]
theorem thrW_out {w : Nat → Int32} {n i : Nat} (h : i < 131 ∨ 171 ≤ i) (hn : n ≤ 8) : thrW w n i = w i := by
  unfold thrW
  split
  · exact thrAll_out h hn
  · rfl
/-- what a minute leaves as it is -/
theorem minW_out {V : Int32 → Int32 → Int32 → Int32} {w : Nat → Int32} {n i : Nat} (hV : VO V) (hM : ∀ a, a < n → MO w a) (hn : n ≤ 8) (hi : i = 0 ∨ i = 1 ∨ (7 ≤ i ∧ i < 11) ∨ 171 ≤ i) : minW V n w i = w i := by
  unfold minW
  rw [pk_un (by omega), gustsW_out (by omega) (by omega) (by omega), birdW_out (by omega) (by omega) (by omega), thrW_out (by omega) hn]
  exact (walkAll_ok hV hM n (Nat.le_refl n)).2 i (by omega) (by omega) hn
theorem minW_WO {V : Int32 → Int32 → Int32 → Int32} {w : Nat → Int32} {n m : Nat} (hV : VO V) (h : WO w n m) : WO (minW V n w) n (m + 1) := by
  obtain ⟨h0, h8, hM, hm, t, ht, et⟩ := h
  have ha := (walkAll_ok hV hM n (Nat.le_refl n))
  have eo : ∀ i, (i = 0 ∨ i = 1 ∨ (7 ≤ i ∧ i < 11) ∨ 171 ≤ i) → minW V n w i = w i := fun i hi => minW_out hV hM h8 hi
  refine ⟨by rw [eo 0 (by omega)]; exact h0, h8, fun a ha' => ?_, ?_, t, ht, by rw [eo 10 (by omega)]; exact et⟩
  · have h1 : MO (thrW (walkAll V w n) n) a := by
      unfold thrW
      split
      · exact thrAll_MO h8 ht (by rw [ha.2 10 (by omega) (by omega) h8]; exact et) ha.1 n (Nat.le_refl n) a ha'
      · exact ha.1 a ha'
    refine h1.congr (fun j hj => ?_)
    unfold minW
    rw [pk_un (by omega), gustsW_out (by omega) (by omega) (by omega), birdW_out (by omega) (by omega) (by omega)]
  · unfold minW
    rw [pk_us, gustsW_out (by omega) (by omega) (by omega), birdW_out (by omega) (by omega) (by omega), thrW_out (by omega) h8, ha.2 2 (by omega) (by omega) h8, hm, nI_1]
theorem minN_WO {V : Int32 → Int32 → Int32 → Int32} {w : Nat → Int32} {n m : Nat} (hV : VO V) (h : WO w n m) : ∀ k, WO (minN V n w k) n (m + k) := by
  intro k
  induction k with
  | zero => exact h
  | succ k ih => exact minW_WO hV ih
theorem minN_out {V : Int32 → Int32 → Int32 → Int32} {w : Nat → Int32} {n m i : Nat} (hV : VO V) (h : WO w n m) (hi : i = 0 ∨ i = 1 ∨ (7 ≤ i ∧ i < 11) ∨ 171 ≤ i) : ∀ k, minN V n w k i = w i := by
  intro k
  induction k with
  | zero => rfl
  | succ k ih =>
    show minW V n (minN V n w k) i = w i
    rw [minW_out hV (minN_WO hV h k).2.2.1 h.2.1 hi, ih]
theorem lkV_VO {Ts : Nat → Tx} {nt : Nat} : VO (lkV Ts nt) := by
  intro h p g hh
  unfold lkV
  split
  · exact ⟨h, by omega, rfl⟩
  · next t _ =>
    generalize evT (Ts t) _ = x
    unfold hold
    by_cases h1 : x < 0
    · rw [if_pos h1]; exact ⟨0, by omega, rfl⟩
    · rw [if_neg h1]
      by_cases h2 : (999 : Int32) < x
      · rw [if_pos h2]; exact ⟨999, by omega, rfl⟩
      · rw [if_neg h2]
        exact nI_of2 (M := 999) (n := 999) (by decide) h1 (Int32.not_lt.mp h2)
/-- the texts of the reference -/
def RT (w : Nat → Int32) (Ts : Nat → Tx) (nt : Nat) : Prop := w 1 = nI nt ∧ nt ≤ 14 ∧ ∀ t, t < nt → TR w t (Ts t) ∧ okT (Ts t)
theorem TR.congr {w w' : Nat → Int32} {t : Nat} {T : Tx} (h : TR w t T) (e : ∀ i, 171 ≤ i → w' i = w i) : TR w' t T := by
  obtain ⟨h1, h2, h3, h4⟩ := h
  exact ⟨by rw [e _ (by omega)]; exact h1, by rw [e _ (by omega)]; exact h2, by rw [e _ (by omega)]; exact h3, fun k hk => ⟨by rw [e _ (by omega)]; exact (h4 k hk).1, by rw [e _ (by omega)]; exact (h4 k hk).2⟩⟩
theorem RT.congr {w w' : Nat → Int32} {Ts : Nat → Tx} {nt : Nat} (h : RT w Ts nt) (e1 : w' 1 = w 1) (e : ∀ i, 171 ≤ i → w' i = w i) : RT w' Ts nt := ⟨by rw [e1]; exact h.1, h.2.1, fun t ht => ⟨(h.2.2 t ht).1.congr e, (h.2.2 t ht).2⟩⟩
