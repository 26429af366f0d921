/-! what the calls answer and do, on flat worlds -/
abbrev vBAD : Int32 := -1000000001
abbrev vNO : Int32 := -1000000002
abbrev vFULL : Int32 := -1000000003
abbrev vNONE : Int32 := -1000000005
abbrev vNOTH : Int32 := -1000000011
abbrev vKIND : Int32 := -1000000012
abbrev vINDEX : Int32 := -1000000013
abbrev vSIZE : Int32 := -1000000014
def ix (k : Int32) (n : Nat) : Option Nat := if 0 ≤ k.toInt ∧ k.toInt < n then some k.toNatClampNeg else none
theorem ix_none {k : Int32} {n : Nat} (h : ¬ (0 ≤ k.toInt ∧ k.toInt < n)) : ix k n = none := if_neg h
theorem ix_some {a n : Nat} (h : a < n) (hn : n < 2 ^ 31) : ix (nI a) n = some a := by
  unfold ix
  rw [nI_toInt (by omega), nI_clamp (by omega), if_pos (by omega)]
theorem ix_of {k : Int32} {n : Nat} (h : 0 ≤ k.toInt ∧ k.toInt < n) (hn : n < 2 ^ 31) : ∃ a : Nat, a < n ∧ k = nI a := vp_in_of (vp_in_iff.mpr h) hn
theorem ix_lt {k : Int32} {n a : Nat} (h : ix k n = some a) (hn : n < 2 ^ 31) : a < n ∧ k = nI a := by
  unfold ix at h
  split at h
  next q =>
    obtain ⟨b, hb, rfl⟩ := ix_of q hn
    rw [nI_clamp (by omega)] at h
    cases h
    exact ⟨hb, rfl⟩
  next => cases h
def addM (w : Nat → Int32) (n : Nat) (kind pace grain hole : Int32) : Nat → Int32 := upd (upd (upd (upd (upd (upd w 0 (nI (n + 1))) (131 + 5 * n) kind) (131 + 5 * n + 1) pace) (131 + 5 * n + 2) 0) (131 + 5 * n + 3) grain) (131 + 5 * n + 4) hole
theorem addM_out {w : Nat → Int32} {n i : Nat} {kind pace grain hole : Int32} (h0 : i ≠ 0) (h : i < 131 + 5 * n ∨ 136 + 5 * n ≤ i) : addM w n kind pace grain hole i = w i := by
  unfold addM
  rw [pk_un (by omega), pk_un (by omega), pk_un (by omega), pk_un (by omega), pk_un (by omega), pk_un h0]
theorem addM_0 {w : Nat → Int32} {n : Nat} {kind pace grain hole : Int32} : addM w n kind pace grain hole 0 = nI (n + 1) := by
  unfold addM
  rw [pk_un (by omega), pk_un (by omega), pk_un (by omega), pk_un (by omega), pk_un (by omega), pk_us]
def muleF (w : Nat → Int32) (n : Nat) (kind pace grain hole : Int32) : Int32 × (Nat → Int32) :=
  if (0 ≤ kind.toInt ∧ kind.toInt ≤ 5) ∧ (0 ≤ pace.toInt ∧ pace.toInt ≤ 9) ∧ (0 ≤ grain.toInt ∧ grain.toInt ≤ 9999) ∧ (0 ≤ hole.toInt ∧ hole.toInt ≤ 50) then (if n = 8 then (vFULL, w) else (nI n, addM w n kind pace grain hole)) else (vBAD, w)
def toldF (V : Int32 → Int32 → Int32 → Int32) (w : Nat → Int32) (n : Nat) (k what : Int32) : Int32 := match ix k n with
  | none => vBAD
  | some a => if what = 0 then w (131 + 5 * a) else if what = 1 then w (131 + 5 * a + 1) else if what = 2 then w (131 + 5 * a + 2) else if what = 3 then w (131 + 5 * a + 3) else if what = 4 then w (131 + 5 * a + 4) else if what = 5 then lkW V w a else if what = 6 then goK (w (131 + 5 * a)) (w (131 + 5 * a + 1)) else if what = 7 then woK (w (131 + 5 * a)) (w (131 + 5 * a + 1)) else vBAD
/-- a kind is under another -/
def isU (own kind : Int32) : Prop := own = kind ∨ kind = 0 ∨ (kind = 1 ∧ own = 3) ∨ (kind = 2 ∧ own = 4)
noncomputable def asF (w : Nat → Int32) (n : Nat) (k kind : Int32) : Int32 := match ix k n with
  | none => vBAD
  | some a => if 0 ≤ kind.toInt ∧ kind.toInt ≤ 5 then (if w (131 + 5 * a) = kind ∨ kind = 0 ∨ (kind = 1 ∧ w (131 + 5 * a) = 3) ∨ (kind = 2 ∧ w (131 + 5 * a) = 4) then w (131 + 5 * a + 4) else vKIND) else vBAD
def turnsF (w : Nat → Int32) (n : Nat) (k kind : Int32) : Int32 × (Nat → Int32) := match ix k n with
  | none => (vBAD, w)
  | some a => if 0 ≤ kind.toInt ∧ kind.toInt ≤ 5 then (w (131 + 5 * a), upd w (131 + 5 * a) kind) else (vBAD, w)
def setF (w : Nat → Int32) (n : Nat) (k what v : Int32) : Int32 × (Nat → Int32) := match ix k n with
  | none => (vBAD, w)
  | some a => if what = 1 then (if 0 ≤ v.toInt ∧ v.toInt ≤ 9 then (w (131 + 5 * a + 1), upd w (131 + 5 * a + 1) v) else (vBAD, w)) else if what = 2 then (if 0 ≤ v.toInt ∧ v.toInt ≤ 59 then (w (131 + 5 * a + 2), upd w (131 + 5 * a + 2) v) else (vBAD, w)) else if what = 3 then (if 0 ≤ v.toInt ∧ v.toInt ≤ 9999 then (w (131 + 5 * a + 3), upd w (131 + 5 * a + 3) v) else (vBAD, w)) else if what = 4 then (if 0 ≤ v.toInt ∧ v.toInt ≤ 50 then (w (131 + 5 * a + 4), upd w (131 + 5 * a + 4) v) else (vBAD, w)) else (vBAD, w)
def ruleF (w : Nat → Int32) (what v : Int32) : Int32 × (Nat → Int32) :=
  if what = 0 then (if 0 ≤ v.toInt ∧ v.toInt ≤ 99 then (w 7, upd w 7 v) else (vBAD, w)) else if what = 1 then (if 0 ≤ v.toInt ∧ v.toInt ≤ 100 then (w 8, upd w 8 v) else (vBAD, w)) else if what = 2 then (if -3 ≤ v.toInt ∧ v.toInt ≤ 3 then (w 9, upd w 9 v) else (vBAD, w)) else if what = 3 then (if 0 ≤ v.toInt ∧ v.toInt ≤ 9 then (w 10, upd w 10 v) else (vBAD, w)) else (vBAD, w)
def yardF (w : Nat → Int32) (y what : Int32) : Int32 := match ix y 60 with
  | none => vBAD
  | some a => if what = 0 then w (11 + a) else if what = 1 then w (71 + a) else vBAD
def sweepF (w : Nat → Int32) (y : Int32) : Int32 × (Nat → Int32) := match ix y 60 with
  | none => (vBAD, w)
  | some a => (w (11 + a), upd w (11 + a) 0)
/-- rain: the world behind k yards, and the sum -/
def rainW (w : Nat → Int32) : Nat → (Nat → Int32)
  | 0 => w
  | k + 1 => upd (upd (rainW w k) (11 + k) (rainW w k (11 + k) - rainW w k (11 + k) / 10)) (71 + k) (rainW w k (71 + k) + rainW w k (11 + k) / 10)
def rainS (w : Nat → Int32) : Nat → Int32
  | 0 => 0
  | k + 1 => rainS w k + rainW w k (11 + k) / 10
/-- mules by lot -/
def dealW (w : Nat → Int32) (n : Nat) : Nat → (Nat → Int32)
  | 0 => w
  | k + 1 => addM (upd (dealW w n k) 6 (dz (dz (dz (dz (dealW w n k 6)))))) (n + k) (nI (dn (dz (dealW w n k 6)) % 6)) (nI (1 + dn (dz (dz (dealW w n k 6))) % 9)) (nI (dn (dz (dz (dz (dealW w n k 6)))) % 1000)) (nI (dn (dz (dz (dz (dz (dealW w n k 6))))) % 30))
def dealF (w : Nat → Int32) (n : Nat) (k : Int32) : Int32 × (Nat → Int32) := if 1 ≤ k.toInt ∧ k.toInt ≤ 8 then (nI (min k.toNatClampNeg (8 - n)), dealW w n (min k.toNatClampNeg (8 - n))) else (vBAD, w)
def minutesF (V : Int32 → Int32 → Int32 → Int32) (w : Nat → Int32) (n m : Nat) (k : Int32) : Int32 × (Nat → Int32) := if 1 ≤ k.toInt ∧ k.toInt ≤ 100 then (minN V n w (min k.toNatClampNeg (9999 - m)) 3 - w 3, minN V n w (min k.toNatClampNeg (9999 - m))) else (vBAD, w)
def sumW (w : Nat → Int32) (o : Nat) : Nat → Int32
  | 0 => 0
  | k + 1 => sumW w o k + w (o + k)
def sackW (w : Nat → Int32) : Nat → Int32
  | 0 => 0
  | k + 1 => sackW w k + w (131 + 5 * k + 3)
/-- the trail: how long the row is that ends here, the longest -/
def trL (w : Nat → Int32) : Nat → Int32
  | 0 => 0
  | k + 1 => if w (11 + k) ≤ 0 then 0 else trL w k + 1
def trM (w : Nat → Int32) : Nat → Int32
  | 0 => 0
  | k + 1 => if trL w (k + 1) ≤ trM w k then trM w k else trL w (k + 1)
def wayF (w : Nat → Int32) (n : Nat) (what : Int32) : Int32 := if what = 0 then sumW w 11 60 else if what = 1 then sumW w 71 60 else if what = 2 then w 3 else if what = 3 then w 4 else if what = 4 then w 5 else if what = 5 then sackW w n else if what = 6 then trM w 60 else vBAD
