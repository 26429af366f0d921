/-! pure words: worlds are flat rows, as the reference lays them -/
section RRD
variable {X : CX} {G : GM} {nL pc : Nat} {lv : LVs} {st : List Value} {σ : SG}
theorem r_dia2 {x y : Int32} (J : Nat) (v : Int32) (h1 : RR X G nL J lv (.int v :: st) σ → RR X G nL pc lv (.int y :: .int x :: st) σ) (h2 : RR X G nL J lv (.int v :: st) σ) : RR X G nL pc lv (.int y :: .int x :: st) σ := h1 h2
theorem r_dia1 {x : Int32} (J : Nat) (v : Int32) (h1 : RR X G nL J lv (.int v :: st) σ → RR X G nL pc lv (.int x :: st) σ) (h2 : RR X G nL J lv (.int v :: st) σ) : RR X G nL pc lv (.int x :: st) σ := h1 h2
theorem RR.cut {l : List (Nat × Value)} (k : RR X G nL pc (ll l) st σ) (h : ∀ q ∈ l, lv q.1 = some q.2) : RR X G nL pc lv st σ := RR.loc l h k
end RRD
theorem loopK (e : Nat) (R : Nat → Prop) (hs : ∀ k, k ≤ e → (k < e → R (k + 1)) → R k) : ∀ k, k ≤ e → R k := by
  have : ∀ m k, k + m = e → R k := by
    intro m
    induction m with
    | zero => intro k hk; exact hs k (by omega) (fun h => absurd h (by omega))
    | succ m ih => intro k hk; exact hs k (by omega) (fun _ => ih (k + 1) (by omega))
  exact fun k hk => this (e - k) k (by omega)
theorem litI (n : Nat) : (OfNat.ofNat n : Int32) = nI n := rfl
theorem sr_sr {σ : SG} {r : Nat} {f g : Nat → Int32} : sr (sr σ r f) r g = sr σ r g := by
  funext a
  unfold sr
  by_cases h : a = r <;> simp [h]
theorem sr_self {σ : SG} {r : Nat} : sr σ r (σ r) = σ := by
  funext a
  unfold sr
  by_cases h : a = r <;> simp [h]
theorem su_sr {σ : SG} {r o : Nat} {f : Nat → Int32} {v : Int32} : su (sr σ r f) r o v = sr σ r (upd f o v) := by
  unfold su
  rw [sr_eq, sr_sr]
theorem bz_congr {a b : Prop} [Decidable a] [Decidable b] (h : a ↔ b) : bz a = bz b := by
  unfold bz
  by_cases ha : a
  · rw [if_pos ha, if_pos (h.mp ha)]
  · rw [if_neg ha, if_neg (fun q => ha (h.mpr q))]
/-- all regions but these are the same -/
def same (l : List Nat) (σ σ' : SG) : Prop := ∀ r, r ∉ l → σ' r = σ r
theorem same.rf {l : List Nat} {σ : SG} : same l σ σ := fun _ _ => rfl
theorem same.tr {l : List Nat} {a b c : SG} (h1 : same l a b) (h2 : same l b c) : same l a c := fun r hr => (h2 r hr).trans (h1 r hr)
theorem same.mono {l l' : List Nat} {a b : SG} (h : same l a b) (hl : ∀ x ∈ l, x ∈ l') : same l' a b := fun r hr => h r (fun q => hr (hl r q))
theorem same.sr {l : List Nat} {σ σ' : SG} {r : Nat} {f : Nat → Int32} (h : same l σ σ') (hr : r ∈ l) : same l σ (sr σ' r f) := fun r' hr' => (sr_ne (fun e => hr' (by rw [e]; exact hr))).trans (h r' hr')
theorem same.su {l : List Nat} {σ σ' : SG} {r o : Nat} {v : Int32} (h : same l σ σ') (hr : r ∈ l) : same l σ (su σ' r o v) := h.sr hr
/-- draws -/
def dz (z : Int32) : Int32 := z * 1103515245 + 12345
def dn (z : Int32) : Nat := z.toBitVec.toNat / 256
theorem dn_lt (z : Int32) : dn z < 2 ^ 24 := by
  unfold dn
  have := z.toBitVec.isLt
  omega
theorem ush_eq (z : Int32) : (z.toUInt32 >>> ((8 : Int32).toUInt32 &&& Int32.toUInt32 31)).toInt32 = nI (dn z) := by
  have h := pk_ushr z 8 8 (by decide)
  have h2 : (nI (dn z)).toBitVec.toNat = dn z := pk_tn (by have := dn_lt z; omega)
  apply Int32.toBitVec_inj.mp
  apply BitVec.eq_of_toNat_eq
  rw [h, h2]
  rfl
theorem rem_lit {a d : Nat} (ha : a < 2 ^ 31) (h0 : 0 < d) (hd : d < 2 ^ 31) : nI a - nI a / (OfNat.ofNat d : Int32) * (OfNat.ofNat d : Int32) = nI (a % d) := pk_rem ha h0 hd
/-- kinds -/
def lkK (kind v : Int32) : Int32 := if kind = 1 then v / 2 else if kind = 2 then 2 * v else if kind = 3 then (if 2 ≤ v / 2 then v / 2 - 2 else 0) else if kind = 4 then (if 5 ≤ 2 * v then 2 * v - 5 else 0) else if kind = 5 then v + 1 else v
def goK (kind v : Int32) : Int32 := if kind = 2 then (if v ≤ 0 then 0 else v - 1) else if kind = 3 then v + 1 else if kind = 4 then (if v ≤ 0 then 0 else v - 1) / 2 else v
def woK (kind v : Int32) : Int32 := if kind = 1 then 9 * v + 6 else if kind = 2 then 99 - 9 * v else if kind = 3 then 2 * (9 * v + 6) else if kind = 4 then 91 - 9 * v else if kind = 5 then 4 else 9 * v
/-- texts: key, leaves, steps (what, value) -/
abbrev Tx : Type := Int32 × Int32 × List (Int32 × Int32)
def jn (c x y : Int32) : Int32 := if c = 38 then bz (¬ x = 0 ∧ ¬ y = 0) else if c = 42 then x * y else if c = 43 then x + y else if c = 45 then x - y else if c = 47 then (if y = 0 then 0 else if y = -1 then -x else x / y) else if c = 60 then bz (x < y) else if c = 61 then bz (x = y) else if c = 62 then bz (y < x) else bz (¬ x = 0 ∨ ¬ y = 0)
def ev1 (nm : Int32 → Int32) (q : Int32 × Int32) (S : List Int32) : List Int32 :=
  if q.1 = 2 then (if q.2 = 33 then (match S with
    | x :: r => (if x = 0 then 1 else 0) :: r
    | [] => []) else (match S with
    | y :: x :: r => jn q.2 x y :: r
    | r => r)) else (if q.1 = 0 then q.2 else nm q.2) :: S
def evL (nm : Int32 → Int32) : List (Int32 × Int32) → List Int32 → List Int32
  | [], S => S
  | q :: l, S => evL nm l (ev1 nm q S)
/-- the heights: a sign finds what it works on -/
def hgt : List (Int32 × Int32) → Nat → Option Nat
  | [], n => some n
  | q :: l, n => if q.1 = 2 then (if q.2 = 33 then (if 1 ≤ n then hgt l n else none) else (if 2 ≤ n then hgt l (n - 1) else none)) else hgt l (n + 1)
def nmK (key : Int32) : List Int32 := if key = 0 then [104, 112, 103] else if key = 1 then [101, 98] else [103, 121]
def okS (key : Int32) (q : Int32 × Int32) : Prop := (q.1 = 0 ∨ q.1 = 1 ∨ q.1 = 2) ∧ (q.1 = 1 → q.2 ∈ nmK key) ∧ (q.1 = 0 → ∃ j : Nat, j ≤ 9999 ∧ q.2 = nI j) ∧ (q.1 = 2 → ∃ j : Nat, j < 128 ∧ q.2 = nI j)
def okT (T : Tx) : Prop := (T.1 = 0 ∨ T.1 = 1 ∨ T.1 = 2) ∧ hgt T.2.2 0 = some 1 ∧ T.2.2.length ≤ 96 ∧ ∀ q ∈ T.2.2, okS T.1 q
theorem nmK_lt (key v : Int32) (h : v ∈ nmK key) : ∃ j : Nat, j < 128 ∧ v = nI j := by
  unfold nmK at h
  split at h
  · simp only [List.mem_cons, List.not_mem_nil, or_false] at h
    rcases h with rfl | rfl | rfl
    · exact ⟨104, by decide, rfl⟩
    · exact ⟨112, by decide, rfl⟩
    · exact ⟨103, by decide, rfl⟩
  · split at h
    · simp only [List.mem_cons, List.not_mem_nil, or_false] at h
      rcases h with rfl | rfl
      · exact ⟨101, by decide, rfl⟩
      · exact ⟨98, by decide, rfl⟩
    · simp only [List.mem_cons, List.not_mem_nil, or_false] at h
      rcases h with rfl | rfl
      · exact ⟨103, by decide, rfl⟩
      · exact ⟨121, by decide, rfl⟩
theorem ev1_congr {nm nm' : Int32 → Int32} {q : Int32 × Int32} {S : List Int32} (h : q.1 = 1 → nm q.2 = nm' q.2) (hq : q.1 = 0 ∨ q.1 = 1 ∨ q.1 = 2) : ev1 nm q S = ev1 nm' q S := by
  unfold ev1
  split
  · rfl
  · rcases hq with e | e | e
    · simp [e]
    · simp [e, h e]
    · contradiction
theorem evL_congr {nm nm' : Int32 → Int32} : ∀ {l : List (Int32 × Int32)} {S : List Int32}, (∀ q ∈ l, (q.1 = 0 ∨ q.1 = 1 ∨ q.1 = 2) ∧ (q.1 = 1 → nm q.2 = nm' q.2)) → evL nm l S = evL nm' l S := by
  intro l
  induction l with
  | nil => intro S _; rfl
  | cons q l ih =>
    intro S h
    unfold evL
    rw [ev1_congr (h q List.mem_cons_self).2 (h q List.mem_cons_self).1]
    exact ih (fun q' hq' => h q' (List.mem_cons_of_mem _ hq'))
def evT (T : Tx) (nm : Int32 → Int32) : Int32 := (evL nm T.2.2 []).getD 0 0
/-- a text in the reference's row -/
def TR (s : Nat → Int32) (t : Nat) (T : Tx) : Prop := s (171 + 200 * t) = T.1 ∧ s (171 + 200 * t + 1) = T.2.1 ∧ s (171 + 200 * t + 2) = nI T.2.2.length ∧ ∀ k, k < T.2.2.length → s (171 + 200 * t + 4 + 2 * k) = (T.2.2.getD k (0, 0)).1 ∧ s (171 + 200 * t + 4 + 2 * k + 1) = (T.2.2.getD k (0, 0)).2
/-- which text counts for a key -/
def cnt (Ts : Nat → Tx) (key : Int32) : Nat → Option Nat
  | 0 => none
  | n + 1 => if (Ts n).1 = key then some n else cnt Ts key n
def cntI (o : Option Nat) : Int32 := match o with
  | none => -1
  | some t => nI t
theorem cnt_lt {Ts : Nat → Tx} {key : Int32} {n t : Nat} (h : cnt Ts key n = some t) : t < n := by
  induction n with
  | zero => cases h
  | succ n ih =>
    unfold cnt at h
    split at h
    · cases h; omega
    · have := ih h; omega
theorem cnt_key {Ts : Nat → Tx} {key : Int32} {n t : Nat} (h : cnt Ts key n = some t) : (Ts t).1 = key := by
  induction n with
  | zero => cases h
  | succ n ih =>
    unfold cnt at h
    split at h
    next e => cases h; exact e
    next => exact ih h
def nm3 (a b c : Int32) (x y z : Int32) : Int32 → Int32 := fun v => if v = a then x else if v = b then y else if v = c then z else 0
/-- what leak gives, held -/
def hold (v m : Int32) : Int32 := if v < 0 then 0 else if m < v then m else v
def lkV (Ts : Nat → Tx) (nt : Nat) (h p g : Int32) : Int32 := match cnt Ts 0 nt with
  | none => h
  | some t => hold (evT (Ts t) (nm3 104 112 103 h p g)) 999
theorem evT_congr {T : Tx} {nm nm' : Int32 → Int32} (ht : okT T) (h : ∀ v ∈ nmK T.1, nm v = nm' v) : evT T nm = evT T nm' := by
  unfold evT
  rw [evL_congr (fun q hq => ⟨(ht.2.2.2 q hq).1, fun e => h _ ((ht.2.2.2 q hq).2.1 e)⟩)]
/-- the stack in a row -/
def Pl (f : Nat → Int32) (S : List Int32) : Prop := ∀ i, i < S.length → f i = S.getD (S.length - 1 - i) 0
theorem Pl.nil {f : Nat → Int32} : Pl f [] := fun i h => absurd h (Nat.not_lt_zero i)
theorem Pl.push {f : Nat → Int32} {S : List Int32} {x : Int32} (h : Pl f S) : Pl (upd f S.length x) (x :: S) := by
  intro i hi
  simp only [List.length_cons] at hi ⊢
  by_cases e : i = S.length
  · subst e
    simp [upd]
  · rw [pk_un e, h i (by omega), show S.length + 1 - 1 - i = (S.length - 1 - i) + 1 by omega]
    simp
theorem Pl.top {f : Nat → Int32} {S : List Int32} {x : Int32} (h : Pl f (x :: S)) : f S.length = x := by
  have := h S.length (by simp)
  simpa using this
theorem Pl.tail {f : Nat → Int32} {S : List Int32} {x : Int32} (h : Pl f (x :: S)) : Pl f S := by
  intro i hi
  have := h i (by simp; omega)
  rw [this, List.length_cons, show S.length + 1 - 1 - i = (S.length - 1 - i) + 1 by omega]
  simp
theorem hgt_len {nm : Int32 → Int32} : ∀ {l : List (Int32 × Int32)} {S : List Int32} {n : Nat}, hgt l S.length = some n → (evL nm l S).length = n := by
  intro l
  induction l with
  | nil => intro S n h; unfold hgt at h; unfold evL; exact Option.some.inj h
  | cons q l ih =>
    intro S n h
    unfold hgt at h
    unfold evL
    apply ih
    unfold ev1
    split at h
    next e1 =>
      rw [if_pos e1]
      split at h
      next e2 =>
        rw [if_pos e2]
        split at h
        next e3 =>
          match S with
          | [] => exact absurd e3 (by simp)
          | x :: r => exact h
        next => cases h
      next e2 =>
        rw [if_neg e2]
        split at h
        next e3 =>
          match S with
          | [] => exact absurd e3 (by simp)
          | [x] => exact absurd e3 (by simp)
          | y :: x :: r => simpa using h
        next => cases h
    next e1 =>
      rw [if_neg e1]
      exact h
