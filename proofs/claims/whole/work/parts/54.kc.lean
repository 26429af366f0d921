/-! constructors: the leaves -/
def df_0 : List Value := [.int 0, .int 0, .int 0, .int 0, .int 0]
theorem df_0_ok : ∀ j, j < 5 → defaultValue (tyX0 j) = vp_V df_0 j := by
  intro j hj
  match j, hj with
  | 0, _ => rfl
  | 1, _ => rfl
  | 2, _ => rfl
  | 3, _ => rfl
  | 4, _ => rfl
  | j + 5, h => exact absurd h (by omega)
theorem fu_0_0 : FU 0 0 RX0 false (tyX0 0) := by
  intro C T N h
  cases h
  exact ⟨rfl, rfl, tyX0_ok 0 (by decide)⟩
theorem fu_0_1 : FU 0 1 RX0 false (tyX0 1) := by
  intro C T N h
  cases h
  exact ⟨rfl, rfl, tyX0_ok 1 (by decide)⟩
theorem fu_0_2 : FU 0 2 RX0 false (tyX0 2) := by
  intro C T N h
  cases h
  exact ⟨rfl, rfl, tyX0_ok 2 (by decide)⟩
theorem fu_0_3 : FU 0 3 RX0 false (tyX0 3) := by
  intro C T N h
  cases h
  exact ⟨rfl, rfl, tyX0_ok 3 (by decide)⟩
theorem fu_0_4 : FU 0 4 RX0 false (tyX0 4) := by
  intro C T N h
  cases h
  exact ⟨rfl, rfl, tyX0_ok 4 (by decide)⟩
def df_1 : List Value := [.null, .int 0, .int 0]
theorem df_1_ok : ∀ j, j < 3 → defaultValue (tyX1 j) = vp_V df_1 j := by
  intro j hj
  match j, hj with
  | 0, _ => rfl
  | 1, _ => rfl
  | 2, _ => rfl
  | j + 3, h => exact absurd h (by omega)
theorem fu_1_0 : FU 1 0 RX1 true (tyX1 0) := by
  intro C T N h
  cases h
  exact ⟨rfl, rfl, tyX1_ok 0 (by decide)⟩
theorem fu_1_1 : FU 1 1 RX1 false (tyX1 1) := by
  intro C T N h
  cases h
  exact ⟨rfl, rfl, tyX1_ok 1 (by decide)⟩
theorem fu_1_2 : FU 1 2 RX1 false (tyX1 2) := by
  intro C T N h
  cases h
  exact ⟨rfl, rfl, tyX1_ok 2 (by decide)⟩
def df_2 : List Value := [.null, .null, .int 0, .int 0]
theorem df_2_ok : ∀ j, j < 4 → defaultValue (tyX2 j) = vp_V df_2 j := by
  intro j hj
  match j, hj with
  | 0, _ => rfl
  | 1, _ => rfl
  | 2, _ => rfl
  | 3, _ => rfl
  | j + 4, h => exact absurd h (by omega)
theorem fu_2_0 : FU 2 0 RX2 true (tyX2 0) := by
  intro C T N h
  cases h
  exact ⟨rfl, rfl, tyX2_ok 0 (by decide)⟩
theorem fu_2_1 : FU 2 1 RX2 true (tyX2 1) := by
  intro C T N h
  cases h
  exact ⟨rfl, rfl, tyX2_ok 1 (by decide)⟩
theorem fu_2_2 : FU 2 2 RX2 false (tyX2 2) := by
  intro C T N h
  cases h
  exact ⟨rfl, rfl, tyX2_ok 2 (by decide)⟩
theorem fu_2_3 : FU 2 3 RX2 false (tyX2 3) := by
  intro C T N h
  cases h
  exact ⟨rfl, rfl, tyX2_ok 3 (by decide)⟩
def df_3 : List Value := [.null, .int 0]
theorem df_3_ok : ∀ j, j < 2 → defaultValue (tyX3 j) = vp_V df_3 j := by
  intro j hj
  match j, hj with
  | 0, _ => rfl
  | 1, _ => rfl
  | j + 2, h => exact absurd h (by omega)
theorem fu_3_0 : FU 3 0 RX3 true (tyX3 0) := by
  intro C T N h
  cases h
  exact ⟨rfl, rfl, tyX3_ok 0 (by decide)⟩
theorem fu_3_1 : FU 3 1 RX3 false (tyX3 1) := by
  intro C T N h
  cases h
  exact ⟨rfl, rfl, tyX3_ok 1 (by decide)⟩
def df_4 : List Value := [.null, .int 0, .int 0, .int 0, .null]
theorem df_4_ok : ∀ j, j < 5 → defaultValue (tyX4 j) = vp_V df_4 j := by
  intro j hj
  match j, hj with
  | 0, _ => rfl
  | 1, _ => rfl
  | 2, _ => rfl
  | 3, _ => rfl
  | 4, _ => rfl
  | j + 5, h => exact absurd h (by omega)
theorem fu_4_0 : FU 4 0 RX4 true (tyX4 0) := by
  intro C T N h
  cases h
  exact ⟨rfl, rfl, tyX4_ok 0 (by decide)⟩
theorem fu_4_1 : FU 4 1 RX4 false (tyX4 1) := by
  intro C T N h
  cases h
  exact ⟨rfl, rfl, tyX4_ok 1 (by decide)⟩
theorem fu_4_2 : FU 4 2 RX4 false (tyX4 2) := by
  intro C T N h
  cases h
  exact ⟨rfl, rfl, tyX4_ok 2 (by decide)⟩
theorem fu_4_3 : FU 4 3 RX4 false (tyX4 3) := by
  intro C T N h
  cases h
  exact ⟨rfl, rfl, tyX4_ok 3 (by decide)⟩
theorem fu_4_4 : FU 4 4 RX4 true (tyX4 4) := by
  intro C T N h
  cases h
  exact ⟨rfl, rfl, tyX4_ok 4 (by decide)⟩
def df_5 : List Value := [.null, .int 0, .null, .int 0, .int 0]
theorem df_5_ok : ∀ j, j < 5 → defaultValue (tyX5 j) = vp_V df_5 j := by
  intro j hj
  match j, hj with
  | 0, _ => rfl
  | 1, _ => rfl
  | 2, _ => rfl
  | 3, _ => rfl
  | 4, _ => rfl
  | j + 5, h => exact absurd h (by omega)
theorem fu_5_0 : FU 5 0 RX5 true (tyX5 0) := by
  intro C T N h
  cases h
  exact ⟨rfl, rfl, tyX5_ok 0 (by decide)⟩
theorem fu_5_1 : FU 5 1 RX5 false (tyX5 1) := by
  intro C T N h
  cases h
  exact ⟨rfl, rfl, tyX5_ok 1 (by decide)⟩
theorem fu_5_2 : FU 5 2 RX5 true (tyX5 2) := by
  intro C T N h
  cases h
  exact ⟨rfl, rfl, tyX5_ok 2 (by decide)⟩
theorem fu_5_3 : FU 5 3 RX5 false (tyX5 3) := by
  intro C T N h
  cases h
  exact ⟨rfl, rfl, tyX5_ok 3 (by decide)⟩
theorem fu_5_4 : FU 5 4 RX5 false (tyX5 4) := by
  intro C T N h
  cases h
  exact ⟨rfl, rfl, tyX5_ok 4 (by decide)⟩
def df_6 : List Value := [.null, .null, .null, .null, .null, .null, .int 0, .int 0, .int 0, .int 0, .int 0, .int 0, .int 0]
theorem df_6_ok : ∀ j, j < 13 → defaultValue (tyX6 j) = vp_V df_6 j := by
  intro j hj
  match j, hj with
  | 0, _ => rfl
  | 1, _ => rfl
  | 2, _ => rfl
  | 3, _ => rfl
  | 4, _ => rfl
  | 5, _ => rfl
  | 6, _ => rfl
  | 7, _ => rfl
  | 8, _ => rfl
  | 9, _ => rfl
  | 10, _ => rfl
  | 11, _ => rfl
  | 12, _ => rfl
  | j + 13, h => exact absurd h (by omega)
theorem fu_6_0 : FU 6 0 RX6 true (tyX6 0) := by
  intro C T N h
  cases h
  exact ⟨rfl, rfl, tyX6_ok 0 (by decide)⟩
theorem fu_6_1 : FU 6 1 RX6 true (tyX6 1) := by
  intro C T N h
  cases h
  exact ⟨rfl, rfl, tyX6_ok 1 (by decide)⟩
theorem fu_6_2 : FU 6 2 RX6 true (tyX6 2) := by
  intro C T N h
  cases h
  exact ⟨rfl, rfl, tyX6_ok 2 (by decide)⟩
theorem fu_6_3 : FU 6 3 RX6 true (tyX6 3) := by
  intro C T N h
  cases h
  exact ⟨rfl, rfl, tyX6_ok 3 (by decide)⟩
theorem fu_6_4 : FU 6 4 RX6 true (tyX6 4) := by
  intro C T N h
  cases h
  exact ⟨rfl, rfl, tyX6_ok 4 (by decide)⟩
theorem fu_6_5 : FU 6 5 RX6 true (tyX6 5) := by
  intro C T N h
  cases h
  exact ⟨rfl, rfl, tyX6_ok 5 (by decide)⟩
theorem fu_6_6 : FU 6 6 RX6 false (tyX6 6) := by
  intro C T N h
  cases h
  exact ⟨rfl, rfl, tyX6_ok 6 (by decide)⟩
theorem fu_6_7 : FU 6 7 RX6 false (tyX6 7) := by
  intro C T N h
  cases h
  exact ⟨rfl, rfl, tyX6_ok 7 (by decide)⟩
theorem fu_6_8 : FU 6 8 RX6 false (tyX6 8) := by
  intro C T N h
  cases h
  exact ⟨rfl, rfl, tyX6_ok 8 (by decide)⟩
theorem fu_6_9 : FU 6 9 RX6 false (tyX6 9) := by
  intro C T N h
  cases h
  exact ⟨rfl, rfl, tyX6_ok 9 (by decide)⟩
theorem fu_6_10 : FU 6 10 RX6 false (tyX6 10) := by
  intro C T N h
  cases h
  exact ⟨rfl, rfl, tyX6_ok 10 (by decide)⟩
theorem fu_6_11 : FU 6 11 RX6 false (tyX6 11) := by
  intro C T N h
  cases h
  exact ⟨rfl, rfl, tyX6_ok 11 (by decide)⟩
theorem fu_6_12 : FU 6 12 RX6 false (tyX6 12) := by
  intro C T N h
  cases h
  exact ⟨rfl, rfl, tyX6_ok 12 (by decide)⟩
def df_7 : List Value := [.null, .null, .null, .null, .null, .null, .null, .null, .null, .int 0, .int 0]
theorem df_7_ok : ∀ j, j < 11 → defaultValue (tyX7 j) = vp_V df_7 j := by
  intro j hj
  match j, hj with
  | 0, _ => rfl
  | 1, _ => rfl
  | 2, _ => rfl
  | 3, _ => rfl
  | 4, _ => rfl
  | 5, _ => rfl
  | 6, _ => rfl
  | 7, _ => rfl
  | 8, _ => rfl
  | 9, _ => rfl
  | 10, _ => rfl
  | j + 11, h => exact absurd h (by omega)
theorem fu_7_0 : FU 7 0 RX7 true (tyX7 0) := by
  intro C T N h
  cases h
  exact ⟨rfl, rfl, tyX7_ok 0 (by decide)⟩
theorem fu_7_1 : FU 7 1 RX7 true (tyX7 1) := by
  intro C T N h
  cases h
  exact ⟨rfl, rfl, tyX7_ok 1 (by decide)⟩
theorem fu_7_2 : FU 7 2 RX7 true (tyX7 2) := by
  intro C T N h
  cases h
  exact ⟨rfl, rfl, tyX7_ok 2 (by decide)⟩
theorem fu_7_3 : FU 7 3 RX7 true (tyX7 3) := by
  intro C T N h
  cases h
  exact ⟨rfl, rfl, tyX7_ok 3 (by decide)⟩
theorem fu_7_4 : FU 7 4 RX7 true (tyX7 4) := by
  intro C T N h
  cases h
  exact ⟨rfl, rfl, tyX7_ok 4 (by decide)⟩
theorem fu_7_5 : FU 7 5 RX7 true (tyX7 5) := by
  intro C T N h
  cases h
  exact ⟨rfl, rfl, tyX7_ok 5 (by decide)⟩
theorem fu_7_6 : FU 7 6 RX7 true (tyX7 6) := by
  intro C T N h
  cases h
  exact ⟨rfl, rfl, tyX7_ok 6 (by decide)⟩
theorem fu_7_7 : FU 7 7 RX7 true (tyX7 7) := by
  intro C T N h
  cases h
  exact ⟨rfl, rfl, tyX7_ok 7 (by decide)⟩
theorem fu_7_8 : FU 7 8 RX7 true (tyX7 8) := by
  intro C T N h
  cases h
  exact ⟨rfl, rfl, tyX7_ok 8 (by decide)⟩
theorem fu_7_9 : FU 7 9 RX7 false (tyX7 9) := by
  intro C T N h
  cases h
  exact ⟨rfl, rfl, tyX7_ok 9 (by decide)⟩
theorem fu_7_10 : FU 7 10 RX7 false (tyX7 10) := by
  intro C T N h
  cases h
  exact ⟨rfl, rfl, tyX7_ok 10 (by decide)⟩
def df_8 : List Value := [.null, .null, .null, .int 0, .null, .null, .null, .null, .null, .null, .null, .null, .null, .null, .int 0, .int 0, .int 0, .int 0, .int 0, .int 0, .int 0, .int 0, .int 0, .int 0, .int 0, .null, .null, .null, .null, .int 0, .null]
theorem df_8_ok : ∀ j, j < 31 → defaultValue (tyX8 j) = vp_V df_8 j := by
  intro j hj
  match j, hj with
  | 0, _ => rfl
  | 1, _ => rfl
  | 2, _ => rfl
  | 3, _ => rfl
  | 4, _ => rfl
  | 5, _ => rfl
  | 6, _ => rfl
  | 7, _ => rfl
  | 8, _ => rfl
  | 9, _ => rfl
  | 10, _ => rfl
  | 11, _ => rfl
  | 12, _ => rfl
  | 13, _ => rfl
  | 14, _ => rfl
  | 15, _ => rfl
  | 16, _ => rfl
  | 17, _ => rfl
  | 18, _ => rfl
  | 19, _ => rfl
  | 20, _ => rfl
  | 21, _ => rfl
  | 22, _ => rfl
  | 23, _ => rfl
  | 24, _ => rfl
  | 25, _ => rfl
  | 26, _ => rfl
  | 27, _ => rfl
  | 28, _ => rfl
  | 29, _ => rfl
  | 30, _ => rfl
  | j + 31, h => exact absurd h (by omega)
theorem fu_8_0 : FU 8 0 RX8 true (tyX8 0) := by
  intro C T N h
  cases h
  exact ⟨rfl, rfl, tyX8_ok 0 (by decide)⟩
theorem fu_8_1 : FU 8 1 RX8 true (tyX8 1) := by
  intro C T N h
  cases h
  exact ⟨rfl, rfl, tyX8_ok 1 (by decide)⟩
theorem fu_8_2 : FU 8 2 RX8 true (tyX8 2) := by
  intro C T N h
  cases h
  exact ⟨rfl, rfl, tyX8_ok 2 (by decide)⟩
theorem fu_8_3 : FU 8 3 RX8 false (tyX8 3) := by
  intro C T N h
  cases h
  exact ⟨rfl, rfl, tyX8_ok 3 (by decide)⟩
theorem fu_8_4 : FU 8 4 RX8 true (tyX8 4) := by
  intro C T N h
  cases h
  exact ⟨rfl, rfl, tyX8_ok 4 (by decide)⟩
theorem fu_8_5 : FU 8 5 RX8 true (tyX8 5) := by
  intro C T N h
  cases h
  exact ⟨rfl, rfl, tyX8_ok 5 (by decide)⟩
theorem fu_8_6 : FU 8 6 RX8 true (tyX8 6) := by
  intro C T N h
  cases h
  exact ⟨rfl, rfl, tyX8_ok 6 (by decide)⟩
theorem fu_8_7 : FU 8 7 RX8 true (tyX8 7) := by
  intro C T N h
  cases h
  exact ⟨rfl, rfl, tyX8_ok 7 (by decide)⟩
theorem fu_8_8 : FU 8 8 RX8 true (tyX8 8) := by
  intro C T N h
  cases h
  exact ⟨rfl, rfl, tyX8_ok 8 (by decide)⟩
theorem fu_8_9 : FU 8 9 RX8 true (tyX8 9) := by
  intro C T N h
  cases h
  exact ⟨rfl, rfl, tyX8_ok 9 (by decide)⟩
theorem fu_8_10 : FU 8 10 RX8 true (tyX8 10) := by
  intro C T N h
  cases h
  exact ⟨rfl, rfl, tyX8_ok 10 (by decide)⟩
theorem fu_8_11 : FU 8 11 RX8 true (tyX8 11) := by
  intro C T N h
  cases h
  exact ⟨rfl, rfl, tyX8_ok 11 (by decide)⟩
theorem fu_8_12 : FU 8 12 RX8 true (tyX8 12) := by
  intro C T N h
  cases h
  exact ⟨rfl, rfl, tyX8_ok 12 (by decide)⟩
theorem fu_8_13 : FU 8 13 RX8 true (tyX8 13) := by
  intro C T N h
  cases h
  exact ⟨rfl, rfl, tyX8_ok 13 (by decide)⟩
theorem fu_8_14 : FU 8 14 RX8 false (tyX8 14) := by
  intro C T N h
  cases h
  exact ⟨rfl, rfl, tyX8_ok 14 (by decide)⟩
theorem fu_8_15 : FU 8 15 RX8 false (tyX8 15) := by
  intro C T N h
  cases h
  exact ⟨rfl, rfl, tyX8_ok 15 (by decide)⟩
theorem fu_8_16 : FU 8 16 RX8 false (tyX8 16) := by
  intro C T N h
  cases h
  exact ⟨rfl, rfl, tyX8_ok 16 (by decide)⟩
theorem fu_8_17 : FU 8 17 RX8 false (tyX8 17) := by
  intro C T N h
  cases h
  exact ⟨rfl, rfl, tyX8_ok 17 (by decide)⟩
theorem fu_8_18 : FU 8 18 RX8 false (tyX8 18) := by
  intro C T N h
  cases h
  exact ⟨rfl, rfl, tyX8_ok 18 (by decide)⟩
theorem fu_8_19 : FU 8 19 RX8 false (tyX8 19) := by
  intro C T N h
  cases h
  exact ⟨rfl, rfl, tyX8_ok 19 (by decide)⟩
theorem fu_8_20 : FU 8 20 RX8 false (tyX8 20) := by
  intro C T N h
  cases h
  exact ⟨rfl, rfl, tyX8_ok 20 (by decide)⟩
theorem fu_8_21 : FU 8 21 RX8 false (tyX8 21) := by
  intro C T N h
  cases h
  exact ⟨rfl, rfl, tyX8_ok 21 (by decide)⟩
theorem fu_8_22 : FU 8 22 RX8 false (tyX8 22) := by
  intro C T N h
  cases h
  exact ⟨rfl, rfl, tyX8_ok 22 (by decide)⟩
theorem fu_8_23 : FU 8 23 RX8 false (tyX8 23) := by
  intro C T N h
  cases h
  exact ⟨rfl, rfl, tyX8_ok 23 (by decide)⟩
theorem fu_8_24 : FU 8 24 RX8 false (tyX8 24) := by
  intro C T N h
  cases h
  exact ⟨rfl, rfl, tyX8_ok 24 (by decide)⟩
theorem fu_8_25 : FU 8 25 RX8 true (tyX8 25) := by
  intro C T N h
  cases h
  exact ⟨rfl, rfl, tyX8_ok 25 (by decide)⟩
theorem fu_8_26 : FU 8 26 RX8 true (tyX8 26) := by
  intro C T N h
  cases h
  exact ⟨rfl, rfl, tyX8_ok 26 (by decide)⟩
theorem fu_8_27 : FU 8 27 RX8 true (tyX8 27) := by
  intro C T N h
  cases h
  exact ⟨rfl, rfl, tyX8_ok 27 (by decide)⟩
theorem fu_8_28 : FU 8 28 RX8 true (tyX8 28) := by
  intro C T N h
  cases h
  exact ⟨rfl, rfl, tyX8_ok 28 (by decide)⟩
theorem fu_8_29 : FU 8 29 RX8 false (tyX8 29) := by
  intro C T N h
  cases h
  exact ⟨rfl, rfl, tyX8_ok 29 (by decide)⟩
theorem fu_8_30 : FU 8 30 RX8 true (tyX8 30) := by
  intro C T N h
  cases h
  exact ⟨rfl, rfl, tyX8_ok 30 (by decide)⟩
theorem up_up {α : Type} {f : Nat → α} {k : Nat} {v w : α} : up (up f k v) k w = up f k w := by
  funext j
  unfold up
  split <;> rfl
/-- the store at the start -/
def σ0 : SG := fun r o => if r ≤ 2 then (if o = 6 then 1 else if 171 ≤ o ∧ o < 174 then vNONE else 0) else if r = 7 then (if o % 32 = 24 then -1 else 0) else if r = 8 then (if o % 64 = 34 then -1 else 0) else if r = 20 then (if o = 6 then 1 else 0) else if r = 23 then (if o < 4 then -1 else 0) else 0
def GA (G : GM) (ad : Nat → Nat) : GM := (G.1, G.2.1, ad, G.2.2.2)
/-- one content is as good as another -/
def EqE (G : GM) (e e' : va_E) : Prop := ∀ (q : Nat) (H : Heap), va_at G.1 vwCl (q, e) H → va_at G.1 vwCl (q, e') H
theorem EqE.rf {G : GM} {e : va_E} : EqE G e e := fun _ _ h => h
theorem EqE.tr {G : GM} {a b c : va_E} (h : EqE G a b) (h' : EqE G b c) : EqE G a c := fun q H x => h' q H (h q H x)
theorem EqE.of {G : GM} {a b : va_E} (h : a = b) : EqE G a b := h ▸ EqE.rf
theorem arrV_congr {cA : ClassId} {N : Nat} {f g : Nat → Value} (h : ∀ i, i < N → f i = g i) : arrV cA N f = arrV cA N g := by
  have e : (fun j : Fin N => f j.val) = (fun j : Fin N => g j.val) := funext (fun j => h j.val j.isLt)
  unfold arrV
  rw [e]
theorem EqE.ints {G : GM} {cA : ClassId} {N : Nat} {f g : Nat → Int32} (h : ∀ i, i < N → f i = g i) : EqE G (.inl (cA, N, .inl f)) (.inl (cA, N, .inl g)) := by
  intro q H x
  have e : vp_cell cA (N, .inl f) = vp_cell cA (N, .inl g) := by rw [vp_cell_i, vp_cell_i]; exact arrV_congr (fun i hi => by rw [h i hi])
  show H[q]? = some (vp_cell cA (N, .inl g))
  rw [← e]
  exact x
theorem EqE.refs {G : GM} {cA : ClassId} {N : Nat} {f g : Nat → Option Nat} (h : ∀ i, i < N → f i = g i) : EqE G (.inl (cA, N, .inr (.inr (.inr (.inr f))))) (.inl (cA, N, .inr (.inr (.inr (.inr g))))) := by
  intro q H x
  have e : vp_cell cA (N, .inr (.inr (.inr (.inr f)))) = vp_cell cA (N, .inr (.inr (.inr (.inr g)))) := by rw [vp_cell_q, vp_cell_q]; exact arrV_congr (fun i hi => by rw [h i hi])
  show H[q]? = some (vp_cell cA (N, .inr (.inr (.inr (.inr g)))))
  rw [← e]
  exact x
abbrev zI (G : GM) (N : Nat) : va_E := .inl (G.2.1 0, N, .inl (fun _ => 0))
theorem c_X0_init {G : GM} {n a : Nat} {ad : Nat → Nat} {c : Nat → va_E} : CC G yX0_init cX0_init 1 1 0 0 [.ref a] n ad c n (fun ad' c' => ad' = ad ∧ c' = c) := by
  refine CC.of cd_X0_init (Nat.le_of_ble_eq_true rfl) ?_
  intro X hX hZ hN
  have hX : FC X G RX0 cX0_init 1 1 0 0 := hX
  show RC X G 1 0 0 n ad c 0 (ll [(0, .ref a)]) []
  refine k_aload_n hX dX0_init_0 rfl ⟨_, rfl⟩ (RC.go (b := 1) rfl ?_)
  refine k_obj hX (by decide) dX0_init_1 ml_X0_3 (Nat.le_of_ble_eq_true rfl) (RC.go (b := 4) rfl ?_)
  exact k_ret (n0 := 0) hX hZ dX0_init_4 (by omega) (by omega) rfl (⟨rfl, rfl⟩)
theorem c_X3_init {G : GM} {n k a : Nat} {ad : Nat → Nat} {c : Nat → va_E} (ha : ad k = a) (hk : k < n) (hc : c k = .inr (3, df_3)) : CC G yX3_init cX3_init 1 1 1 96 [.ref a] n ad c (n + 1) (fun ad' c' => ∃ q, ad' = up ad n q ∧ c' = up (up c n (zI G 96)) k (.inr (3, [.ref q, .int 0]))) := by
  refine CC.of cd_X3_init (Nat.le_of_ble_eq_true rfl) ?_
  intro X hX hZ hN
  have hX : FC X G RX3 cX3_init 1 1 1 96 := hX
  show RC X G 1 0 0 n ad c 0 (ll [(0, .ref a)]) []
  refine k_aload_n hX dX3_init_0 rfl ⟨_, rfl⟩ (RC.go (b := 1) rfl ?_)
  refine k_obj hX (by decide) dX3_init_1 ml_X3_3 (Nat.le_of_ble_eq_true rfl) (RC.go (b := 4) rfl ?_)
  refine k_aload_n hX dX3_init_4 rfl ⟨_, rfl⟩ (RC.go (b := 5) rfl ?_)
  refine k_bipush (v := 96) hX dX3_init_5 (by decide) (RC.go (b := 7) rfl ?_)
  refine k_newi (N := 96) hX dX3_init_7 rfl (by decide) (by omega) (by omega) (fun q_7 => RC.go (b := 9) rfl ?_)
  refine k_put hX hN dX3_init_9 fl_X3_9 fu_3_0 (k := k) (by rw [up_n (by omega)]; exact ha) (by omega) (by rw [up_n (by omega)]; exact hc) (Nat.le_of_ble_eq_true rfl) rfl rfl (RC.go (b := 12) rfl ?_)
  exact k_ret (n0 := 0) hX hZ dX3_init_12 (by omega) (by omega) rfl (⟨q_7, rfl, rfl⟩)
theorem c_X4_init {G : GM} {n k a b : Nat} {ad : Nat → Nat} {c : Nat → va_E} (ha : ad k = a) (hk : k < n) (hc : c k = .inr (4, df_4)) : CC G yX4_init cX4_init 2 1 1 96 [.ref a, .ref b] n ad c (n + 1) (fun ad' c' => ∃ q, ad' = up ad n q ∧ c' = up (up c n (zI G 96)) k (.inr (4, [.ref q, .int 0, .int 0, .int 0, .ref b]))) := by
  refine CC.of cd_X4_init (Nat.le_of_ble_eq_true rfl) ?_
  intro X hX hZ hN
  have hX : FC X G RX4 cX4_init 2 1 1 96 := hX
  show RC X G 2 0 0 n ad c 0 (ll [(0, .ref a), (1, .ref b)]) []
  refine k_aload_n hX dX4_init_0 rfl ⟨_, rfl⟩ (RC.go (b := 1) rfl ?_)
  refine k_obj hX (by decide) dX4_init_1 ml_X4_5 (Nat.le_of_ble_eq_true rfl) (RC.go (b := 4) rfl ?_)
  refine k_aload_n hX dX4_init_4 rfl ⟨_, rfl⟩ (RC.go (b := 5) rfl ?_)
  refine k_bipush (v := 96) hX dX4_init_5 (by decide) (RC.go (b := 7) rfl ?_)
  refine k_newi (N := 96) hX dX4_init_7 rfl (by decide) (by omega) (by omega) (fun q_7 => RC.go (b := 9) rfl ?_)
  refine k_put hX hN dX4_init_9 fl_X4_11 fu_4_0 (k := k) (by rw [up_n (by omega)]; exact ha) (by omega) (by rw [up_n (by omega)]; exact hc) (Nat.le_of_ble_eq_true rfl) rfl rfl (RC.go (b := 12) rfl ?_)
  refine k_aload_n hX dX4_init_12 rfl ⟨_, rfl⟩ (RC.go (b := 13) rfl ?_)
  refine k_aload_n hX dX4_init_13 rfl ⟨_, rfl⟩ (RC.go (b := 14) rfl ?_)
  refine k_put hX hN dX4_init_14 fl_X4_15 fu_4_4 (k := k) (by rw [up_n (by omega)]; exact ha) (by omega) up_s (Nat.le_of_ble_eq_true rfl) rfl rfl (RC.go (b := 17) rfl ?_)
  exact k_ret (n0 := 0) hX hZ dX4_init_17 (by omega) (by omega) rfl (⟨q_7, rfl, up_up⟩)
theorem c_X5_init {G : GM} {n k a b d : Nat} {ad : Nat → Nat} {c : Nat → va_E} (ha : ad k = a) (hk : k < n) (hc : c k = .inr (5, df_5)) : CC G yX5_init cX5_init 3 1 0 0 [.ref a, .ref b, .ref d] n ad c n (fun ad' c' => ad' = ad ∧ c' = up c k (.inr (5, [.ref d, .int 0, .ref b, .int 0, .int 0]))) := by
  refine CC.of cd_X5_init (Nat.le_of_ble_eq_true rfl) ?_
  intro X hX hZ hN
  have hX : FC X G RX5 cX5_init 3 1 0 0 := hX
  show RC X G 3 0 0 n ad c 0 (ll [(0, .ref a), (1, .ref b), (2, .ref d)]) []
  refine k_aload_n hX dX5_init_0 rfl ⟨_, rfl⟩ (RC.go (b := 1) rfl ?_)
  refine k_obj hX (by decide) dX5_init_1 ml_X5_3 (Nat.le_of_ble_eq_true rfl) (RC.go (b := 4) rfl ?_)
  refine k_aload_n hX dX5_init_4 rfl ⟨_, rfl⟩ (RC.go (b := 5) rfl ?_)
  refine k_aload_n hX dX5_init_5 rfl ⟨_, rfl⟩ (RC.go (b := 6) rfl ?_)
  refine k_put hX hN dX5_init_6 fl_X5_9 fu_5_2 (k := k) ha hk hc (Nat.le_of_ble_eq_true rfl) rfl rfl (RC.go (b := 9) rfl ?_)
  refine k_aload_n hX dX5_init_9 rfl ⟨_, rfl⟩ (RC.go (b := 10) rfl ?_)
  refine k_aload_n hX dX5_init_10 rfl ⟨_, rfl⟩ (RC.go (b := 11) rfl ?_)
  refine k_put hX hN dX5_init_11 fl_X5_15 fu_5_0 (k := k) ha hk up_s (Nat.le_of_ble_eq_true rfl) rfl rfl (RC.go (b := 14) rfl ?_)
  exact k_ret (n0 := 0) hX hZ dX5_init_14 (by omega) (by omega) rfl (⟨rfl, up_up⟩)
theorem c_X1_init {G : GM} {n k a : Nat} {ad : Nat → Nat} {c : Nat → va_E} (ha : ad k = a) (hk : k < n) (hc : c k = .inr (1, df_1)) : CC G yX1_init cX1_init 1 1 1 24 [.ref a] n ad c (n + 1) (fun ad' c' => ∃ q, ad' = up ad n q ∧ c' = up (up c n (zI G 24)) k (.inr (1, [.ref q, .int (-1), .int 0]))) := by
  refine CC.of cd_X1_init (Nat.le_of_ble_eq_true rfl) ?_
  intro X hX hZ hN
  have hX : FC X G RX1 cX1_init 1 1 1 24 := hX
  show RC X G 1 0 0 n ad c 0 (ll [(0, .ref a)]) []
  refine k_aload_n hX dX1_init_0 rfl ⟨_, rfl⟩ (RC.go (b := 1) rfl ?_)
  refine k_obj hX (by decide) dX1_init_1 ml_X1_3 (Nat.le_of_ble_eq_true rfl) (RC.go (b := 4) rfl ?_)
  refine k_aload_n hX dX1_init_4 rfl ⟨_, rfl⟩ (RC.go (b := 5) rfl ?_)
  refine k_bipush (v := 24) hX dX1_init_5 (by decide) (RC.go (b := 7) rfl ?_)
  refine k_newi (N := 24) hX dX1_init_7 rfl (by decide) (by omega) (by omega) (fun q_7 => RC.go (b := 9) rfl ?_)
  refine k_put hX hN dX1_init_9 fl_X1_9 fu_1_0 (k := k) (by rw [up_n (by omega)]; exact ha) (by omega) (by rw [up_n (by omega)]; exact hc) (Nat.le_of_ble_eq_true rfl) rfl rfl (RC.go (b := 12) rfl ?_)
  refine k_aload_n hX dX1_init_12 rfl ⟨_, rfl⟩ (RC.go (b := 13) rfl ?_)
  refine k_iconst (v := -1) hX dX1_init_13 (by decide) (RC.go (b := 14) rfl ?_)
  refine k_put hX hN dX1_init_14 fl_X1_15 fu_1_1 (k := k) (by rw [up_n (by omega)]; exact ha) (by omega) up_s (Nat.le_of_ble_eq_true rfl) rfl rfl (RC.go (b := 17) rfl ?_)
  exact k_ret (n0 := 0) hX hZ dX1_init_17 (by omega) (by omega) rfl (⟨q_7, rfl, up_up⟩)
theorem c_X2_init {G : GM} {n k a : Nat} {ad : Nat → Nat} {c : Nat → va_E} (ha : ad k = a) (hk : k < n) (hc : c k = .inr (2, df_2)) : CC G yX2_init cX2_init 1 2 3 32 [.ref a] n ad c (n + 3) (fun ad' c' => ∃ q1 q2 q3, ad' = up (up (up ad n q1) (n + 1) q2) (n + 2) q3 ∧ (∀ j, j < n → j ≠ k → c' j = c j) ∧ c' k = .inr (2, [.ref q1, .ref q2, .int 0, .int 0]) ∧ c' n = .inr (0, df_0) ∧ c' (n + 1) = .inr (1, [.ref q3, .int (-1), .int 0]) ∧ c' (n + 2) = zI G 24) := by
  refine CC.of cd_X2_init (Nat.le_of_ble_eq_true rfl) ?_
  intro X hX hZ hN
  have hX : FC X G RX2 cX2_init 1 2 3 32 := hX
  show RC X G 1 0 0 n ad c 0 (ll [(0, .ref a)]) []
  refine k_aload_n hX dX2_init_0 rfl ⟨_, rfl⟩ (RC.go (b := 1) rfl ?_)
  refine k_obj hX (by decide) dX2_init_1 ml_X2_1 (Nat.le_of_ble_eq_true rfl) (RC.go (b := 4) rfl ?_)
  refine k_aload_n hX dX2_init_4 rfl ⟨_, rfl⟩ (RC.go (b := 5) rfl ?_)
  refine k_new (ci := 0) (fs := df_0) tyX0 hX dX2_init_5 kl_X2_7 in_X0 ii_X0 rfl tyX0_ok df_0_ok (by omega) (by omega) (fun q_5 => RC.go (b := 8) rfl ?_)
  refine k_dup hX dX2_init_8 rfl (RC.go (b := 9) rfl ?_)
  refine k_callIN hX dX2_init_9 (List.mem_of_getElem? (i := 10) rfl) im_X0_init rfl cd_X0_init (c_X0_init) (by decide) (by omega) (by omega) rfl rfl (Nat.le_of_ble_eq_true rfl) (fun ad_9 c_9 e_9 => RC.go (b := 12) rfl ?_)
  obtain ⟨rfl, rfl⟩ := e_9
  refine k_put hX hN dX2_init_12 fl_X2_10 fu_2_0 (k := k) (by rw [up_n (by omega)]; exact ha) (by omega) (by rw [up_n (by omega)]; exact hc) (Nat.le_of_ble_eq_true rfl) rfl rfl (RC.go (b := 15) rfl ?_)
  refine k_aload_n hX dX2_init_15 rfl ⟨_, rfl⟩ (RC.go (b := 16) rfl ?_)
  refine k_new (ci := 1) (fs := df_1) tyX1 hX dX2_init_16 kl_X2_16 in_X1 ii_X1 rfl tyX1_ok df_1_ok (by omega) (by omega) (fun q_16 => RC.go (b := 19) rfl ?_)
  refine k_dup hX dX2_init_19 rfl (RC.go (b := 20) rfl ?_)
  refine k_callIN hX dX2_init_20 (List.mem_of_getElem? (i := 9) rfl) im_X1_init rfl cd_X1_init (c_X1_init (k := n + 1) up_s (by omega) up_s) (by decide) (by omega) (by omega) rfl rfl (Nat.le_of_ble_eq_true rfl) (fun ad_20 c_20 e_20 => RC.go (b := 23) rfl ?_)
  obtain ⟨q3, rfl, rfl⟩ := e_20
  refine k_put hX hN dX2_init_23 fl_X2_19 fu_2_1 (k := k) (by rw [up_n (by omega), up_n (by omega), up_n (by omega)]; exact ha) (by omega) (by rw [up_n (by omega), up_n (by omega), up_n (by omega), up_s]) (Nat.le_of_ble_eq_true rfl) rfl rfl (RC.go (b := 26) rfl ?_)
  exact k_ret (n0 := 0) hX hZ dX2_init_26 (by omega) (by omega) rfl (⟨q_5, q_16, q3, rfl, fun j hj hne => by rw [up_n hne, up_n (by omega), up_n (by omega), up_n (by omega), up_n hne, up_n (by omega)], up_s, by rw [up_n (by omega), up_n (by omega), up_n (by omega), up_n (by omega), up_n (by omega), up_s], by rw [up_n (by omega), up_s], by rw [up_n (by omega), up_n (by omega), up_s]⟩)
theorem c_J7f {G : GM} {n k a N : Nat} {v : Int32} {f : Nat → Int32} {ad : Nat → Nat} {c : Nat → va_E} (ha : ad k = a) (hk : k < n) (hc : c k = .inl (G.2.1 0, N, .inl f)) (hNN : N < 1000) : CC G yJ7_fill_53178 cJ7_fill_53178 4 0 0 0 [.ref a, .int v] n ad c n (fun ad' c' => ad' = ad ∧ (∀ j, j ≠ k → c' j = c j) ∧ ∃ g : Nat → Int32, c' k = .inl (G.2.1 0, N, .inl g) ∧ ∀ i, i < N → g i = v) := by
  refine CC.of cd_J7_fill_53178 (Nat.le_of_ble_eq_true rfl) ?_
  intro X hX hZ hN
  have hX : FC X G RJ7 cJ7_fill_53178 4 0 0 0 := hX
  show RC X G 4 0 0 n ad c 0 (ll [(0, .ref a), (1, .int v)]) []
  have loop := loopK N (fun j => ∀ (c1 : Nat → va_E) (g : Nat → Int32), (∀ i, i ≠ k → c1 i = c i) → c1 k = .inl (G.2.1 0, N, .inl g) → (∀ i, i < j → g i = v) → RC X G 4 0 0 n ad c1 5 (ll [(0, .ref a), (1, .int v), (2, .int (nI j)), (3, .int (nI N))]) []) (by
    intro j hj ih c1 g h1 h2 h3
    refine k_iload_n hX dJ7_fill_53178_5 rfl (RC.go (b := 6) rfl ?_)
    refine k_iload_n hX dJ7_fill_53178_6 rfl (RC.go (b := 7) rfl ?_)
    refine k_icmp_ge (tgt := 20) hX dJ7_fill_53178_7 rfl (fun h7 => ?_) (fun h7 => RC.go (b := 10) rfl ?_)
    · have hj2 : j = N := by rw [nI_leI (by omega) (by omega)] at h7; omega
      subst hj2
      exact k_ret (n0 := 0) hX hZ dJ7_fill_53178_20 (by omega) (by omega) rfl (⟨rfl, h1, g, h2, h3⟩)
    · have hj2 : j < N := by rw [nI_leI (by omega) (by omega)] at h7; omega
      refine k_aload_n hX dJ7_fill_53178_10 rfl ⟨_, rfl⟩ (RC.go (b := 11) rfl ?_)
      refine k_iload_n hX dJ7_fill_53178_11 rfl (RC.go (b := 12) rfl ?_)
      refine k_iload_n hX dJ7_fill_53178_12 rfl (RC.go (b := 13) rfl ?_)
      refine k_iast hX dJ7_fill_53178_13 (k := k) (j := j) ha hk h2 rfl hj2 (by omega) (RC.go (b := 14) rfl ?_)
      refine k_iinc hX dJ7_fill_53178_14 rfl (by decide) (nI_1 j) (RC.go (b := 17) rfl ?_)
      refine k_goto (tgt := 5) hX dJ7_fill_53178_17 rfl ?_
      refine RC.cut (ih hj2 _ (upd g j v) (fun i hi => by rw [up_n hi]; exact h1 i hi) up_s (fun i hi => ?_)) (List.forall_mem_cons.mpr ⟨rfl, List.forall_mem_cons.mpr ⟨rfl, List.forall_mem_cons.mpr ⟨rfl, List.forall_mem_cons.mpr ⟨rfl, fun _ h => absurd h List.not_mem_nil⟩⟩⟩⟩)
      by_cases e : i = j
      · rw [e, pk_us]
      · rw [pk_un e]; exact h3 i (by omega)
    )
  refine k_iconst (v := 0) hX dJ7_fill_53178_0 (by decide) (RC.go (b := 1) rfl ?_)
  refine k_istore_n hX dJ7_fill_53178_1 (by decide) (RC.go (b := 2) rfl ?_)
  refine k_aload_n hX dJ7_fill_53178_2 rfl ⟨_, rfl⟩ (RC.go (b := 3) rfl ?_)
  refine k_alen hX dJ7_fill_53178_3 (k := k) ha hk hc (RC.go (b := 4) rfl ?_)
  refine k_istore_n hX dJ7_fill_53178_4 (by decide) (RC.go (b := 5) rfl ?_)
  exact RC.cut (loop 0 (by omega) c f (fun _ _ => rfl) hc (fun i hi => by omega)) (List.forall_mem_cons.mpr ⟨rfl, List.forall_mem_cons.mpr ⟨rfl, List.forall_mem_cons.mpr ⟨rfl, List.forall_mem_cons.mpr ⟨rfl, fun _ h => absurd h List.not_mem_nil⟩⟩⟩⟩)
theorem c_X6_init {G : GM} {n k a b : Nat} {ad : Nat → Nat} {c : Nat → va_E} (ha : ad k = a) (hk : k < n) (hc : c k = .inr (6, df_6)) : CC G yX6_init cX6_init 3 2 13 175 [.ref a, .ref b] n ad c (n + 13) (fun ad' c' => (∀ j, j < n → ad' j = ad j) ∧ (∀ j, j < n → j ≠ k → c' j = c j) ∧ c' k = .inr (6, [.ref b, .ref (ad' n), .ref (ad' (n + 9)), .ref (ad' (n + 10)), .ref (ad' (n + 11)), .ref (ad' (n + 12)), .int 0, .int 0, .int 0, .int 0, .int 0, .int 1, .int 0]) ∧ (∃ f : Nat → Option Nat, c' n = .inl (G.2.1 1, 8, .inr (.inr (.inr (.inr f)))) ∧ ∀ i, i < 8 → f i = some (ad' (n + 1 + i))) ∧ (∀ i, i < 8 → c' (n + 1 + i) = .inr (0, df_0)) ∧ c' (n + 9) = zI G 60 ∧ c' (n + 10) = zI G 60 ∧ c' (n + 11) = zI G 4 ∧ ∃ g : Nat → Int32, c' (n + 12) = .inl (G.2.1 0, 3, .inl g) ∧ ∀ i, i < 3 → g i = vNONE) := by
  refine CC.of cd_X6_init (Nat.le_of_ble_eq_true rfl) ?_
  intro X hX hZ hN
  have hX : FC X G RX6 cX6_init 3 2 13 175 := hX
  show RC X G 3 0 0 n ad c 0 (ll [(0, .ref a), (1, .ref b)]) []
  have tail : ∀ (ad1 : Nat → Nat) (c1 : Nat → va_E) (f : Nat → Option Nat), (∀ j, j < n → ad1 j = ad j) → (∀ j, j < n → j ≠ k → c1 j = c j) → c1 k = .inr (6, (df_6.set 0 (.ref b)).set 1 (.ref (ad1 n))) → c1 n = .inl (G.2.1 1, 8, .inr (.inr (.inr (.inr f)))) → (∀ i, i < 8 → f i = some (ad1 (n + 1 + i))) → (∀ i, i < 8 → c1 (n + 1 + i) = .inr (0, df_0)) → RC X G 3 9 48 (n + 9) ad1 c1 45 (ll [(0, .ref a), (1, .ref b)]) [] := by
    intro ad1 c1 f h1 h2 h3 h4 h5 h6
    have ha1 : ad1 k = a := by rw [h1 k hk]; exact ha
    refine k_aload_n hX dX6_init_45 rfl ⟨_, rfl⟩ (RC.go (b := 46) rfl ?_)
    refine k_bipush (v := 60) hX dX6_init_46 (by decide) (RC.go (b := 48) rfl ?_)
    refine k_newi (N := 60) hX dX6_init_48 rfl (by decide) (by omega) (by omega) (fun q_48 => RC.go (b := 50) rfl ?_)
    refine k_put hX hN dX6_init_50 fl_X6_22 fu_6_2 (k := k) (by rw [up_n (by omega)]; exact ha1) (by omega) (by rw [up_n (by omega)]; exact h3) (Nat.le_of_ble_eq_true rfl) rfl rfl (RC.go (b := 53) rfl ?_)
    refine k_aload_n hX dX6_init_53 rfl ⟨_, rfl⟩ (RC.go (b := 54) rfl ?_)
    refine k_bipush (v := 60) hX dX6_init_54 (by decide) (RC.go (b := 56) rfl ?_)
    refine k_newi (N := 60) hX dX6_init_56 rfl (by decide) (by omega) (by omega) (fun q_56 => RC.go (b := 58) rfl ?_)
    refine k_put hX hN dX6_init_58 fl_X6_26 fu_6_3 (k := k) (by rw [up_n (by omega), up_n (by omega)]; exact ha1) (by omega) (by rw [up_n (by omega), up_s]) (Nat.le_of_ble_eq_true rfl) rfl rfl (RC.go (b := 61) rfl ?_)
    refine k_aload_n hX dX6_init_61 rfl ⟨_, rfl⟩ (RC.go (b := 62) rfl ?_)
    refine k_iconst (v := 4) hX dX6_init_62 (by decide) (RC.go (b := 63) rfl ?_)
    refine k_newi (N := 4) hX dX6_init_63 rfl (by decide) (by omega) (by omega) (fun q_63 => RC.go (b := 65) rfl ?_)
    refine k_put hX hN dX6_init_65 fl_X6_29 fu_6_4 (k := k) (by rw [up_n (by omega), up_n (by omega), up_n (by omega)]; exact ha1) (by omega) (by rw [up_n (by omega), up_s]) (Nat.le_of_ble_eq_true rfl) rfl rfl (RC.go (b := 68) rfl ?_)
    refine k_aload_n hX dX6_init_68 rfl ⟨_, rfl⟩ (RC.go (b := 69) rfl ?_)
    refine k_iconst (v := 3) hX dX6_init_69 (by decide) (RC.go (b := 70) rfl ?_)
    refine k_newi (N := 3) hX dX6_init_70 rfl (by decide) (by omega) (by omega) (fun q_70 => RC.go (b := 72) rfl ?_)
    refine k_put hX hN dX6_init_72 fl_X6_32 fu_6_5 (k := k) (by rw [up_n (by omega), up_n (by omega), up_n (by omega), up_n (by omega)]; exact ha1) (by omega) (by rw [up_n (by omega), up_s]) (Nat.le_of_ble_eq_true rfl) rfl rfl (RC.go (b := 75) rfl ?_)
    refine k_aload_n hX dX6_init_75 rfl ⟨_, rfl⟩ (RC.go (b := 76) rfl ?_)
    refine k_get hX dX6_init_76 fl_X6_32 (k := k) (by rw [up_n (by omega), up_n (by omega), up_n (by omega), up_n (by omega)]; exact ha1) (by omega) up_s rfl (RC.go (b := 79) rfl ?_)
    refine k_ldc hX dX6_init_79 kc_X6_35 (RC.go (b := 81) rfl ?_)
    refine k_callS hX dX6_init_81 ml_X6_36 st_J7_fill_53178 cd_J7_fill_53178 (c_J7f (k := n + 12) (N := 3) (f := fun _ => 0) up_s (by omega) (by rw [up_n (by omega), up_s]) (by omega)) (by decide) (by omega) (by omega) rfl rfl (Nat.le_of_ble_eq_true rfl) (fun ad_81 c_81 e_81 => RC.go (b := 84) rfl ?_)
    obtain ⟨rfl, g1, g, g2, g3⟩ := e_81
    refine k_aload_n hX dX6_init_84 rfl ⟨_, rfl⟩ (RC.go (b := 85) rfl ?_)
    refine k_iconst (v := 1) hX dX6_init_85 (by decide) (RC.go (b := 86) rfl ?_)
    refine k_put hX hN dX6_init_86 fl_X6_42 fu_6_11 (k := k) (by rw [up_n (by omega), up_n (by omega), up_n (by omega), up_n (by omega)]; exact ha1) (by omega) (by rw [g1 k (by omega), up_s]) (Nat.le_of_ble_eq_true rfl) rfl rfl (RC.go (b := 89) rfl ?_)
    exact k_ret (n0 := 0) hX hZ dX6_init_89 (by omega) (by omega) rfl (⟨fun j hj => by rw [up_n (by omega), up_n (by omega), up_n (by omega), up_n (by omega)]; exact h1 j hj, fun j hj hne => by rw [up_n hne, g1 j (by omega), up_n hne, up_n (by omega), up_n hne, up_n (by omega), up_n hne, up_n (by omega), up_n hne, up_n (by omega)]; exact h2 j hj hne, by rw [up_s, up_n (show n ≠ n + 9 + 1 + 1 + 1 by omega), up_n (show n ≠ n + 9 + 1 + 1 by omega), up_n (show n ≠ n + 9 + 1 by omega), up_n (show n ≠ n + 9 by omega), up_n (show n + 9 ≠ n + 9 + 1 + 1 + 1 by omega), up_n (show n + 9 ≠ n + 9 + 1 + 1 by omega), up_n (show n + 9 ≠ n + 9 + 1 by omega), up_s, up_n (show n + 10 ≠ n + 9 + 1 + 1 + 1 by omega), up_n (show n + 10 ≠ n + 9 + 1 + 1 by omega), show n + 10 = n + 9 + 1 from rfl, up_s, up_n (show n + 11 ≠ n + 9 + 1 + 1 + 1 by omega), show n + 11 = n + 9 + 1 + 1 from rfl, up_s, show n + 12 = n + 9 + 1 + 1 + 1 from rfl, up_s]; rfl, ⟨f, by rw [up_n (by omega), g1 n (by omega), up_n (by omega), up_n (by omega), up_n (by omega), up_n (by omega), up_n (by omega), up_n (by omega), up_n (by omega), up_n (by omega)]; exact h4, fun i hi => by rw [up_n (by omega), up_n (by omega), up_n (by omega), up_n (by omega)]; exact h5 i hi⟩, fun i hi => by rw [up_n (by omega), g1 _ (by omega), up_n (by omega), up_n (by omega), up_n (by omega), up_n (by omega), up_n (by omega), up_n (by omega), up_n (by omega), up_n (by omega)]; exact h6 i hi, by rw [up_n (by omega), g1 _ (by omega), up_n (by omega), up_n (by omega), up_n (by omega), up_n (by omega), up_n (by omega), up_n (by omega), up_n (by omega), up_s], by rw [up_n (by omega), g1 _ (by omega), up_n (by omega), up_n (by omega), up_n (by omega), up_n (by omega), up_n (by omega), show n + 10 = n + 9 + 1 from rfl, up_s], by rw [up_n (by omega), g1 _ (by omega), up_n (by omega), up_n (by omega), up_n (by omega), show n + 11 = n + 9 + 1 + 1 from rfl, up_s], g, by rw [up_n (by omega)]; exact g2, g3⟩)
  have loop := loopK 8 (fun i => ∀ (ad1 : Nat → Nat) (c1 : Nat → va_E) (f : Nat → Option Nat), (∀ j, j < n → ad1 j = ad j) → (∀ j, j < n → j ≠ k → c1 j = c j) → c1 k = .inr (6, (df_6.set 0 (.ref b)).set 1 (.ref (ad1 n))) → c1 n = .inl (G.2.1 1, 8, .inr (.inr (.inr (.inr f)))) → (∀ q, q < i → f q = some (ad1 (n + 1 + q))) → (∀ q, q < i → c1 (n + 1 + q) = .inr (0, df_0)) → RC X G 3 (1 + i) (8 + 5 * i) (n + 1 + i) ad1 c1 20 (ll [(0, .ref a), (1, .ref b), (2, .int (nI i))]) []) (by
    intro i hi ih ad1 c1 f h1 h2 h3 h4 h5 h6
    have ha1 : ad1 k = a := by rw [h1 k hk]; exact ha
    refine k_iload_n hX dX6_init_20 rfl (RC.go (b := 21) rfl ?_)
    refine k_bipush (v := 8) hX dX6_init_21 (by decide) (RC.go (b := 23) rfl ?_)
    refine k_icmp_ge (tgt := 45) hX dX6_init_23 rfl (fun h23 => ?_) (fun h23 => RC.go (b := 26) rfl ?_)
    · have hi2 : i = 8 := by rw [show (8 : Int32) = nI 8 from rfl, nI_leI (by omega) (by omega)] at h23; omega
      subst hi2
      exact RC.cut (tail ad1 c1 f h1 h2 h3 h4 h5 h6) (List.forall_mem_cons.mpr ⟨rfl, List.forall_mem_cons.mpr ⟨rfl, fun _ h => absurd h List.not_mem_nil⟩⟩)
    · have hi2 : i < 8 := by rw [show (8 : Int32) = nI 8 from rfl, nI_leI (by omega) (by omega)] at h23; omega
      refine k_aload_n hX dX6_init_26 rfl ⟨_, rfl⟩ (RC.go (b := 27) rfl ?_)
      refine k_get hX dX6_init_27 fl_X6_17 (k := k) ha1 (by omega) h3 rfl (RC.go (b := 30) rfl ?_)
      refine k_iload_n hX dX6_init_30 rfl (RC.go (b := 31) rfl ?_)
      refine k_new (ci := 0) (fs := df_0) tyX0 hX dX6_init_31 kl_X6_15 in_X0 ii_X0 rfl tyX0_ok df_0_ok (by omega) (by omega) (fun q_31 => RC.go (b := 34) rfl ?_)
      refine k_dup hX dX6_init_34 rfl (RC.go (b := 35) rfl ?_)
      refine k_callIN hX dX6_init_35 (List.mem_of_getElem? (i := 11) rfl) im_X0_init rfl cd_X0_init (c_X0_init) (by decide) (by omega) (by omega) rfl rfl (Nat.le_of_ble_eq_true rfl) (fun ad_35 c_35 e_35 => RC.go (b := 38) rfl ?_)
      obtain ⟨rfl, rfl⟩ := e_35
      refine k_astq hX dX6_init_38 (k := n) (kv := n + 1 + i) (t := 1) (j := i) (ci := 0) (by rw [up_n (by omega)]) (by omega) (by rw [up_n (by omega)]; exact h4) rfl up_s (by omega) up_s rfl rfl hi2 (by omega) (RC.go (b := 39) rfl ?_)
      refine k_iinc hX dX6_init_39 rfl (by decide) (nI_1 i) (RC.go (b := 42) rfl ?_)
      refine k_goto (tgt := 20) hX dX6_init_42 rfl ?_
      refine RC.cut (ih hi2 _ _ (va_up f i (some q_31)) (fun j hj => by rw [up_n (by omega)]; exact h1 j hj) (fun j hj hne => by rw [up_n (by omega), up_n (by omega)]; exact h2 j hj hne) (by rw [up_n (by omega), up_n (by omega), up_n (by omega)]; exact h3) up_s (fun q hq => ?_) (fun q hq => ?_)) (List.forall_mem_cons.mpr ⟨rfl, List.forall_mem_cons.mpr ⟨rfl, List.forall_mem_cons.mpr ⟨rfl, fun _ h => absurd h List.not_mem_nil⟩⟩⟩)
      · by_cases e : q = i
        · subst e
          rw [up_s]
          exact va_up_self _ _ _
        · rw [up_n (by omega), ← h5 q (by omega)]
          exact va_up_ne _ _ e
      · by_cases e : q = i
        · subst e
          rw [up_n (by omega), up_s]
        · rw [up_n (by omega), up_n (by omega)]
          exact h6 q (by omega)
    )
  refine k_aload_n hX dX6_init_0 rfl ⟨_, rfl⟩ (RC.go (b := 1) rfl ?_)
  refine k_obj hX (by decide) dX6_init_1 ml_X6_3 (Nat.le_of_ble_eq_true rfl) (RC.go (b := 4) rfl ?_)
  refine k_aload_n hX dX6_init_4 rfl ⟨_, rfl⟩ (RC.go (b := 5) rfl ?_)
  refine k_aload_n hX dX6_init_5 rfl ⟨_, rfl⟩ (RC.go (b := 6) rfl ?_)
  refine k_put hX hN dX6_init_6 fl_X6_9 fu_6_0 (k := k) ha hk hc (Nat.le_of_ble_eq_true rfl) rfl rfl (RC.go (b := 9) rfl ?_)
  refine k_aload_n hX dX6_init_9 rfl ⟨_, rfl⟩ (RC.go (b := 10) rfl ?_)
  refine k_bipush (v := 8) hX dX6_init_10 (by decide) (RC.go (b := 12) rfl ?_)
  refine k_newq (N := 8) (t := 1) hX dX6_init_12 kl_X6_15 hX.2.2.2.2.2.2.1.2.1.1 rfl rfl (by decide) (by omega) (by omega) (fun q_12 => RC.go (b := 15) rfl ?_)
  refine k_put hX hN dX6_init_15 fl_X6_17 fu_6_1 (k := k) (by rw [up_n (by omega)]; exact ha) (by omega) (by rw [up_n (by omega), up_s]) (Nat.le_of_ble_eq_true rfl) rfl rfl (RC.go (b := 18) rfl ?_)
  refine k_iconst (v := 0) hX dX6_init_18 (by decide) (RC.go (b := 19) rfl ?_)
  refine k_istore_n hX dX6_init_19 (by decide) (RC.go (b := 20) rfl ?_)
  refine RC.cut (loop 0 (by omega) _ _ (fun _ => none) (fun j hj => by rw [up_n (by omega)]) (fun j hj hne => by rw [up_n hne, up_n (by omega), up_n hne]) (by rw [up_s, up_s]) (by rw [up_n (by omega), up_s]) (fun q hq => by omega) (fun q hq => by omega)) (List.forall_mem_cons.mpr ⟨rfl, List.forall_mem_cons.mpr ⟨rfl, List.forall_mem_cons.mpr ⟨rfl, fun _ h => absurd h List.not_mem_nil⟩⟩⟩)
