/-! what holds at the start -/
theorem tb_arr : Cond.arrayClass .int ∈ lw_tbl ∧ (Cond.arrayOver (.object RX0) ∈ lw_tbl ∧ Cond.arrayOver (.object RX1) ∈ lw_tbl ∧ Cond.arrayOver (.object RX2) ∈ lw_tbl ∧ Cond.arrayOver (.object RX4) ∈ lw_tbl) := by decide +kernel
theorem tb_nest : ∀ q ∈ nestL, Cond.methodLinkNest q.1 q.2.1 q.2.2 RX7 ∈ lw_tbl := by decide +kernel
theorem tb_lays : Cond.laysStatic RX0 "ABOVE" "[I" ∈ lw_tbl ∧ Cond.laysStatic RX7 "LEAST_OF_RULE" "[I" ∈ lw_tbl ∧ Cond.laysStatic RX7 "MOST_OF_RULE" "[I" ∈ lw_tbl ∧ Cond.laysStatic "java/lang/String" "COMPACT_STRINGS" "Z" ∈ lw_tbl ∧ Cond.laysStatic "jdk/internal/util/Preconditions" "SIOOBE_FORMATTER" "Ljava/util/function/BiFunction;" ∈ lw_tbl ∧ Cond.initialized "java/lang/String" ∈ lw_tbl ∧ Cond.initialized "jdk/internal/util/Preconditions" ∈ lw_tbl := by decide +kernel
theorem tb_str : ∀ i, i < 14 → Cond.stringRef RX5 (kIdx.getD i 0) (kTxt.getD i "") ∈ lw_tbl := by decide +kernel
abbrev flS : List Cond := flatC (Jvm.Cond.and given_1 narrow_1)
abbrev tmA : Term := .static RX0 "ABOVE" "[I"
abbrev tmL : Term := .static RX7 "LEAST_OF_RULE" "[I"
abbrev tmM : Term := .static RX7 "MOST_OF_RULE" "[I"
theorem fl_A : Cond.arrayOf tmA .int ∈ flS ∧ Cond.eq (.length tmA) (.int (Int32.ofNat 6)) ∈ flS ∧ ∀ j, j < 6 → Cond.eq (.elem tmA (.int (Int32.ofNat j))) (.int (tb0.getD j 0)) ∈ flS := by decide +kernel
theorem fl_L : Cond.arrayOf tmL .int ∈ flS ∧ Cond.eq (.length tmL) (.int (Int32.ofNat 4)) ∈ flS ∧ ∀ j, j < 4 → Cond.eq (.elem tmL (.int (Int32.ofNat j))) (.int (tb1.getD j 0)) ∈ flS := by decide +kernel
theorem fl_M : Cond.arrayOf tmM .int ∈ flS ∧ Cond.eq (.length tmM) (.int (Int32.ofNat 4)) ∈ flS ∧ ∀ j, j < 4 → Cond.eq (.elem tmM (.int (Int32.ofNat j))) (.int (tb2.getD j 0)) ∈ flS := by decide +kernel
theorem fl_Z : Cond.eq (.static "java/lang/String" "COMPACT_STRINGS" "Z") (.int 1) ∈ flS ∧ Cond.isRef (.static "jdk/internal/util/Preconditions" "SIOOBE_FORMATTER" "Ljava/util/function/BiFunction;") ∈ flS := by decide +kernel
def tmS (i : Nat) : Term := .string RX5 (kIdx.getD i 0)
theorem fl_1 : ∀ i, i < 14 → Cond.exactly (tmS i) "java/lang/String" ∈ flS := by decide +kernel
theorem fl_2 : ∀ i, i < 14 → Cond.eq (.field (tmS i) "java/lang/String" "coder" "B") (.int 0) ∈ flS := by decide +kernel
theorem fl_3 : ∀ i, i < 14 → Cond.arrayOf (.field (tmS i) "java/lang/String" "value" "[B") .byte ∈ flS := by decide +kernel
theorem fl_4 : ∀ i, i < 14 → Cond.eq (.length (.field (tmS i) "java/lang/String" "value" "[B")) (.int (Int32.ofNat (kLen.getD i 0))) ∈ flS := by decide +kernel
theorem fl_5 : ∀ i, i < 14 → ∀ j, j < kLen.getD i 0 → Cond.eq (.elem (.field (tmS i) "java/lang/String" "value" "[B") (.int (Int32.ofNat j))) (.int ((kByt.getD i []).getD j 0)) ∈ flS := by decide +kernel
def posT : List Nat := [0, 83, 92, 101, 110, 120, 166, 180, 197, 214, 232, 130, 141, 153, 0, 0, 93, 102, 111, 121, 167, 181, 198, 215, 233, 131, 142, 154, 0, 0, 0, 103, 112, 122, 168, 182, 199, 216, 234, 132, 143, 155, 0, 0, 0, 0, 113, 123, 169, 183, 200, 217, 235, 133, 144, 156, 0, 0, 0, 0, 0, 124, 170, 184, 201, 218, 236, 134, 145, 157, 0, 0, 0, 0, 0, 0, 171, 185, 202, 219, 237, 135, 146, 158, 0, 0, 0, 0, 0, 0, 0, 189, 206, 223, 241, 0, 0, 0, 0, 0, 0, 0, 0, 0, 0, 0, 207, 224, 242, 0, 0, 0, 0, 0, 0, 0, 0, 0, 0, 0, 0, 225, 243, 0, 0, 0, 0, 0, 0, 0, 0, 0, 0, 0, 0, 0, 244, 0, 0, 0, 0, 0, 0, 0, 0, 0, 0, 0, 0, 0, 0, 0, 0, 0, 0, 0, 0, 0, 0, 0, 172, 186, 203, 220, 238, 0, 147, 159, 0, 0, 0, 0, 0, 0, 173, 187, 204, 221, 239, 0, 0, 160, 0, 0, 0, 0, 0, 0, 174, 188, 205, 222, 240, 0, 0, 0]
theorem fl_6a : ∀ i, i < 14 → ∀ j, j < 14 → ¬ posT.getD (14 * i + j) 0 = 0 → flS[posT.getD (14 * i + j) 0]? = some (Cond.not (Cond.eq (tmS i) (tmS j))) := by decide +kernel
theorem fl_6b : ∀ i, i < 14 → ∀ j, j < 14 → i ≠ j → ¬ posT.getD (14 * i + j) 0 = 0 ∨ ¬ posT.getD (14 * j + i) 0 = 0 := by decide +kernel
theorem fl_6 {i j : Nat} (hi : i < 14) (hj : j < 14) (h : i ≠ j) : Cond.not (Cond.eq (tmS i) (tmS j)) ∈ flS ∨ Cond.not (Cond.eq (tmS j) (tmS i)) ∈ flS := (fl_6b i hi j hj h).elim (fun q => Or.inl (List.mem_of_getElem? (fl_6a i hi j hj q))) (fun q => Or.inr (List.mem_of_getElem? (fl_6a j hj i hi q)))
theorem kLen_31 : ∀ i, i < 14 → kLen.getD i 0 < 2 ^ 31 := fun i hi => Nat.lt_of_le_of_lt (kLen_lt i hi).1 (by decide)
/-- the classes -/
theorem st_K {s : State} {A : Array Value} (hts : ∀ w ∈ lw_tbl, w.before A s = true) : ∃ (D : va_G) (cA : Nat → ClassId), va_K D vwCl [(cA 0, .int), (cA 1, .object RX0), (cA 2, .object RX1), (cA 3, .object RX2), (cA 4, .object RX4)] s := by
  have hw : ∀ w ∈ wsL_law, w.before A s = true := fun w h => hts w (wsL_law_in w h)
  obtain ⟨c0, i0, k0⟩ := u_known (C := RX0) (T := TX0) (N := 5) (n := 5) hw (inlAll (ci := 0) rfl) (hw _ in_X0)
  obtain ⟨c1, i1, k1⟩ := u_known (C := RX1) (T := TX1) (N := 3) (n := 3) hw (inlAll (ci := 1) rfl) (hw _ in_X1)
  obtain ⟨c2, i2, k2⟩ := u_known (C := RX2) (T := TX2) (N := 4) (n := 4) hw (inlAll (ci := 2) rfl) (hw _ in_X2)
  obtain ⟨c3, i3, k3⟩ := u_known (C := RX3) (T := TX3) (N := 2) (n := 2) hw (inlAll (ci := 3) rfl) (hw _ in_X3)
  obtain ⟨c4, i4, k4⟩ := u_known (C := RX4) (T := TX4) (N := 5) (n := 5) hw (inlAll (ci := 4) rfl) (hw _ in_X4)
  obtain ⟨c5, i5, k5⟩ := u_known (C := RX5) (T := TX5) (N := 5) (n := 5) hw (inlAll (ci := 5) rfl) (hw _ in_X5)
  obtain ⟨c6, i6, k6⟩ := u_known (C := RX6) (T := TX6) (N := 13) (n := 13) hw (inlAll (ci := 6) rfl) (hw _ in_X6)
  obtain ⟨c7, i7, k7⟩ := u_known (C := RX7) (T := TX7) (N := 11) (n := 11) hw (inlAll (ci := 7) rfl) (hw _ in_X7)
  obtain ⟨c8, i8, k8⟩ := u_known (C := RX8) (T := TX8) (N := 31) (n := 31) hw (inlAll (ci := 8) rfl) (hw _ in_X8)
  obtain ⟨t1, t2, t3, t4, t5⟩ := tb_arr
  obtain ⟨a0, q0, p0, e1, e2, e3⟩ := Cond.arrayClass_spec (hts _ t1)
  obtain ⟨p1, a1, q1, f11, f12, f13, f14, f15⟩ := Cond.arrayOver_spec (hts _ t2)
  obtain ⟨p2, a2, q2, f21, f22, f23, f24, f25⟩ := Cond.arrayOver_spec (hts _ t3)
  obtain ⟨p3, a3, q3, f31, f32, f33, f34, f35⟩ := Cond.arrayOver_spec (hts _ t4)
  obtain ⟨p4, a4, q4, f41, f42, f43, f44, f45⟩ := Cond.arrayOver_spec (hts _ t5)
  refine ⟨(fun k => [c0, c1, c2, c3, c4, c5, c6, c7, c8].getD k c0, fun k => [i0, i1, i2, i3, i4, i5, i6, i7, i8].getD k i0), fun k => [a0, a1, a2, a3, a4].getD k a0, ?_, ?_⟩
  · intro k q hq
    match k, hq with
    | 0, hq => cases hq; exact k0
    | 1, hq => cases hq; exact k1
    | 2, hq => cases hq; exact k2
    | 3, hq => cases hq; exact k3
    | 4, hq => cases hq; exact k4
    | 5, hq => cases hq; exact k5
    | 6, hq => cases hq; exact k6
    | 7, hq => cases hq; exact k7
    | 8, hq => cases hq; exact k8
    | k + 9, hq => exact absurd hq (by simp [vwCl])
  · intro k q hq
    match k, hq with
    | 0, hq => cases hq; exact ⟨fun n z => ⟨fun k h => (by cases h), q0, e2, p0, e3⟩, e1⟩
    | 1, hq => cases hq; exact ⟨fun n z => ⟨fun k h => (by cases h), q1, f13, p1, f14⟩, q1, p1, f13, f14, f11, f15⟩
    | 2, hq => cases hq; exact ⟨fun n z => ⟨fun k h => (by cases h), q2, f23, p2, f24⟩, q2, p2, f23, f24, f21, f25⟩
    | 3, hq => cases hq; exact ⟨fun n z => ⟨fun k h => (by cases h), q3, f33, p3, f34⟩, q3, p3, f33, f34, f31, f35⟩
    | 4, hq => cases hq; exact ⟨fun n z => ⟨fun k h => (by cases h), q4, f43, p4, f44⟩, q4, p4, f43, f44, f41, f45⟩
    | k + 5, hq => exact absurd hq (by simp)
/-- the constants -/
theorem st_S {s : State} {args : Array Value} (hts : ∀ w ∈ lw_tbl, w.before args s = true) (hgv : (Jvm.Cond.and given_1 narrow_1).before args s = true) : ∃ (adK adV tb : Nat → Nat), ∀ (D : va_G) (cA : Nat → ClassId) (ad : Nat → Nat), Ks (D, cA, ad, (fun q => s.heap.size ≤ q), adK, adV, tb) s := by
  have hs := flat_of_before _ hgv
  have hA : ∀ a : Nat, a < s.heap.size → ¬ (fun q => s.heap.size ≤ q) a := fun a h => Nat.not_le.mpr h
  have hw : ∀ w ∈ wsL_law, w.before args s = true := fun w h => hts w (wsL_law_in w h)
  obtain ⟨l1, l2, l3, l4, l5, l6, l7⟩ := tb_lays
  obtain ⟨t0, x0, y0⟩ := va_Tof (tm := tmA) (ty := .int) (N := 6) (f := tabI tb0) (A := fun q => s.heap.size ≤ q) (by decide) (hs _ fl_A.1) (va_eqt (hs _ fl_A.2.1)) (fun j hj => va_eqt (hs _ (fl_A.2.2 j hj))) hA
  obtain ⟨t1, x1, y1⟩ := va_Tof (tm := tmL) (ty := .int) (N := 4) (f := tabI tb1) (A := fun q => s.heap.size ≤ q) (by decide) (hs _ fl_L.1) (va_eqt (hs _ fl_L.2.1)) (fun j hj => va_eqt (hs _ (fl_L.2.2 j hj))) hA
  obtain ⟨t2, x2, y2⟩ := va_Tof (tm := tmM) (ty := .int) (N := 4) (f := tabI tb2) (A := fun q => s.heap.size ≤ q) (by decide) (hs _ fl_M.1) (va_eqt (hs _ fl_M.2.1)) (fun j hj => va_eqt (hs _ (fl_M.2.2 j hj))) hA
  obtain ⟨adK, adV, hS, hE⟩ := vk_Sof (tm := tmS) (N := 14) (len := kLen) (byt := kByt) (A := fun q => s.heap.size ≤ q) kLen_31 (fun i hi => hs _ (fl_1 i hi)) (fun i hi => hs _ (fl_2 i hi)) (fun i hi => hs _ (fl_3 i hi)) (fun i hi => hs _ (fl_4 i hi)) (fun i hi j hj => hs _ (fl_5 i hi j hj)) (fun i j hi hj hij => (fl_6 hi hj hij).elim (fun q => Or.inl (hs _ q)) (fun q => Or.inr (hs _ q))) hA
  refine ⟨adK, adV, fun k => [t0, t1, t2].getD k 0, fun D cA ad => ⟨⟨?_, y0⟩, ⟨?_, y1⟩, ⟨?_, y2⟩, ?_, hS, fun i hi => vk_R.of (hts _ (tb_str i hi)) (hE i hi), fun q hq => va_Nw.of rfl (hts _ (tb_nest q hq)), va_Zqof (hts _ l5) (hts _ l7) (hs _ fl_Z.2) hA⟩⟩
  · exact va_Zof (hts _ l1) (hw _ ii_X0) x0 hA
  · exact va_Zof (hts _ l2) (hw _ ii_X7) x1 hA
  · exact va_Zof (hts _ l3) (hw _ ii_X7) x2 hA
  · exact va_Zof (hts _ l4) (hts _ l6) (va_eqi (hs _ fl_Z.1)) hA
theorem st_B {s : State} {args : Array Value} (hts : ∀ w ∈ lw_tbl, w.before args s = true) {G : GM} (hA : G.2.2.2.1 = fun q => s.heap.size ≤ q) : KB G s := by
  obtain ⟨t1, t2, t3, t4, t5⟩ := tb_arr
  exact ⟨fun q hq => va_Nw.of rfl (hts _ (tb_nest q hq)), ⟨va_AO.of (hts _ t2), va_AO.of (hts _ t3), va_AO.of (hts _ t4), va_AO.of (hts _ t5)⟩, fun q hq => by rw [hA]; exact hq⟩
