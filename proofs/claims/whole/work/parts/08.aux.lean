/-! booleans, switches, field types -/
def bz (c : Prop) [Decidable c] : Int32 := if c then 1 else 0
theorem bz_0 {c : Prop} [Decidable c] : bz c = 0 ↔ ¬ c := by
  unfold bz
  by_cases h : c
  · simp [h]
  · simp [h]
theorem bz_t {c : Prop} [Decidable c] (h : c) : bz c = 1 := if_pos h
theorem bz_f {c : Prop} [Decidable c] (h : ¬ c) : bz c = 0 := if_neg h
theorem nar_bz (c : Prop) [Decidable c] : narrow .boolean (.int (bz c)) = .int (bz c) := by
  unfold bz
  by_cases h : c
  · rw [if_pos h]; rfl
  · rw [if_neg h]; rfl
theorem ne_toInt {x v : Int32} (h : ¬ x = v) : x.toInt ≠ v.toInt := fun e => h (Int32.toInt_inj.mp e)
theorem RR.pc {X : CX} {G : GM} {nL a b : Nat} {lv : LVs} {st : List Value} {σ : SG} (h : a = b) (k : RR X G nL b lv st σ) : RR X G nL a lv st σ := h ▸ k
section RRB
variable {X : CX} {G : GM} {own : String} {cc : ByteArray} {nL d pc : Nat} {lv : LVs} {st : List Value} {σ : SG}
theorem r_if_eq_b {c : Prop} [Decidable c] {off : Int} {tgt : Nat} (hX : Fx X G own cc nL d) (hd : decode cc pc = .ok (.ifCond .eq off, 3)) (ht : (pc : Int) + off = (tgt : Int)) (kt : ¬ c → RR X G nL tgt lv st σ) (kf : c → RR X G nL (pc + 3) lv st σ) : RR X G nL pc lv (.int (bz c) :: st) σ :=
  r_if_eq hX hd ht (fun h => kt (bz_0.mp h)) (fun h => kf (Decidable.byContradiction (fun q => h (bz_0.mpr q))))
theorem r_if_ne_b {c : Prop} [Decidable c] {off : Int} {tgt : Nat} (hX : Fx X G own cc nL d) (hd : decode cc pc = .ok (.ifCond .ne off, 3)) (ht : (pc : Int) + off = (tgt : Int)) (kt : c → RR X G nL tgt lv st σ) (kf : ¬ c → RR X G nL (pc + 3) lv st σ) : RR X G nL pc lv (.int (bz c) :: st) σ :=
  r_if_ne hX hd ht (fun h => kt (Decidable.byContradiction (fun q => h (bz_0.mpr q)))) (fun h => kf (bz_0.mp h))
theorem r_callVie {a : Int32} {b : SG} {y : MethodName} {cy : ByteArray} {maxL n d' idx k ci : Nat} {fl : List LF} {ret : Option FieldType} {As st0 : List Value} {C : vw_C} (hX : Fx X G own cc nL d) (hd : decode cc pc = .ok (.invokevirtual idx, 3)) (hm : ML own idx y) (hy : CD y cy maxL ret n) (hv : CV y)
    (hc : CI G y cy maxL ret d' (rf G k :: As) σ (fun r s => r = a ∧ s = b)) (hdd : d' + 1 ≤ d) (hl : lay k = lO ci fl) (hC : vwCl[ci]? = some C) (hC1 : C.1 = y.cls) (hn : As.length = n) (hst : st0 = As.reverse ++ rf G k :: st) (hcat : (st.map fun v => v.category).sum ≤ 8)
    (kk : RR X G nL (pc + 3) lv (.int a :: st) b) : RR X G nL pc lv st0 σ := by
  refine r_callVi hX hd hm hy hv hc hdd hl hC hC1 hn hst hcat ?_
  rintro r s ⟨rfl, rfl⟩
  exact kk
theorem r_callVve {b : SG} {y : MethodName} {cy : ByteArray} {maxL n d' idx k ci : Nat} {fl : List LF} {ret : Option FieldType} {As st0 : List Value} {C : vw_C} (hX : Fx X G own cc nL d) (hd : decode cc pc = .ok (.invokevirtual idx, 3)) (hm : ML own idx y) (hy : CD y cy maxL ret n) (hv : CV y)
    (hc : CU G y cy maxL ret d' (rf G k :: As) σ (fun s => s = b)) (hdd : d' + 1 ≤ d) (hl : lay k = lO ci fl) (hC : vwCl[ci]? = some C) (hC1 : C.1 = y.cls) (hn : As.length = n) (hst : st0 = As.reverse ++ rf G k :: st) (hcat : (st.map fun v => v.category).sum ≤ 8)
    (kk : RR X G nL (pc + 3) lv st b) : RR X G nL pc lv st0 σ := by
  refine r_callVv hX hd hm hy hv hc hdd hl hC hC1 hn hst hcat ?_
  rintro s rfl
  exact kk
theorem r_callSie {a : Int32} {b : SG} {y : MethodName} {cy : ByteArray} {maxL n d' idx : Nat} {ret : Option FieldType} {As st0 : List Value} (hX : Fx X G own cc nL d) (hd : decode cc pc = .ok (.invokestatic idx, 3)) (hm : ML own idx y) (hy : CD y cy maxL ret n) (hv : CS y)
    (hc : CI G y cy maxL ret d' As σ (fun r s => r = a ∧ s = b)) (hdd : d' + 1 ≤ d) (hn : As.length = n) (hst : st0 = As.reverse ++ st) (hcat : (st.map fun v => v.category).sum ≤ 8)
    (kk : RR X G nL (pc + 3) lv (.int a :: st) b) : RR X G nL pc lv st0 σ := by
  refine r_callSi hX hd hm hy hv hc hdd hn hst hcat ?_
  rintro r s ⟨rfl, rfl⟩
  exact kk
theorem r_callSNie {a : Int32} {b : SG} {y : MethodName} {cy : ByteArray} {maxL n d' idx : Nat} {ret : Option FieldType} {As st0 : List Value} (hX : Fx X G own cc nL d) (hd : decode cc pc = .ok (.invokestatic idx, 3)) (hm : (own, idx, y) ∈ nestL) (hy : CD y cy maxL ret n) (hv : CS y)
    (hc : CI G y cy maxL ret d' As σ (fun r s => r = a ∧ s = b)) (hdd : d' + 1 ≤ d) (hn : As.length = n) (hst : st0 = As.reverse ++ st) (hcat : (st.map fun v => v.category).sum ≤ 8)
    (kk : RR X G nL (pc + 3) lv (.int a :: st) b) : RR X G nL pc lv st0 σ := by
  refine r_callSN hX hd hm hy hv hc hdd hn hst hcat ?_
  rintro v s ⟨r, rfl, rfl, rfl⟩
  exact kk
theorem r_callSve {b : SG} {y : MethodName} {cy : ByteArray} {maxL n d' idx : Nat} {ret : Option FieldType} {As st0 : List Value} (hX : Fx X G own cc nL d) (hd : decode cc pc = .ok (.invokestatic idx, 3)) (hm : ML own idx y) (hy : CD y cy maxL ret n) (hv : CS y)
    (hc : CU G y cy maxL ret d' As σ (fun s => s = b)) (hdd : d' + 1 ≤ d) (hn : As.length = n) (hst : st0 = As.reverse ++ st) (hcat : (st.map fun v => v.category).sum ≤ 8)
    (kk : RR X G nL (pc + 3) lv st b) : RR X G nL pc lv st0 σ := by
  refine r_callSv hX hd hm hy hv hc hdd hn hst hcat ?_
  rintro s rfl
  exact kk
end RRB
theorem ft_0_0 : FT 0 0 .int := fun C T N h => by cases h; exact ⟨rfl, by decide +kernel⟩
theorem ft_0_1 : FT 0 1 .int := fun C T N h => by cases h; exact ⟨rfl, by decide +kernel⟩
theorem ft_0_2 : FT 0 2 .int := fun C T N h => by cases h; exact ⟨rfl, by decide +kernel⟩
theorem ft_0_3 : FT 0 3 .int := fun C T N h => by cases h; exact ⟨rfl, by decide +kernel⟩
theorem ft_0_4 : FT 0 4 .int := fun C T N h => by cases h; exact ⟨rfl, by decide +kernel⟩
theorem ft_1_1 : FT 1 1 .int := fun C T N h => by cases h; exact ⟨rfl, by decide +kernel⟩
theorem ft_1_2 : FT 1 2 .int := fun C T N h => by cases h; exact ⟨rfl, by decide +kernel⟩
theorem ft_2_2 : FT 2 2 .int := fun C T N h => by cases h; exact ⟨rfl, by decide +kernel⟩
theorem ft_2_3 : FT 2 3 .int := fun C T N h => by cases h; exact ⟨rfl, by decide +kernel⟩
theorem ft_3_1 : FT 3 1 .int := fun C T N h => by cases h; exact ⟨rfl, by decide +kernel⟩
theorem ft_4_1 : FT 4 1 .int := fun C T N h => by cases h; exact ⟨rfl, by decide +kernel⟩
theorem ft_4_2 : FT 4 2 .int := fun C T N h => by cases h; exact ⟨rfl, by decide +kernel⟩
theorem ft_4_3 : FT 4 3 .int := fun C T N h => by cases h; exact ⟨rfl, by decide +kernel⟩
theorem ft_5_1 : FT 5 1 .int := fun C T N h => by cases h; exact ⟨rfl, by decide +kernel⟩
theorem ft_5_3 : FT 5 3 .int := fun C T N h => by cases h; exact ⟨rfl, by decide +kernel⟩
theorem ft_5_4 : FT 5 4 .int := fun C T N h => by cases h; exact ⟨rfl, by decide +kernel⟩
theorem ft_6_6 : FT 6 6 .int := fun C T N h => by cases h; exact ⟨rfl, by decide +kernel⟩
theorem ft_6_7 : FT 6 7 .int := fun C T N h => by cases h; exact ⟨rfl, by decide +kernel⟩
theorem ft_6_8 : FT 6 8 .int := fun C T N h => by cases h; exact ⟨rfl, by decide +kernel⟩
theorem ft_6_9 : FT 6 9 .int := fun C T N h => by cases h; exact ⟨rfl, by decide +kernel⟩
theorem ft_6_10 : FT 6 10 .int := fun C T N h => by cases h; exact ⟨rfl, by decide +kernel⟩
theorem ft_6_11 : FT 6 11 .int := fun C T N h => by cases h; exact ⟨rfl, by decide +kernel⟩
theorem ft_6_12 : FT 6 12 .int := fun C T N h => by cases h; exact ⟨rfl, by decide +kernel⟩
theorem ft_7_9 : FT 7 9 .boolean := fun C T N h => by cases h; exact ⟨rfl, by decide +kernel⟩
theorem ft_7_10 : FT 7 10 .int := fun C T N h => by cases h; exact ⟨rfl, by decide +kernel⟩
theorem ft_8_3 : FT 8 3 .boolean := fun C T N h => by cases h; exact ⟨rfl, by decide +kernel⟩
theorem ft_8_14 : FT 8 14 .int := fun C T N h => by cases h; exact ⟨rfl, by decide +kernel⟩
theorem ft_8_15 : FT 8 15 .int := fun C T N h => by cases h; exact ⟨rfl, by decide +kernel⟩
theorem ft_8_16 : FT 8 16 .int := fun C T N h => by cases h; exact ⟨rfl, by decide +kernel⟩
theorem ft_8_17 : FT 8 17 .int := fun C T N h => by cases h; exact ⟨rfl, by decide +kernel⟩
theorem ft_8_18 : FT 8 18 .int := fun C T N h => by cases h; exact ⟨rfl, by decide +kernel⟩
theorem ft_8_19 : FT 8 19 .int := fun C T N h => by cases h; exact ⟨rfl, by decide +kernel⟩
theorem ft_8_20 : FT 8 20 .int := fun C T N h => by cases h; exact ⟨rfl, by decide +kernel⟩
theorem ft_8_21 : FT 8 21 .int := fun C T N h => by cases h; exact ⟨rfl, by decide +kernel⟩
theorem ft_8_22 : FT 8 22 .int := fun C T N h => by cases h; exact ⟨rfl, by decide +kernel⟩
theorem ft_8_23 : FT 8 23 .int := fun C T N h => by cases h; exact ⟨rfl, by decide +kernel⟩
theorem ft_8_24 : FT 8 24 .int := fun C T N h => by cases h; exact ⟨rfl, by decide +kernel⟩
theorem ft_8_29 : FT 8 29 .int := fun C T N h => by cases h; exact ⟨rfl, by decide +kernel⟩
theorem sl_X0_31 : Cond.fieldLink RX0 31 RX0 "ABOVE" "[I" ∈ wsL_law := wI_11 _ (List.mem_of_getElem? (i := 21) rfl)
theorem sl_X7_128 : Cond.fieldLink RX7 128 RX7 "LEAST_OF_RULE" "[I" ∈ wsL_law := wI_13 _ (List.mem_of_getElem? (i := 16) rfl)
theorem sl_X7_131 : Cond.fieldLink RX7 131 RX7 "MOST_OF_RULE" "[I" ∈ wsL_law := wI_13 _ (List.mem_of_getElem? (i := 17) rfl)
