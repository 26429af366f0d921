section RRC
variable {X : CX} {G : GM} {own : String} {cc : ByteArray} {nL d pc : Nat} {lv : LVs} {st : List Value} {σ : SG}
theorem pw_blind {G : GM} {σ : SG} {av : List Value} : FrameBlind (va_Pc av (PW G σ)) := by
  intro a U g mk q
  obtain ⟨q0, qP, qK, qG, qk⟩ := q
  exact ⟨q0, qP, va_K.moved (u := U) (U := U.calling g mk a) (Vm.Alike.refl U.vm) qK, qG, qk.same rfl rfl⟩
theorem pw_at {G : GM} {σ : SG} {s : State} {H : Heap} {locs : List Loc} {av : List Value} (hK : va_K G.1 vwCl (ty5 G) s) (hG : GD G) (hk : Ks G s) (hP : va_P G.1 vwCl (cs G σ) H) (hS : va_S G.2.2.2.1 s.heap H locs) : ∀ U : State, U.heap = H → s.WarmedH U.vm → va_Pc av (PW G σ) av.toArray U := fun U hU hW => ⟨rfl, by rw [hU]; exact hP, va_K.moved hW.alike hK, hG, hk.at hS hU hW⟩
/-- behind a call -/
theorem r_after {Q : Option Value → SG → Prop} {st0 : List Value} {H : Heap} {locs : List Loc} {ls : Array Slot} (hS : va_S G.2.2.2.1 X.2.2.2.2.1.heap H locs) (hls : lh ls nL lv) {a : Array Value}
    (hr : va_Run X.1 X.2.1 X.2.2.1 X.2.2.2.1 X.2.2.2.2.1 X.2.2.2.2.2.1 X.2.2.2.2.2.2.1 X.2.2.2.2.2.2.2.1 X.2.2.2.2.2.2.2.2.1 X.2.2.2.2.2.2.2.2.2.1 H locs X.2.2.2.2.2.2.2.2.2.2.1 X.2.2.2.2.2.2.2.2.2.2.2.1 0 0 (F0 X.2.2.2.2.2.1 pc ls st0) st (QQ G Q a) G.2.2.2.1)
    (kk : ∀ v σ', Q v σ' → RR X G nL (pc + 3) lv (v.toList ++ st) σ') :
    W X.1 X.2.1 X.2.2.1 X.2.2.2.1 X.2.2.2.2.1 X.2.2.2.2.2.1 X.2.2.2.2.2.2.1 X.2.2.2.2.2.2.2.1 X.2.2.2.2.2.2.2.2.1 X.2.2.2.2.2.2.2.2.2.1 H locs X.2.2.2.2.2.2.2.2.2.2.1 X.2.2.2.2.2.2.2.2.2.2.2.1 X.2.2.2.2.2.2.2.2.2.2.2.2 (F0 X.2.2.2.2.2.1 pc ls st0) := by
  intro T hT hX
  obtain ⟨v, st₀, t, T', L, h0, X', hL, e1, e2, ⟨v', σ', hv, hq, hp, hz, hk⟩, go⟩ := hr T hT hX
  cases hv
  rw [h0] at hz hk
  have hS' : va_S G.2.2.2.1 X.2.2.2.2.1.heap T'.heap (locs ++ L) := by
    refine ⟨Nat.le_trans hS.1 (by rw [e1]; exact hz), fun q h1 h2 => ?_, fun q hq => ?_⟩
    · rw [e1, hk q (Nat.lt_of_lt_of_le h1 hS.1) h2]
      exact hS.2.1 q h1 h2
    · rcases List.mem_append.mp hq with h | h
      · exact hS.2.2 q h
      · exact hL q h
  obtain ⟨t2, a1, b1⟩ := kk v σ' hq T'.heap (locs ++ L) ls (by rw [e1]; exact hp) hS' hls T' rfl X'
  exact ⟨t2, go t2 a1, b1⟩
theorem goodSub {y : MethodName} {cy : ByteArray} {maxL n : Nat} {ret : Option FieldType} (hy : CD y cy maxL ret n) {l : List Cond} (hl : ∀ w ∈ l, w ∈ wsL_law) : GoodIn wsL_law (l ++ (Cond.code y cy maxL ret :: wsL_law)) := by
  intro w hw
  have hm : w ∈ wsL_law := by
    rcases List.mem_append.mp hw with h | h
    · exact hl w h
    · rcases List.mem_cons.mp h with h | h
      · rw [h]; exact hy.1
      · exact h
  exact ⟨hm, goodL w hm⟩
theorem r_callV {Q : Option Value → SG → Prop} {y : MethodName} {cy : ByteArray} {maxL n d' idx k ci : Nat} {fl : List LF} {ret : Option FieldType} {As st0 : List Value} {C : vw_C} (hX : Fx X G own cc nL d) (hd : decode cc pc = .ok (.invokevirtual idx, 3)) (hm : ML own idx y) (hy : CD y cy maxL ret n) (hv : CV y)
    (hc : Con G y cy maxL ret d' (rf G k :: As) σ Q) (hdd : d' + 1 ≤ d) (hl : lay k = lO ci fl) (hC : vwCl[ci]? = some C) (hC1 : C.1 = y.cls) (hn : As.length = n) (hst : st0 = As.reverse ++ rf G k :: st) (hcat : (st.map fun v => v.category).sum ≤ 8)
    (kk : ∀ v σ', Q v σ' → RR X G nL (pc + 3) lv (v.toList ++ st) σ') : RR X G nL pc lv st0 σ := by
  intro H locs ls hP hS hls
  subst hst
  have hfr := hX.2.2.2.2.2.2.2.2.1
  have hlo := hX.2.2.2.2.2.2.2.2.2.1
  have hcw : CallW X.2.2.2.1 X.2.2.2.2.1 X.2.2.2.2.2.2.1 own y.cls idx y cy maxL ret (Cond.code y cy maxL ret :: wsL_law) { frames := d', cells := 0, slots := 0, locals := 40 * d' } 0 0 n := by
    refine cwV n hX.2.2.2.2.1 ?_ rfl rfl rfl ⟨rfl, hy.2.2.1⟩ ⟨by show d' + 1 ≤ _; omega, by have := hy.2.2.2.1; show 8 + (maxL + 11) + 40 * d' ≤ _; omega⟩
    refine goodSub hy (fun w hw => ?_)
    simp only [List.mem_cons, List.not_mem_nil, or_false] at hw
    rcases hw with rfl | rfl | rfl | rfl
    · exact hm
    · exact hv.1
    · exact hv.2
    · exact hy.2.1
  refine r_after (Q := Q) hS hls (va_runV (As := As) (rest := st) (b := G.2.2.1 k) ⟨hX.1, hX.2.1, hX.2.2.1, hX.2.2.2.1, hX.2.2.2.2.1⟩ (hc X.2.1) hcw ⟨pw_blind, ?_, ?_⟩ rfl hn hls.1 rfl (lv_room hcat) hd ⟨hX.2.2.2.2.2.2.2.2.2.2.1, hX.2.2.2.2.2.2.2.2.2.2.2⟩) kk
  · have := va_recv hX.2.2.2.2.2.1 hP hC (ce_lO hl)
    rw [hC1] at this
    exact this
  · exact pw_at (av := rf G k :: As) hX.2.2.2.2.2.1 hX.2.2.2.2.2.2.1 hX.2.2.2.2.2.2.2.1 hP hS
theorem r_callS {Q : Option Value → SG → Prop} {y : MethodName} {cy : ByteArray} {maxL n d' idx : Nat} {ret : Option FieldType} {As st0 : List Value} (hX : Fx X G own cc nL d) (hd : decode cc pc = .ok (.invokestatic idx, 3)) (hm : ML own idx y) (hy : CD y cy maxL ret n) (hv : CS y)
    (hc : Con G y cy maxL ret d' As σ Q) (hdd : d' + 1 ≤ d) (hn : As.length = n) (hst : st0 = As.reverse ++ st) (hcat : (st.map fun v => v.category).sum ≤ 8)
    (kk : ∀ v σ', Q v σ' → RR X G nL (pc + 3) lv (v.toList ++ st) σ') : RR X G nL pc lv st0 σ := by
  intro H locs ls hP hS hls
  subst hst
  have hfr := hX.2.2.2.2.2.2.2.2.1
  have hlo := hX.2.2.2.2.2.2.2.2.2.1
  refine r_after (Q := Q) hS hls (va_runS (As := As) (rest := st) (n := n) ⟨hX.1, hX.2.1, hX.2.2.1, hX.2.2.2.1, hX.2.2.2.2.1⟩ (hc X.2.1) (va_cwS n hX.2.2.2.2.1 ?_ rfl rfl rfl hy.2.2.1 ⟨by show d' + 1 ≤ _; omega, by have := hy.2.2.2.1; show 8 + (maxL + 11) + 40 * d' ≤ _; omega⟩) ⟨pw_blind, ?_⟩ rfl hn hls.1 rfl (lv_room hcat) hd ⟨hX.2.2.2.2.2.2.2.2.2.2.1, hX.2.2.2.2.2.2.2.2.2.2.2⟩) kk
  · refine goodSub hy (fun w hw => ?_)
    simp only [List.mem_cons, List.not_mem_nil, or_false] at hw
    rcases hw with rfl | rfl | rfl
    · exact hm
    · exact hv
    · exact hy.2.1
  · exact pw_at (av := As) hX.2.2.2.2.2.1 hX.2.2.2.2.2.2.1 hX.2.2.2.2.2.2.2.1 hP hS
theorem r_callSN {Q : Option Value → SG → Prop} {y : MethodName} {cy : ByteArray} {maxL n d' idx : Nat} {ret : Option FieldType} {As st0 : List Value} (hX : Fx X G own cc nL d) (hd : decode cc pc = .ok (.invokestatic idx, 3)) (hm : (own, idx, y) ∈ nestL) (hy : CD y cy maxL ret n) (hv : CS y)
    (hc : Con G y cy maxL ret d' As σ Q) (hdd : d' + 1 ≤ d) (hn : As.length = n) (hst : st0 = As.reverse ++ st) (hcat : (st.map fun v => v.category).sum ≤ 8)
    (kk : ∀ v σ', Q v σ' → RR X G nL (pc + 3) lv (v.toList ++ st) σ') : RR X G nL pc lv st0 σ := by
  intro H locs ls hP hS hls
  subst hst
  have hfr := hX.2.2.2.2.2.2.2.2.1
  have hlo := hX.2.2.2.2.2.2.2.2.2.1
  refine r_after (Q := Q) hS hls (va_runSN (As := As) (rest := st) (n := n) (host := RX7) ⟨hX.1, hX.2.1, hX.2.2.1, hX.2.2.2.1, hX.2.2.2.2.1⟩ (hc X.2.1) ⟨va_cnB n hX.2.2.2.2.1 (goodSub (l := []) hy (fun w hw => absurd hw List.not_mem_nil)) rfl rfl rfl (hX.2.2.2.2.2.2.2.1.2.2.2.2.2.2.1 (own, idx, y) hm) (hX.2.2.2.2.1 _ hy.2.1) hy.2.2.1 ⟨by show d' + 1 ≤ _; omega, by have := hy.2.2.2.1; show 8 + (maxL + 11) + 40 * d' ≤ _; omega⟩, hX.2.2.2.2.1 _ hv, trivial⟩ ⟨pw_blind, ?_⟩ rfl hn hls.1 rfl (lv_room hcat) hd ⟨hX.2.2.2.2.2.2.2.2.2.2.1, hX.2.2.2.2.2.2.2.2.2.2.2⟩) kk
  exact pw_at (av := As) hX.2.2.2.2.2.1 hX.2.2.2.2.2.2.1 hX.2.2.2.2.2.2.2.1 hP hS
/-- contracts with an int, without an answer -/
abbrev CI (G : GM) (y : MethodName) (cc : ByteArray) (maxL : Nat) (ret : Option FieldType) (d : Nat) (av : List Value) (σ : SG) (P : Int32 → SG → Prop) : Prop := Con G y cc maxL ret d av σ (fun v σ' => ∃ r : Int32, v = some (.int r) ∧ P r σ')
abbrev CU (G : GM) (y : MethodName) (cc : ByteArray) (maxL : Nat) (ret : Option FieldType) (d : Nat) (av : List Value) (σ : SG) (P : SG → Prop) : Prop := Con G y cc maxL ret d av σ (fun v σ' => v = none ∧ P σ')
theorem r_callVi {P : Int32 → SG → Prop} {y : MethodName} {cy : ByteArray} {maxL n d' idx k ci : Nat} {fl : List LF} {ret : Option FieldType} {As st0 : List Value} {C : vw_C} (hX : Fx X G own cc nL d) (hd : decode cc pc = .ok (.invokevirtual idx, 3)) (hm : ML own idx y) (hy : CD y cy maxL ret n) (hv : CV y)
    (hc : CI G y cy maxL ret d' (rf G k :: As) σ P) (hdd : d' + 1 ≤ d) (hl : lay k = lO ci fl) (hC : vwCl[ci]? = some C) (hC1 : C.1 = y.cls) (hn : As.length = n) (hst : st0 = As.reverse ++ rf G k :: st) (hcat : (st.map fun v => v.category).sum ≤ 8)
    (kk : ∀ r σ', P r σ' → RR X G nL (pc + 3) lv (.int r :: st) σ') : RR X G nL pc lv st0 σ := by
  refine r_callV hX hd hm hy hv hc hdd hl hC hC1 hn hst hcat ?_
  rintro v σ' ⟨r, rfl, h⟩
  exact kk r σ' h
theorem r_callVv {P : SG → Prop} {y : MethodName} {cy : ByteArray} {maxL n d' idx k ci : Nat} {fl : List LF} {ret : Option FieldType} {As st0 : List Value} {C : vw_C} (hX : Fx X G own cc nL d) (hd : decode cc pc = .ok (.invokevirtual idx, 3)) (hm : ML own idx y) (hy : CD y cy maxL ret n) (hv : CV y)
    (hc : CU G y cy maxL ret d' (rf G k :: As) σ P) (hdd : d' + 1 ≤ d) (hl : lay k = lO ci fl) (hC : vwCl[ci]? = some C) (hC1 : C.1 = y.cls) (hn : As.length = n) (hst : st0 = As.reverse ++ rf G k :: st) (hcat : (st.map fun v => v.category).sum ≤ 8)
    (kk : ∀ σ', P σ' → RR X G nL (pc + 3) lv st σ') : RR X G nL pc lv st0 σ := by
  refine r_callV hX hd hm hy hv hc hdd hl hC hC1 hn hst hcat ?_
  rintro v σ' ⟨rfl, h⟩
  exact kk σ' h
theorem r_callSi {P : Int32 → SG → Prop} {y : MethodName} {cy : ByteArray} {maxL n d' idx : Nat} {ret : Option FieldType} {As st0 : List Value} (hX : Fx X G own cc nL d) (hd : decode cc pc = .ok (.invokestatic idx, 3)) (hm : ML own idx y) (hy : CD y cy maxL ret n) (hv : CS y)
    (hc : CI G y cy maxL ret d' As σ P) (hdd : d' + 1 ≤ d) (hn : As.length = n) (hst : st0 = As.reverse ++ st) (hcat : (st.map fun v => v.category).sum ≤ 8)
    (kk : ∀ r σ', P r σ' → RR X G nL (pc + 3) lv (.int r :: st) σ') : RR X G nL pc lv st0 σ := by
  refine r_callS hX hd hm hy hv hc hdd hn hst hcat ?_
  rintro v σ' ⟨r, rfl, h⟩
  exact kk r σ' h
theorem r_callSv {P : SG → Prop} {y : MethodName} {cy : ByteArray} {maxL n d' idx : Nat} {ret : Option FieldType} {As st0 : List Value} (hX : Fx X G own cc nL d) (hd : decode cc pc = .ok (.invokestatic idx, 3)) (hm : ML own idx y) (hy : CD y cy maxL ret n) (hv : CS y)
    (hc : CU G y cy maxL ret d' As σ P) (hdd : d' + 1 ≤ d) (hn : As.length = n) (hst : st0 = As.reverse ++ st) (hcat : (st.map fun v => v.category).sum ≤ 8)
    (kk : ∀ σ', P σ' → RR X G nL (pc + 3) lv st σ') : RR X G nL pc lv st0 σ := by
  refine r_callS hX hd hm hy hv hc hdd hn hst hcat ?_
  rintro v σ' ⟨rfl, h⟩
  exact kk σ' h
/-- Math -/
theorem in_Math : Cond.initialized "java/lang/Math" ∈ wsL_law := wI_8 _ (List.mem_of_getElem? (i := 22) rfl)
theorem r_max {x y : Int32} {idx : Nat} (hX : Fx X G own cc nL d) (h1 : 1 ≤ d) (hd : decode cc pc = .ok (.invokestatic idx, 3)) (hm : ML own idx Lib.Math.max.name) (hcat : (st.map fun v => v.category).sum ≤ 8) (kk : RR X G nL (pc + 3) lv (.int (if x < y then y else x) :: st) σ) : RR X G nL pc lv (.int y :: .int x :: st) σ := by
  intro H locs ls hP hS hls
  have hfr := hX.2.2.2.2.2.2.2.2.1
  have hlo := hX.2.2.2.2.2.2.2.2.2.1
  exact va_mmax hX.1 hX.2.1 (hX.2.2.1.trans hls.1.symm) hX.2.2.2.1 (hX.2.2.2.2.1 _ hm) (hX.2.2.2.2.1 _ (wI_9 _ (List.mem_of_getElem? (i := 1) rfl))) (hX.2.2.2.2.1 _ in_Math) (hX.2.2.2.2.1 _ (wI_9 _ (List.mem_of_getElem? (i := 2) rfl))) (by omega) (by omega) hX.2.2.2.2.2.2.2.2.2.2.1 hX.2.2.2.2.2.2.2.2.2.2.2 hd (kk H locs ls hP hS hls)
theorem r_min {x y : Int32} {idx : Nat} (hX : Fx X G own cc nL d) (h1 : 1 ≤ d) (hd : decode cc pc = .ok (.invokestatic idx, 3)) (hm : ML own idx Lib.Math.min.name) (hcat : (st.map fun v => v.category).sum ≤ 8) (kk : RR X G nL (pc + 3) lv (.int (if y < x then y else x) :: st) σ) : RR X G nL pc lv (.int y :: .int x :: st) σ := by
  intro H locs ls hP hS hls
  have hfr := hX.2.2.2.2.2.2.2.2.1
  have hlo := hX.2.2.2.2.2.2.2.2.2.1
  exact va_mmin hX.1 hX.2.1 (hX.2.2.1.trans hls.1.symm) hX.2.2.2.1 (hX.2.2.2.2.1 _ hm) (hX.2.2.2.2.1 _ (wI_8 _ (List.mem_of_getElem? (i := 21) rfl))) (hX.2.2.2.2.1 _ in_Math) (hX.2.2.2.2.1 _ (wI_8 _ (List.mem_of_getElem? (i := 23) rfl))) (by omega) (by omega) hX.2.2.2.2.2.2.2.2.2.2.1 hX.2.2.2.2.2.2.2.2.2.2.2 hd (kk H locs ls hP hS hls)
theorem r_abs {x : Int32} {idx : Nat} (hX : Fx X G own cc nL d) (h1 : 1 ≤ d) (hd : decode cc pc = .ok (.invokestatic idx, 3)) (hm : ML own idx Lib.Math.abs.name) (hcat : (st.map fun v => v.category).sum ≤ 8) (kk : RR X G nL (pc + 3) lv (.int (if 0 ≤ x then x else 0 - x) :: st) σ) : RR X G nL pc lv (.int x :: st) σ := by
  intro H locs ls hP hS hls
  have hfr := hX.2.2.2.2.2.2.2.2.1
  have hlo := hX.2.2.2.2.2.2.2.2.2.1
  exact va_mabs hX.1 hX.2.1 (hX.2.2.1.trans hls.1.symm) hX.2.2.2.1 (hX.2.2.2.2.1 _ hm) (hX.2.2.2.2.1 _ (wI_25 _ (List.mem_of_getElem? (i := 5) rfl))) (hX.2.2.2.2.1 _ in_Math) (hX.2.2.2.2.1 _ (wI_25 _ (List.mem_of_getElem? (i := 6) rfl))) (by omega) (by omega) hX.2.2.2.2.2.2.2.2.2.2.1 hX.2.2.2.2.2.2.2.2.2.2.2 hd (kk H locs ls hP hS hls)
/-- arraycopy of int rows: places dp .. of the row at k1 become those of the row at k0 -/
def cpR (f : Nat → Int32) (g : Nat → Int32) (so to n : Nat) : Nat → Int32 := fun q => if to ≤ q ∧ q < to + n then f (so + (q - to)) else g q
theorem r_copy {k0 k1 n0 r0 o0 n1 r1 o1 sp dp n idx : Nat} (hX : Fx X G own cc nL d) (h1 : 1 ≤ d) (hd : decode cc pc = .ok (.invokestatic idx, 3)) (hm : ML own idx arraycopyName) (hl0 : lay k0 = lI n0 r0 o0) (hl1 : lay k1 = lI n1 r1 o1) (hp0 : 0 < n0) (hp1 : 0 < n1) (hn0 : n0 < 2 ^ 31) (hn1 : n1 < 2 ^ 31) (h4 : sp + n ≤ n0) (h5 : dp + n ≤ n1) (hcat : (st.map fun v => v.category).sum ≤ 8)
    {xn xd xs : Int32} (en : xn = nI n) (ed : xd = nI dp) (es : xs = nI sp)
    (kk : RR X G nL (pc + 3) lv st (sr σ r1 (cpR (σ r0) (σ r1) (o0 + sp) (o1 + dp) n))) : RR X G nL pc lv (.int xn :: .int xd :: rf G k1 :: .int xs :: rf G k0 :: st) σ := by
  intro H locs ls hP hS hls
  subst en; subst ed; subst es
  have hfr := hX.2.2.2.2.2.2.2.2.1
  have hlo := hX.2.2.2.2.2.2.2.2.2.1
  have c1 : (nI sp).toNatClampNeg = sp := nI_clamp (by omega)
  have c2 : (nI dp).toNatClampNeg = dp := nI_clamp (by omega)
  have c3 : (nI n).toNatClampNeg = n := nI_clamp (by omega)
  refine va_copyi (D := G.1) (cl := vwCl) (tys := ty5 G) (ty := .int) hX.1 hX.2.1 (hX.2.2.1.trans hls.1.symm) hX.2.2.2.1 (hX.2.2.2.2.1 _ hm) (hX.2.2.2.2.1 _ (wI_21 _ (List.mem_of_getElem? (i := 1) rfl))) (hX.2.2.2.2.1 _ (wI_21 _ (List.mem_of_getElem? (i := 2) rfl))) (hX.2.2.2.2.1 _ (wI_21 _ (List.mem_of_getElem? (i := 3) rfl))) hX.2.2.2.2.2.1 hP (cs_D hX.2.2.2.2.2.2.1) hS k0 k1 0 0 (ce_lI hl0 hp0) (ce_lI hl1 hp1) rfl rfl rfl (nI_pos (by omega)) (nI_pos (by omega)) (nI_pos (by omega)) (by rw [c1, c3]; exact h4) (by rw [c2, c3]; exact h5) (fun i _ => rfl) (by omega) ?_ hd ?_
  · show _ + (nativeFrameWords "java/lang/System" "arraycopy" 5 + 11) ≤ _
    have : nativeFrameWords "java/lang/System" "arraycopy" 5 = 7 := by decide
    omega
  · intro H1 locs1 hP1 _ hS1
    rw [c1, c2, c3] at hP1
    rw [cs_row (f := cpR (σ r0) (σ r1) (o0 + sp) (o1 + dp) n) hl1 hp1 ?_ ?_ ?_] at hP1
    · exact kk H1 locs1 ls hP1 hS1 hls
    · intro i hi
      simp only [va_cpy, cpR]
      by_cases hc : dp ≤ i ∧ i < dp + n
      · rw [if_pos hc, if_pos (by omega), ia_at (by omega)]
        congr 1
        omega
      · rw [if_neg hc, if_neg (by omega), ia_at hi]
    · intro q hq
      simp only [cpR]
      rw [if_neg (by omega)]
    · intro i hi
      simp only [va_cpy]
      rw [if_neg (by omega)]
      simp only [ia]
      rw [if_neg (by omega)]
/-- the constant tables -/
def tf (G : GM) (t : Nat) : Value := .ref (G.2.2.2.2.2.2 t)
def tbN : List String := ["ABOVE", "LEAST_OF_RULE", "MOST_OF_RULE"]
theorem r_gets0 {idx : Nat} (hX : Fx X G own cc nL d) (hd : decode cc pc = .ok (.getstatic idx, 3)) (hf : Cond.fieldLink own idx RX0 "ABOVE" "[I" ∈ wsL_law) (kk : RR X G nL (pc + 3) lv (tf G 0 :: st) σ) : RR X G nL pc lv st σ :=
  fun H locs ls hP hS hls => va_gets hX.1 hX.2.1 hX.2.2.2.2.2.2.2.1.1.1 hS hX.2.2.2.1 (hX.2.2.2.2.1 _ hf) (fun _ h => h) hd (kk H locs ls hP hS hls)
theorem r_gets1 {idx : Nat} (hX : Fx X G own cc nL d) (hd : decode cc pc = .ok (.getstatic idx, 3)) (hf : Cond.fieldLink own idx RX7 "LEAST_OF_RULE" "[I" ∈ wsL_law) (kk : RR X G nL (pc + 3) lv (tf G 1 :: st) σ) : RR X G nL pc lv st σ :=
  fun H locs ls hP hS hls => va_gets hX.1 hX.2.1 hX.2.2.2.2.2.2.2.1.2.1.1 hS hX.2.2.2.1 (hX.2.2.2.2.1 _ hf) (fun _ h => h) hd (kk H locs ls hP hS hls)
theorem r_gets2 {idx : Nat} (hX : Fx X G own cc nL d) (hd : decode cc pc = .ok (.getstatic idx, 3)) (hf : Cond.fieldLink own idx RX7 "MOST_OF_RULE" "[I" ∈ wsL_law) (kk : RR X G nL (pc + 3) lv (tf G 2 :: st) σ) : RR X G nL pc lv st σ :=
  fun H locs ls hP hS hls => va_gets hX.1 hX.2.1 hX.2.2.2.2.2.2.2.1.2.2.1.1 hS hX.2.2.2.1 (hX.2.2.2.2.1 _ hf) (fun _ h => h) hd (kk H locs ls hP hS hls)
theorem r_tald0 {i : Int32} {j : Nat} (hX : Fx X G own cc nL d) (hd : decode cc pc = .ok (.iaload, 1)) (hi : i = nI j) (hj : j < 6) (kk : RR X G nL (pc + 1) lv (.int (tb0.getD j 0) :: st) σ) : RR X G nL pc lv (.int i :: tf G 0 :: st) σ := by
  subst hi
  exact fun H locs ls hP hS hls => va_ti hX.1 hX.2.1 hX.2.2.2.2.2.2.2.1.1.2 hS (vp_in_nI hj (by omega)) (by rw [nI_clamp (by omega)]; rfl) hd (kk H locs ls hP hS hls)
theorem r_tald1 {i : Int32} {j : Nat} (hX : Fx X G own cc nL d) (hd : decode cc pc = .ok (.iaload, 1)) (hi : i = nI j) (hj : j < 4) (kk : RR X G nL (pc + 1) lv (.int (tb1.getD j 0) :: st) σ) : RR X G nL pc lv (.int i :: tf G 1 :: st) σ := by
  subst hi
  exact fun H locs ls hP hS hls => va_ti hX.1 hX.2.1 hX.2.2.2.2.2.2.2.1.2.1.2 hS (vp_in_nI hj (by omega)) (by rw [nI_clamp (by omega)]; rfl) hd (kk H locs ls hP hS hls)
theorem r_tald2 {i : Int32} {j : Nat} (hX : Fx X G own cc nL d) (hd : decode cc pc = .ok (.iaload, 1)) (hi : i = nI j) (hj : j < 4) (kk : RR X G nL (pc + 1) lv (.int (tb2.getD j 0) :: st) σ) : RR X G nL pc lv (.int i :: tf G 2 :: st) σ := by
  subst hi
  exact fun H locs ls hP hS hls => va_ti hX.1 hX.2.1 hX.2.2.2.2.2.2.2.1.2.2.1.2 hS (vp_in_nI hj (by omega)) (by rw [nI_clamp (by omega)]; rfl) hd (kk H locs ls hP hS hls)
/-- a constant text is loaded; a reference is answered -/
def sf (G : GM) (i : Nat) : Value := .ref (G.2.2.2.2.1 i)
theorem r_ldcS {idx i : Nat} (hX : Fx X G RX5 cc nL d) (hd : decode cc pc = .ok (.ldc idx, 2)) (hi : i < 14) (hk : kIdx.getD i 0 = idx) (kk : RR X G nL (pc + 2) lv (sf G i :: st) σ) : RR X G nL pc lv st σ := by
  subst hk
  exact fun H locs ls hP hS hls => va_ldcS hX.1 hX.2.1 hX.2.2.2.1 (hX.2.2.2.2.2.2.2.1.2.2.2.2.2.1 i hi) hd (kk H locs ls hP hS hls)
theorem r_aret {Q : Option Value → SG → Prop} {v : Value} {C : String} (hX : Fx X G own cc nL d) (hZ : MZ X G (some (.object C)) Q) (hd : decode cc pc = .ok (.areturn, 1)) (hr : ∃ a : Nat, v = .ref a) (hq : Q (some v) σ) : RR X G nL pc lv [v] σ := by
  intro H locs ls hP hS hls
  rw [hZ.1]
  exact W.aret hX.1 hX.2.1 hZ.2.1 (Or.inl ⟨_, rfl⟩) (Or.inr hr) (fun t ht _ => ⟨_, σ, rfl, hq, by rw [ht]; exact hP, hS.F ht⟩) hS.2.2 hd hZ.2.2
end RRC
