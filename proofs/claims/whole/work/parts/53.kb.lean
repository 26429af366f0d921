/-! constructors: a world that grows; cell k lies at ad k and holds c k -/
def up {α : Type} (f : Nat → α) (k : Nat) (v : α) : Nat → α := fun j => if j = k then v else f j
theorem up_s {α : Type} {f : Nat → α} {k : Nat} {v : α} : up f k v k = v := if_pos rfl
theorem up_n {α : Type} {f : Nat → α} {k j : Nat} {v : α} (h : j ≠ k) : up f k v j = f j := if_neg h
def cw (ad : Nat → Nat) (n : Nat) (c : Nat → va_E) : va_W := (List.range n).map (fun k => (ad k, c k))
theorem cw_at {ad : Nat → Nat} {n k : Nat} {c : Nat → va_E} (h : k < n) : (cw ad n c)[k]? = some (ad k, c k) := by simp [cw, h]
theorem cw_len {ad : Nat → Nat} {n : Nat} {c : Nat → va_E} : (cw ad n c).length = n := by simp [cw]
theorem cw_set {ad : Nat → Nat} {n k : Nat} {c : Nat → va_E} {e : va_E} (h : k < n) : (cw ad n c).set k (ad k, e) = cw ad n (up c k e) := by
  apply List.ext_getElem?
  intro i
  by_cases hi : i < n
  · by_cases e : i = k
    · subst e
      rw [List.getElem?_set_self (by rw [cw_len]; exact hi), cw_at hi, up_s]
    · rw [List.getElem?_set_ne (Ne.symm e), cw_at hi, cw_at hi, up_n e]
  · rw [List.getElem?_eq_none (by rw [List.length_set, cw_len]; omega), List.getElem?_eq_none (by rw [cw_len]; omega)]
theorem cw_push {ad : Nat → Nat} {n q : Nat} {c : Nat → va_E} {e : va_E} : cw ad n c ++ [(q, e)] = cw (up ad n q) (n + 1) (up c n e) := by
  apply List.ext_getElem?
  intro i
  by_cases hi : i < n
  · rw [List.getElem?_append_left (by rw [cw_len]; exact hi), cw_at hi, cw_at (by omega), up_n (by omega), up_n (by omega)]
  · by_cases e : i = n
    · subst e
      rw [List.getElem?_append_right (by rw [cw_len]; exact Nat.le_refl _), cw_at (by omega), up_s, up_s, cw_len, Nat.sub_self]
      rfl
    · rw [List.getElem?_eq_none (by rw [List.length_append, cw_len]; simp only [List.length_cons, List.length_nil]; omega), List.getElem?_eq_none (by rw [cw_len]; omega)]
theorem cw_congr {ad ad' : Nat → Nat} {n : Nat} {c c' : Nat → va_E} (h : ∀ k, k < n → ad k = ad' k ∧ c k = c' k) : cw ad n c = cw ad' n c' := by
  unfold cw
  apply List.map_congr_left
  intro k hk
  have := h k (List.mem_range.mp hk)
  rw [this.1, this.2]
/-- what the constructors take of the constants -/
def KB (G : GM) (U : State) : Prop := (∀ q ∈ nestL, va_Nw (.methodLinkNest q.1 q.2.1 q.2.2 RX7) U) ∧ (va_AO RX0 U ∧ va_AO RX1 U ∧ va_AO RX2 U ∧ va_AO RX4 U) ∧ ∀ q, U.heap.size ≤ q → G.2.2.2.1 q
theorem KB.moved {G : GM} {s U : State} (h : KB G s) (hz : s.heap.size ≤ U.heap.size) (hW : s.WarmedH U.vm) : KB G U :=
  ⟨fun q hq => va_Nw.warmM hW (h.1 q hq), ⟨h.2.1.1.moved hW.alike, h.2.1.2.1.moved hW.alike, h.2.1.2.2.1.moved hW.alike, h.2.1.2.2.2.moved hW.alike⟩, fun q hq => h.2.2 q (Nat.le_trans hz hq)⟩
def RC (X : CX) (G : GM) (nL kc ks n : Nat) (ad : Nat → Nat) (c : Nat → va_E) (pc : Nat) (lv : LVs) (st : List Value) : Prop :=
  ∀ (H : Heap) (locs : List Loc) (ls : Array Slot), va_P G.1 vwCl (cw ad n c) H → va_D G.2.2.2.1 (cw ad n c) → va_S G.2.2.2.1 X.2.2.2.2.1.heap H locs → lh ls nL lv →
    W X.1 X.2.1 X.2.2.1 X.2.2.2.1 X.2.2.2.2.1 X.2.2.2.2.2.1 X.2.2.2.2.2.2.1 X.2.2.2.2.2.2.2.1 X.2.2.2.2.2.2.2.2.1 X.2.2.2.2.2.2.2.2.2.1 H locs kc ks X.2.2.2.2.2.2.2.2.2.2.2.2 (F0 X.2.2.2.2.2.1 pc ls st)
def FC (X : CX) (G : GM) (own : String) (cc : ByteArray) (nL d mc ms : Nat) : Prop :=
  X.1.tables.exec = Jvm.exec ∧ X.2.2.2.2.2.2.2.2.2.1.code = cc ∧ X.2.2.2.2.2.2.2.2.2.1.maxLocals = nL ∧ X.2.2.2.2.1.vm.findClass own = some X.2.2.2.2.2.1.cls ∧
  (∀ w ∈ wsL_law, w.before X.2.2.2.2.2.2.1 X.2.2.2.2.1 = true) ∧ va_K G.1 vwCl (ty5 G) X.2.2.2.2.1 ∧ KB G X.2.2.2.2.1 ∧
  d ≤ X.2.2.2.1.frames ∧ 40 * d ≤ X.2.2.2.1.locals ∧ mc ≤ X.2.2.2.1.cells ∧ ms ≤ X.2.2.2.1.slots
def QN (G : GM) (n' : Nat) (Q : (Nat → Nat) → (Nat → va_E) → Prop) : Array Value → State → Outcome → State → Prop := fun _ st oc t =>
  ∃ (ad' : Nat → Nat) (c' : Nat → va_E), oc = .returned none ∧ Q ad' c' ∧ va_P G.1 vwCl (cw ad' n' c') t.heap ∧ va_D G.2.2.2.1 (cw ad' n' c') ∧ va_F G.2.2.2.1 st t
def PN (G : GM) (n : Nat) (ad : Nat → Nat) (c : Nat → va_E) (U : State) : Prop := va_P G.1 vwCl (cw ad n c) U.heap ∧ va_D G.2.2.2.1 (cw ad n c) ∧ va_K G.1 vwCl (ty5 G) U ∧ KB G U
def MC (X : CX) (G : GM) (mc ms n' : Nat) (Q : (Nat → Nat) → (Nat → va_E) → Prop) : Prop :=
  X.2.2.2.2.2.2.2.2.2.2.2.2 = MQ X.2.2.2.2.2.2.2.1 (QN G n' Q) X.2.2.2.2.2.2.1 X.2.2.2.2.1 mc ms G.2.2.2.1 ∧ X.2.2.2.2.2.2.2.2.1.sig.returnType = none ∧ X.2.2.2.2.2.2.2.2.1.locks = false
/-- a constructor's contract -/
def CC (G : GM) (y : MethodName) (cc : ByteArray) (maxL d mc ms : Nat) (av : List Value) (n : Nat) (ad : Nat → Nat) (c : Nat → va_E) (n' : Nat) (Q : (Nat → Nat) → (Nat → va_E) → Prop) : Prop :=
  ∀ l : Launch, Met l y (Cond.code y cc maxL none :: wsL_law) { frames := d, cells := mc, slots := ms, locals := 40 * d } (va_Pc av (PN G n ad c)) (QN G n' Q) mc ms G.2.2.2.1
theorem CC.of {G : GM} {y : MethodName} {cc : ByteArray} {maxL d mc ms n n' k : Nat} {av : List Value} {ad : Nat → Nat} {c : Nat → va_E} {Q : (Nat → Nat) → (Nat → va_E) → Prop} (hy : CD y cc maxL none k) (hav : (lg_sl av).length ≤ maxL)
    (h : ∀ X : CX, FC X G y.cls cc maxL d mc ms → MC X G mc ms n' Q → X.2.2.2.2.2.2.2.2.1.name = y.name → RC X G maxL 0 0 n ad c 0 (ll (lv_args 0 av)) []) : CC G y cc maxL d mc ms av n ad c n' Q := by
  intro l
  refine Met.ofW (cc := cc) (maxL := maxL) (ret := none) hy.2.2.2.2 rfl ?_
  intro p e s m args below meth cd s₁ B hml hv
  obtain ⟨rfl, hP, hD, hK, hB⟩ := hv
  have hts := atoms_spec (ws := Cond.code y cc maxL none :: wsL_law) B.pre
  have hown : s.vm.findClass y.cls = some m.cls := findClass_of_methodNamed B.named
  rw [lg_entry_eq]
  exact h (p, l, e, (headSpec (Cond.code y cc maxL none :: wsL_law) { frames := d, cells := mc, slots := ms, locals := 40 * d }).room, s, m, av.toArray, below, meth, cd, 0, 0, MQ below (QN G n' Q) av.toArray s mc ms G.2.2.2.1)
    ⟨B.exec, B.bytes, hml, hown, fun w hw => hts w (List.mem_cons_of_mem _ hw), hK, hB, Nat.le_refl _, Nat.le_refl _, Nat.le_refl _, Nat.le_refl _⟩ ⟨rfl, B.returns, B.notSynchronized⟩ (name_of_methodNamed B.named B.method).1 _ _ _ hP hD va_S.rf (lh_of (lv_entry av hav))
section KRS
variable {X : CX} {G : GM} {own : String} {cc : ByteArray} {nL d mc ms kc ks n pc : Nat} {ad : Nat → Nat} {c : Nat → va_E} {lv : LVs} {st : List Value}
theorem RC.go {b : Nat} (h : pc = b) (k : RC X G nL kc ks n ad c b lv st) : RC X G nL kc ks n ad c pc lv st := h ▸ k
theorem RC.eqc {c' : Nat → va_E} (h : c = c') (k : RC X G nL kc ks n ad c' pc lv st) : RC X G nL kc ks n ad c pc lv st := h ▸ k
theorem RC.wid {kc' ks' : Nat} (h1 : kc ≤ kc') (h2 : ks ≤ ks') (k : RC X G nL kc' ks' n ad c pc lv st) : RC X G nL kc ks n ad c pc lv st := fun H locs ls hP hD hS hl => W.widen h1 h2 (k H locs ls hP hD hS hl)
theorem RC.cut {l : List (Nat × Value)} (k : RC X G nL kc ks n ad c pc (ll l) st) (h : ∀ q ∈ l, lv q.1 = some q.2) : RC X G nL kc ks n ad c pc lv st := fun H locs ls hP hD hS hl => k H locs ls hP hD hS ⟨hl.1, hl.2.1, fun i v hi => hl.2.2 i v (ll_sub h i v hi)⟩
theorem k_iconst {z : Int} {v : Int32} (hX : FC X G own cc nL d mc ms) (hd : decode cc pc = .ok (.iconst z, 1)) (hv : Int32.ofInt z = v) (kk : RC X G nL kc ks n ad c (pc + 1) lv (.int v :: st)) : RC X G nL kc ks n ad c (pc) lv (st) :=
  fun H locs ls hP hD hS hl => lv_iconst hX.1 hX.2.1 hd hv (kk H locs ls hP hD hS hl)
theorem k_bipush {z : Int} {v : Int32} (hX : FC X G own cc nL d mc ms) (hd : decode cc pc = .ok (.bipush z, 2)) (hv : (Int8.ofInt z).toInt32 = v) (kk : RC X G nL kc ks n ad c (pc + 2) lv (.int v :: st)) : RC X G nL kc ks n ad c (pc) lv (st) :=
  fun H locs ls hP hD hS hl => lv_bipush hX.1 hX.2.1 hd hv (kk H locs ls hP hD hS hl)
theorem k_sipush {z : Int} {v : Int32} (hX : FC X G own cc nL d mc ms) (hd : decode cc pc = .ok (.sipush z, 3)) (hv : (Int16.ofInt z).toInt32 = v) (kk : RC X G nL kc ks n ad c (pc + 3) lv (.int v :: st)) : RC X G nL kc ks n ad c (pc) lv (st) :=
  fun H locs ls hP hD hS hl => lv_sipush hX.1 hX.2.1 hd hv (kk H locs ls hP hD hS hl)
theorem k_dup {va : Value} (hX : FC X G own cc nL d mc ms) (hd : decode cc pc = .ok (.dup, 1)) (hva : va.category = 1) (kk : RC X G nL kc ks n ad c (pc + 1) lv (va :: va :: st)) : RC X G nL kc ks n ad c (pc) lv (va :: st) :=
  fun H locs ls hP hD hS hl => lv_dup hX.1 hX.2.1 hd hva (kk H locs ls hP hD hS hl)
theorem k_iload_n {k : Fin 4} {x : Int32} (hX : FC X G own cc nL d mc ms) (hd : decode cc pc = .ok (.iload_n k, 1)) (h : lv (k : Nat) = some (.int x)) (kk : RC X G nL kc ks n ad c (pc + 1) lv (.int x :: st)) : RC X G nL kc ks n ad c (pc) lv (st) :=
  fun H locs ls hP hD hS hl => lv_iload_n hX.1 hX.2.1 hd rfl (hl.2.2 _ _ h) (kk H locs ls hP hD hS hl)
theorem k_aload_n {k : Fin 4} {v : Value} (hX : FC X G own cc nL d mc ms) (hd : decode cc pc = .ok (.aload_n k, 1)) (h : lv (k : Nat) = some v) (hr : ∃ a : Nat, v = .ref a) (kk : RC X G nL kc ks n ad c (pc + 1) lv (v :: st)) : RC X G nL kc ks n ad c (pc) lv (st) := by
  obtain ⟨a, rfl⟩ := hr
  exact fun H locs ls hP hD hS hl => lv_aload_n hX.1 hX.2.1 hd rfl (hl.2.2 _ _ h) (kk H locs ls hP hD hS hl)
theorem k_istore_n {k : Fin 4} {x : Int32} (hX : FC X G own cc nL d mc ms) (hd : decode cc pc = .ok (.istore_n k, 1)) (hn : (k : Nat) < nL) (kk : RC X G nL kc ks n ad c (pc + 1) (lu lv k (.int x)) (st)) : RC X G nL kc ks n ad c (pc) lv (.int x :: st) :=
  fun H locs ls hP hD hS hl => lv_istore_n hX.1 hX.2.1 hd rfl (lh_to hl) hn rfl (fun ls' h' => kk H locs ls' hP hD hS (lh_lu hl h'))
theorem k_astore_n {k : Fin 4} {v : Value} (hX : FC X G own cc nL d mc ms) (hd : decode cc pc = .ok (.astore_n k, 1)) (hn : (k : Nat) < nL) (hr : ∃ a : Nat, v = .ref a) (kk : RC X G nL kc ks n ad c (pc + 1) (lu lv k v) (st)) : RC X G nL kc ks n ad c (pc) lv (v :: st) := by
  obtain ⟨a, rfl⟩ := hr
  exact fun H locs ls hP hD hS hl => lv_astore_n hX.1 hX.2.1 hd rfl (lh_to hl) hn rfl (fun ls' h' => kk H locs ls' hP hD hS (lh_lu hl h'))
theorem k_iinc {i : Nat} {z : Int} {x v : Int32} (hX : FC X G own cc nL d mc ms) (hd : decode cc pc = .ok (.iinc i z, 3)) (h : lv i = some (.int x)) (hn : i < nL) (hv : x + Int32.ofInt z = v) (kk : RC X G nL kc ks n ad c (pc + 3) (lu lv i (.int v)) (st)) : RC X G nL kc ks n ad c (pc) lv (st) := by
  intro H locs ls hP hD hS hl
  have hm : (i, Value.int x) ∈ (List.range nL).filterMap (fun i => (lv i).map (fun v => (i, v))) := List.mem_filterMap.mpr ⟨i, List.mem_range.mpr hn, by rw [h]; rfl⟩
  obtain ⟨k, hk⟩ := List.getElem?_of_mem hm
  exact lv_iinc hX.1 hX.2.1 hd (lh_to hl) hk hv hn rfl (fun ls' h' => kk H locs ls' hP hD hS (lh_lu hl h'))
theorem k_goto {off : Int} {tgt : Nat} (hX : FC X G own cc nL d mc ms) (hd : decode cc pc = .ok (.goto off, 3)) (ht : (pc : Int) + off = (tgt : Int)) (kk : RC X G nL kc ks n ad c (tgt) lv (st)) : RC X G nL kc ks n ad c (pc) lv (st) :=
  fun H locs ls hP hD hS hl => lv_goto hX.1 hX.2.1 hd ht (kk H locs ls hP hD hS hl)
theorem k_icmp_ge {x y : Int32} {off : Int} {tgt : Nat} (hX : FC X G own cc nL d mc ms) (hd : decode cc pc = .ok (.if_icmp .ge off, 3)) (ht : (pc : Int) + off = (tgt : Int)) (kt : y ≤ x → RC X G nL kc ks n ad c (tgt) lv (st)) (kf : ¬ y ≤ x → RC X G nL kc ks n ad c (pc + 3) lv (st)) : RC X G nL kc ks n ad c (pc) lv (.int y :: .int x :: st) :=
  fun H locs ls hP hD hS hl => lv_icmp_ge hX.1 hX.2.1 hd ht (fun h => kt h H locs ls hP hD hS hl) (fun h => kf h H locs ls hP hD hS hl)
theorem k_ldc {idx : Nat} {v : Int32} (hX : FC X G own cc nL d mc ms) (hd : decode cc pc = .ok (.ldc idx, 2)) (hk : KL own idx v) (kk : RC X G nL kc ks n ad c (pc + 2) lv (.int v :: st)) : RC X G nL kc ks n ad c (pc) lv (st) :=
  fun H locs ls hP hD hS hl => lv_ldc hX.1 hX.2.1 hX.2.2.2.1 (hX.2.2.2.2.1 _ hk) hd (kk H locs ls hP hD hS hl)
theorem k_obj {idx a : Nat} (hX : FC X G own cc nL d mc ms) (h1 : 1 ≤ d) (hd : decode cc pc = .ok (.invokespecial idx, 3)) (hm : ML own idx objectInit) (hcat : (st.map fun v => v.category).sum ≤ 8) (kk : RC X G nL kc ks n ad c (pc + 3) lv (st)) : RC X G nL kc ks n ad c (pc) lv (.ref a :: st) := by
  intro H locs ls hP hD hS hl
  have hfr := hX.2.2.2.2.2.2.2.1
  have hlo := hX.2.2.2.2.2.2.2.2.1
  exact W.objInit hX.1 hX.2.1 hX.2.2.2.1 (hX.2.2.2.2.1 _ hm) (hX.2.2.2.2.1 _ (wI_1 _ (List.mem_of_getElem? (i := 10) rfl))) (hX.2.2.2.2.1 _ (wI_1 _ (List.mem_of_getElem? (i := 11) rfl))) rfl (hl.1.trans hX.2.2.1.symm) rfl hd (by omega) (by have := lv_room (m := X.2.2.2.2.2.1) (pc := pc) (ls := ls) (rest := .ref a :: st) hcat; omega) (kk H locs ls hP hD hS hl)
theorem k_get {a : Nat} {idx ci j k : Nat} {fs : List Value} {v : Value} (hX : FC X G own cc nL d mc ms) (hd : decode cc pc = .ok (.getfield idx, 3)) (hf : FL own idx ci j) (ha : ad k = a) (hk : k < n) (hc : c k = .inr (ci, fs)) (hj : fs[j]? = some v) (kk : RC X G nL kc ks n ad c (pc + 3) lv (v :: st)) : RC X G nL kc ks n ad c (pc) lv (.ref a :: st) := by
  subst ha
  intro H locs ls hP hD hS hls
  obtain ⟨C, T, N, h1, h2, h3⟩ := hf
  exact va_get (D := G.1) (ci := ci) (C := C) (T := T) (N := N) hX.1 hX.2.1 hX.2.2.2.2.1 (inlAll h1) hX.2.2.2.1 hX.2.2.2.2.2.1 hP k (by rw [cw_at hk, hc]) h1 j h2 (hX.2.2.2.2.1 _ h3) (fun _ h9 => h9) (v := v) hj hd (kk H locs ls hP hD hS hls)
/-- a field is written (a final one, in its own constructor) -/
def FU (ci j : Nat) (own : String) (fin : Bool) (ty : FieldType) : Prop := ∀ (C : String) (T : u_T) (N : Nat), vwCl[ci]? = some (C, T, N) → (T j).2.2.2 = fin ∧ (T j).1 = own ∧ parseFieldDescriptor (T j).2.2.1 = some ty
theorem k_put {a : Nat} {idx ci j k : Nat} {fs : List Value} {v : Value} {fin : Bool} {ty : FieldType} (hX : FC X G own cc nL d mc ms) (hN : X.2.2.2.2.2.2.2.2.1.name = "<init>") (hd : decode cc pc = .ok (.putfield idx, 3)) (hf : FL own idx ci j) (hu : FU ci j own fin ty) (ha : ad k = a) (hk : k < n) (hc : c k = .inr (ci, fs)) (hj : j < fs.length) (hn : narrow ty v = v) (hfit : fits ty v = true) (kk : RC X G nL kc ks n ad (up c k (.inr (ci, fs.set j v))) (pc + 3) lv st) : RC X G nL kc ks n ad c (pc) lv (v :: .ref a :: st) := by
  subst ha
  intro H locs ls hP hD hS hls
  obtain ⟨C, T, N, h1, h2, h3⟩ := hf
  obtain ⟨t, htt⟩ := tyAll h1
  obtain ⟨hfin, hdec, hdesc⟩ := hu C T N h1
  have go : ∀ (H1 : Heap) (locs1 : List Loc), va_P G.1 vwCl ((cw ad n c).set k (ad k, .inr (ci, fs.set j v))) H1 → va_D G.2.2.2.1 ((cw ad n c).set k (ad k, .inr (ci, fs.set j v))) → va_S G.2.2.2.1 X.2.2.2.2.1.heap H1 locs1 → W X.1 X.2.1 X.2.2.1 X.2.2.2.1 X.2.2.2.2.1 X.2.2.2.2.2.1 X.2.2.2.2.2.2.1 X.2.2.2.2.2.2.2.1 X.2.2.2.2.2.2.2.2.1 X.2.2.2.2.2.2.2.2.2.1 H1 locs1 kc ks X.2.2.2.2.2.2.2.2.2.2.2.2 (F0 X.2.2.2.2.2.1 (pc + 3) ls st) := by
    intro H1 locs1 hP1 hD1 hS1
    rw [cw_set hk] at hP1 hD1
    exact kk H1 locs1 ls hP1 hD1 hS1 hls
  cases fin with
  | true => exact va_putF (D := G.1) (ci := ci) (C := C) (T := T) (N := N) (v := v) hX.1 hX.2.1 hX.2.2.2.2.1 (inlAll h1) t htt (nmAll h1) hX.2.2.2.1 hX.2.2.2.2.2.1 hP hD hS k (by rw [cw_at hk, hc]) h1 j h2 (hX.2.2.2.2.1 _ h3) (fun _ h9 => h9) hfin hN hdec hdesc hn hfit hj hd go
  | false => exact va_put (D := G.1) (ci := ci) (C := C) (T := T) (N := N) (v := v) hX.1 hX.2.1 hX.2.2.2.2.1 (inlAll h1) t htt (nmAll h1) hX.2.2.2.1 hX.2.2.2.2.2.1 hP hD hS k (by rw [cw_at hk, hc]) h1 j h2 (hX.2.2.2.2.1 _ h3) (fun _ h9 => h9) hfin hdesc hn hfit hj hd go
theorem k_newi {N : Nat} {x : Int32} (hX : FC X G own cc nL d mc ms) (hd : decode cc pc = .ok (.newarray .int, 2)) (hx : x = nI N) (hN : N < 10000) (h1 : kc + 1 ≤ mc) (h2 : ks + N ≤ ms) (kk : ∀ q, RC X G nL (kc + 1) (ks + N) (n + 1) (up ad n q) (up c n (.inl (G.2.1 0, N, .inl (fun _ => 0)))) (pc + 2) lv (.ref q :: st)) : RC X G nL kc ks n ad c (pc) lv (.int x :: st) := by
  intro H locs ls hP hD hS hls
  subst hx
  have hcl := hX.2.2.2.2.2.2.2.2.2.1
  have hsl := hX.2.2.2.2.2.2.2.2.2.2
  refine va_newa (D := G.1) (cl := vwCl) (tys := ty5 G) (atype := .int) (ty := .int) (a0 := (N, .inl (fun _ => 0))) hX.1 hX.2.1 (hX.2.2.2.2.1 _ (wI_1 _ (List.mem_of_getElem? (i := 14) rfl))) rfl hX.2.2.2.2.2.1 hP hD hS hX.2.2.2.2.2.2.1.2.2 (fun cA => rfl) (nI_pos (by omega)) (nI_clamp (by omega)) (by show N * 4 ≤ _; omega) (by omega) (by omega) hd ?_
  intro q cA H1 hK1 hP1 hD1 hS1
  have e0 : cA = G.2.1 0 := by
    have a1 := (hX.2.2.2.2.2.1.2 0 _ rfl).2
    have a2 := (hK1.2 5 (cA, .int) rfl).2
    exact Option.some.inj (a2.symm.trans a1)
  subst e0
  rw [cw_push] at hP1 hD1
  exact kk q H1 locs ls hP1 hD1 hS1 hls
theorem k_newq {N t idx : Nat} {C : String} {x : Int32} (hX : FC X G own cc nL d mc ms) (hd : decode cc pc = .ok (.anewarray idx, 3)) (hl : Cond.classLink own idx C ∈ wsL_law) (ho : va_AO C X.2.2.2.2.1) (ht : (ty5 G)[t]? = some (G.2.1 t, .object C)) (hx : x = nI N) (hN : N < 10000) (h1 : kc + 1 ≤ mc) (h2 : ks + N ≤ ms) (kk : ∀ q, RC X G nL (kc + 1) (ks + N) (n + 1) (up ad n q) (up c n (.inl (G.2.1 t, N, .inr (.inr (.inr (.inr (fun _ => none))))))) (pc + 3) lv (.ref q :: st)) : RC X G nL kc ks n ad c (pc) lv (.int x :: st) := by
  intro H locs ls hP hD hS hls
  subst hx
  have hcl := hX.2.2.2.2.2.2.2.2.2.1
  have hsl := hX.2.2.2.2.2.2.2.2.2.2
  refine va_newq (D := G.1) (cl := vwCl) (tys := ty5 G) (C := C) hX.1 hX.2.1 hX.2.2.2.1 (hX.2.2.2.2.1 _ hl) ho hX.2.2.2.2.2.1 hP hD hS hX.2.2.2.2.2.2.1.2.2 (nI_pos (by omega)) (nI_clamp (by omega)) (by omega) (by omega) (by omega) hd ?_
  intro q cA H1 hK1 hP1 hD1 hS1
  have e0 : cA = G.2.1 t := by
    obtain ⟨_, _, _, _, _, a1⟩ := (hX.2.2.2.2.2.1.2 t _ ht).2
    obtain ⟨_, _, _, _, _, a2⟩ := (hK1.2 5 (cA, .object C) rfl).2
    exact Option.some.inj (a2.symm.trans a1)
  subst e0
  rw [cw_push] at hP1 hD1
  exact kk q H1 locs ls hP1 hD1 hS1 hls
theorem k_new {ci N idx : Nat} {C : String} {T : u_T} {fs : List Value} (ty : Nat → FieldType) (hX : FC X G own cc nL d mc ms) (hd : decode cc pc = .ok (.new idx, 3)) (hl : Cond.classLink own idx C ∈ wsL_law) (hi : Cond.instantiable C N ∈ wsL_law) (hini : Cond.initialized C ∈ wsL_law) (hc : vwCl[ci]? = some (C, T, N)) (hty : ∀ k, k < N → parseFieldDescriptor (T k).2.2.1 = some (ty k)) (hfs : ∀ j, j < N → defaultValue (ty j) = vp_V fs j) (h1 : kc + 1 ≤ mc) (h2 : ks + N ≤ ms) (kk : ∀ q, RC X G nL (kc + 1) (ks + N) (n + 1) (up ad n q) (up c n (.inr (ci, fs))) (pc + 3) lv (.ref q :: st)) : RC X G nL kc ks n ad c (pc) lv (st) := by
  intro H locs ls hP hD hS hls
  have hcl := hX.2.2.2.2.2.2.2.2.2.1
  have hsl := hX.2.2.2.2.2.2.2.2.2.2
  refine va_new (D := G.1) (cl := vwCl) (tys := ty5 G) (ci := ci) (fs := fs) (C := C) (T := T) (N := N) hX.1 hX.2.1 hX.2.2.2.2.1 (inlAll hc) ty hty hX.2.2.2.1 (hX.2.2.2.2.1 _ hl) (hX.2.2.2.2.1 _ hi) (hX.2.2.2.2.1 _ hini) hX.2.2.2.2.2.1 hP hD hS hX.2.2.2.2.2.2.1.2.2 hc hfs (by omega) (by omega) hd ?_
  intro q H1 hP1 hD1 hS1
  rw [cw_push] at hP1 hD1
  exact kk q H1 locs ls hP1 hD1 hS1 hls
theorem k_astq {a av : Nat} {k kv ci t N j : Nat} {C : vw_C} {vs : List Value} {f : Nat → Option Nat} {i : Int32} (hX : FC X G own cc nL d mc ms) (hd : decode cc pc = .ok (.aastore, 1)) (ha : ad k = a) (hk : k < n) (hc : c k = .inl (G.2.1 t, N, .inr (.inr (.inr (.inr f))))) (ht : (ty5 G)[t]? = some (G.2.1 t, .object C.1)) (hav : ad kv = av) (hkv : kv < n) (hcv : c kv = .inr (ci, vs)) (hC : vwCl[ci]? = some C) (hi : i = nI j) (hj : j < N) (hN : N < 10000) (kk : RC X G nL kc ks n ad (up c k (.inl (G.2.1 t, N, .inr (.inr (.inr (.inr (va_up f j (some av)))))))) (pc + 1) lv st) : RC X G nL kc ks n ad c (pc) lv (.ref av :: .int i :: .ref a :: st) := by
  subst ha
  subst hav
  intro H locs ls hP hD hS hls
  subst hi
  refine va_astq (D := G.1) (cl := vwCl) (tys := ty5 G) hX.1 hX.2.1 hX.2.2.2.2.2.1 hP hD hS k t kv ci (by rw [cw_at hk, hc]) ht (by rw [cw_at hkv, hcv]) hC (vp_in_nI hj (by omega)) hd ?_
  intro H1 locs1 hP1 hD1 hS1
  rw [nI_clamp (by omega), cw_set hk] at hP1 hD1
  exact kk H1 locs1 ls hP1 hD1 hS1 hls
theorem k_iast {a : Nat} {k N j : Nat} {f : Nat → Int32} {i x : Int32} (hX : FC X G own cc nL d mc ms) (hd : decode cc pc = .ok (.iastore, 1)) (ha : ad k = a) (hk : k < n) (hc : c k = .inl (G.2.1 0, N, .inl f)) (hi : i = nI j) (hj : j < N) (hN : N < 10000) (kk : RC X G nL kc ks n ad (up c k (.inl (G.2.1 0, N, .inl (upd f j x)))) (pc + 1) lv st) : RC X G nL kc ks n ad c (pc) lv (.int x :: .int i :: .ref a :: st) := by
  subst ha
  intro H locs ls hP hD hS hls
  subst hi
  refine va_iast (D := G.1) (cl := vwCl) (tys := ty5 G) hX.1 hX.2.1 hX.2.2.2.2.2.1 hP hD hS k 0 (by rw [cw_at hk, hc]) rfl (vp_in_nI hj (by omega)) hd ?_
  intro H1 locs1 hP1 hD1 hS1
  rw [nI_clamp (by omega), cw_set hk] at hP1 hD1
  exact kk H1 locs1 ls hP1 hD1 hS1 hls
theorem k_alen {a : Nat} {k N : Nat} {f : Nat → Int32} (hX : FC X G own cc nL d mc ms) (hd : decode cc pc = .ok (.arraylength, 1)) (ha : ad k = a) (hk : k < n) (hc : c k = .inl (G.2.1 0, N, .inl f)) (kk : RC X G nL kc ks n ad c (pc + 1) lv (.int (nI N) :: st)) : RC X G nL kc ks n ad c (pc) lv (.ref a :: st) := by
  subst ha
  intro H locs ls hP hD hS hls
  exact va_alen (D := G.1) (cl := vwCl) (tys := ty5 G) hX.1 hX.2.1 hX.2.2.2.2.2.1 hP k 0 (show (cw ad n c)[k]? = some (ad k, .inl (G.2.1 0, N, .inl f)) by rw [cw_at hk, hc]) rfl rfl hd (kk H locs ls hP hD hS hls)
theorem k_ret {n0 n' : Nat} {Q : (Nat → Nat) → (Nat → va_E) → Prop} (hX : FC X G own cc nL d mc ms) (hZ : MC X G mc ms n' Q) (hd : decode cc pc = .ok (.return_, 1)) (h1 : kc ≤ mc) (h2 : ks ≤ ms) (hn : n = n') (hq : Q ad c) : RC X G nL kc ks n ad c pc lv [] := by
  intro H locs ls hP hD hS hls
  subst hn
  rw [hZ.1]
  refine W.widen h1 h2 ?_
  exact W.vret hX.1 hX.2.1 hZ.2.1 (fun t ht _ => ⟨ad, c, rfl, hq, by rw [ht]; exact hP, hD, hS.F ht⟩) hS.2.2 hd hZ.2.2
/-- behind a call -/
theorem k_after {n' mc' ms' : Nat} {Q : (Nat → Nat) → (Nat → va_E) → Prop} {st0 : List Value} {H : Heap} {locs : List Loc} {ls : Array Slot} (hS : va_S G.2.2.2.1 X.2.2.2.2.1.heap H locs) (hls : lh ls nL lv) {a : Array Value}
    (hr : va_Run X.1 X.2.1 X.2.2.1 X.2.2.2.1 X.2.2.2.2.1 X.2.2.2.2.2.1 X.2.2.2.2.2.2.1 X.2.2.2.2.2.2.2.1 X.2.2.2.2.2.2.2.2.1 X.2.2.2.2.2.2.2.2.2.1 H locs kc ks mc' ms' (F0 X.2.2.2.2.2.1 pc ls st0) st (QN G n' Q a) G.2.2.2.1)
    (kk : ∀ ad' c', Q ad' c' → RC X G nL (kc + mc') (ks + ms') n' ad' c' (pc + 3) lv st) :
    W X.1 X.2.1 X.2.2.1 X.2.2.2.1 X.2.2.2.2.1 X.2.2.2.2.2.1 X.2.2.2.2.2.2.1 X.2.2.2.2.2.2.2.1 X.2.2.2.2.2.2.2.2.1 X.2.2.2.2.2.2.2.2.2.1 H locs kc ks X.2.2.2.2.2.2.2.2.2.2.2.2 (F0 X.2.2.2.2.2.1 pc ls st0) := by
  intro T hT hX
  obtain ⟨v, st₀, t, T', L, h0, X', hL, e1, e2, ⟨ad', c', hv, hq, hp, hdd, hz, hk⟩, go⟩ := hr T hT hX
  cases hv
  rw [h0] at hz hk
  have hS' : va_S G.2.2.2.1 X.2.2.2.2.1.heap T'.heap (locs ++ L) := by
    refine ⟨Nat.le_trans hS.1 (by rw [e1]; exact hz), fun q h1 h2 => ?_, fun q hq => ?_⟩
    · rw [e1, hk q (Nat.lt_of_lt_of_le h1 hS.1) h2]
      exact hS.2.1 q h1 h2
    · rcases List.mem_append.mp hq with h | h
      · exact hS.2.2 q h
      · exact hL q h
  obtain ⟨t2, a1, b1⟩ := kk ad' c' hq T'.heap (locs ++ L) ls (by rw [e1]; exact hp) hdd hS' hls T' rfl X'
  exact ⟨t2, go t2 a1, b1⟩
theorem pn_blind {G : GM} {n : Nat} {ad : Nat → Nat} {c : Nat → va_E} {av : List Value} : FrameBlind (va_Pc av (PN G n ad c)) := by
  intro a U g mk q
  obtain ⟨q0, qP, qD, qK, qB⟩ := q
  exact ⟨q0, qP, qD, va_K.moved (u := U) (U := U.calling g mk a) (Vm.Alike.refl U.vm) qK, fun q hq => (qB.1 q hq).same rfl rfl, ⟨qB.2.1.1.moved (Vm.Alike.refl U.vm), qB.2.1.2.1.moved (Vm.Alike.refl U.vm), qB.2.1.2.2.1.moved (Vm.Alike.refl U.vm), qB.2.1.2.2.2.moved (Vm.Alike.refl U.vm)⟩, qB.2.2⟩
theorem pn_at {s : State} {H : Heap} {locs : List Loc} {av : List Value} (hK : va_K G.1 vwCl (ty5 G) s) (hB : KB G s) (hP : va_P G.1 vwCl (cw ad n c) H) (hD : va_D G.2.2.2.1 (cw ad n c)) (hS : va_S G.2.2.2.1 s.heap H locs) : ∀ U : State, U.heap = H → s.WarmedH U.vm → va_Pc av (PN G n ad c) av.toArray U := fun U hU hW => ⟨rfl, by rw [hU]; exact hP, hD, va_K.moved hW.alike hK, hB.moved (by rw [hU]; exact hS.1) hW⟩
theorem k_callI {n' mc' ms' d' maxL na idx a : Nat} {y : MethodName} {cy : ByteArray} {Q : (Nat → Nat) → (Nat → va_E) → Prop} {As st0 : List Value} (hX : FC X G own cc nL d mc ms) (hd : decode cc pc = .ok (.invokespecial idx, 3)) (hm : ML own idx y) (hi : Cond.instanceMethod y ∈ wsL_law) (hy1 : y.name = "<init>") (hy : CD y cy maxL none na)
    (hc : CC G y cy maxL d' mc' ms' (.ref a :: As) n ad c n' Q) (hdd : d' + 1 ≤ d) (h1 : kc + mc' ≤ mc) (h2 : ks + ms' ≤ ms) (hn : As.length = na) (hst : st0 = As.reverse ++ .ref a :: st) (hcat : (st.map fun v => v.category).sum ≤ 8)
    (kk : ∀ ad' c', Q ad' c' → RC X G nL (kc + mc') (ks + ms') n' ad' c' (pc + 3) lv st) : RC X G nL kc ks n ad c pc lv st0 := by
  intro H locs ls hP hD hS hls
  subst hst
  have hfr := hX.2.2.2.2.2.2.2.1
  have hlo := hX.2.2.2.2.2.2.2.2.1
  have hcl := hX.2.2.2.2.2.2.2.2.2.1
  have hsl := hX.2.2.2.2.2.2.2.2.2.2
  refine k_after (Q := Q) hS hls (va_runI (As := As) (rest := st) (b := a) ⟨hX.1, hX.2.1, hX.2.2.1, hX.2.2.2.1, hX.2.2.2.2.1⟩ (hc X.2.1) (cwI na hX.2.2.2.2.1 (goodSub (l := []) hy (fun w hw => absurd hw List.not_mem_nil)) rfl rfl rfl (hX.2.2.2.2.1 _ hy.2.1) (hX.2.2.2.2.1 _ hm) (hX.2.2.2.2.1 _ hi) hy1 hy.2.2.1 ⟨by show d' + 1 ≤ _; omega, by have := hy.2.2.2.1; show 8 + (maxL + 11) + 40 * d' ≤ _; omega⟩) ⟨pn_blind, pn_at (av := .ref a :: As) hX.2.2.2.2.2.1 hX.2.2.2.2.2.2.1 hP hD hS⟩ rfl hn hls.1 rfl (lv_room hcat) hd ⟨by omega, by omega⟩) kk
theorem k_callIN {n' mc' ms' d' maxL na idx a : Nat} {y : MethodName} {cy : ByteArray} {Q : (Nat → Nat) → (Nat → va_E) → Prop} {As st0 : List Value} (hX : FC X G own cc nL d mc ms) (hd : decode cc pc = .ok (.invokespecial idx, 3)) (hm : (own, idx, y) ∈ nestL) (hi : Cond.instanceMethod y ∈ wsL_law) (hy1 : y.name = "<init>") (hy : CD y cy maxL none na)
    (hc : CC G y cy maxL d' mc' ms' (.ref a :: As) n ad c n' Q) (hdd : d' + 1 ≤ d) (h1 : kc + mc' ≤ mc) (h2 : ks + ms' ≤ ms) (hn : As.length = na) (hst : st0 = As.reverse ++ .ref a :: st) (hcat : (st.map fun v => v.category).sum ≤ 8)
    (kk : ∀ ad' c', Q ad' c' → RC X G nL (kc + mc') (ks + ms') n' ad' c' (pc + 3) lv st) : RC X G nL kc ks n ad c pc lv st0 := by
  intro H locs ls hP hD hS hls
  subst hst
  have hfr := hX.2.2.2.2.2.2.2.1
  have hlo := hX.2.2.2.2.2.2.2.2.1
  have hcl := hX.2.2.2.2.2.2.2.2.2.1
  have hsl := hX.2.2.2.2.2.2.2.2.2.2
  refine k_after (Q := Q) hS hls (va_runIN (As := As) (rest := st) (b := a) (host := RX7) ⟨hX.1, hX.2.1, hX.2.2.1, hX.2.2.2.1, hX.2.2.2.2.1⟩ (hc X.2.1) ⟨va_cnB na hX.2.2.2.2.1 (goodSub (l := []) hy (fun w hw => absurd hw List.not_mem_nil)) rfl rfl rfl (hX.2.2.2.2.2.2.1.1 (own, idx, y) hm) (hX.2.2.2.2.1 _ hy.2.1) hy.2.2.1 ⟨by show d' + 1 ≤ _; omega, by have := hy.2.2.2.1; show 8 + (maxL + 11) + 40 * d' ≤ _; omega⟩, hy1, hX.2.2.2.2.1 _ hi⟩ ⟨pn_blind, pn_at (av := .ref a :: As) hX.2.2.2.2.2.1 hX.2.2.2.2.2.2.1 hP hD hS⟩ rfl hn hls.1 rfl (lv_room hcat) hd ⟨by omega, by omega⟩) kk
theorem k_callS {n' mc' ms' d' maxL na idx : Nat} {y : MethodName} {cy : ByteArray} {Q : (Nat → Nat) → (Nat → va_E) → Prop} {As st0 : List Value} (hX : FC X G own cc nL d mc ms) (hd : decode cc pc = .ok (.invokestatic idx, 3)) (hm : ML own idx y) (hv : CS y) (hy : CD y cy maxL none na)
    (hc : CC G y cy maxL d' mc' ms' As n ad c n' Q) (hdd : d' + 1 ≤ d) (h1 : kc + mc' ≤ mc) (h2 : ks + ms' ≤ ms) (hn : As.length = na) (hst : st0 = As.reverse ++ st) (hcat : (st.map fun v => v.category).sum ≤ 8)
    (kk : ∀ ad' c', Q ad' c' → RC X G nL (kc + mc') (ks + ms') n' ad' c' (pc + 3) lv st) : RC X G nL kc ks n ad c pc lv st0 := by
  intro H locs ls hP hD hS hls
  subst hst
  have hfr := hX.2.2.2.2.2.2.2.1
  have hlo := hX.2.2.2.2.2.2.2.2.1
  have hcl := hX.2.2.2.2.2.2.2.2.2.1
  have hsl := hX.2.2.2.2.2.2.2.2.2.2
  refine k_after (Q := Q) hS hls (va_runS (As := As) (rest := st) (n := na) ⟨hX.1, hX.2.1, hX.2.2.1, hX.2.2.2.1, hX.2.2.2.2.1⟩ (hc X.2.1) (va_cwS na hX.2.2.2.2.1 ?_ rfl rfl rfl hy.2.2.1 ⟨by show d' + 1 ≤ _; omega, by have := hy.2.2.2.1; show 8 + (maxL + 11) + 40 * d' ≤ _; omega⟩) ⟨pn_blind, pn_at (av := As) hX.2.2.2.2.2.1 hX.2.2.2.2.2.2.1 hP hD hS⟩ rfl hn hls.1 rfl (lv_room hcat) hd ⟨by omega, by omega⟩) kk
  refine goodSub hy (fun w hw => ?_)
  simp only [List.mem_cons, List.not_mem_nil, or_false] at hw
  rcases hw with rfl | rfl | rfl
  · exact hm
  · exact hv
  · exact hy.2.1
end KRS
theorem kl_L_7 : Cond.classLink RL 7 RX7 ∈ wsL_law := wI_1 _ (List.mem_of_getElem? (i := 0) rfl)
theorem in_X7 : Cond.instantiable RX7 11 ∈ wsL_law := wI_1 _ (List.mem_of_getElem? (i := 1) rfl)
theorem ii_X7 : Cond.initialized RX7 ∈ wsL_law := wI_1 _ (List.mem_of_getElem? (i := 2) rfl)
theorem kl_L_10 : Cond.classLink RL 10 RX8 ∈ wsL_law := wI_1 _ (List.mem_of_getElem? (i := 3) rfl)
theorem in_X8 : Cond.instantiable RX8 31 ∈ wsL_law := wI_1 _ (List.mem_of_getElem? (i := 4) rfl)
theorem ii_X8 : Cond.initialized RX8 ∈ wsL_law := wI_1 _ (List.mem_of_getElem? (i := 5) rfl)
theorem cd_X7_init : CD yX7_init cX7_init 3 none 0 := ⟨wI_1 _ (List.mem_of_getElem? (i := 8) rfl), wI_1 _ (List.mem_of_getElem? (i := 2) rfl), by decide +kernel, by decide, by decide +kernel⟩
theorem im_X7_init : Cond.instanceMethod yX7_init ∈ wsL_law := wI_1 _ (List.mem_of_getElem? (i := 7) rfl)
theorem kl_X7_9 : Cond.classLink RX7 9 RX4 ∈ wsL_law := wI_1 _ (List.mem_of_getElem? (i := 12) rfl)
theorem in_X4 : Cond.instantiable RX4 5 ∈ wsL_law := wI_1 _ (List.mem_of_getElem? (i := 15) rfl)
theorem ii_X4 : Cond.initialized RX4 ∈ wsL_law := wI_1 _ (List.mem_of_getElem? (i := 16) rfl)
theorem kl_X7_18 : Cond.classLink RX7 18 RX3 ∈ wsL_law := wI_1 _ (List.mem_of_getElem? (i := 17) rfl)
theorem in_X3 : Cond.instantiable RX3 2 ∈ wsL_law := wI_1 _ (List.mem_of_getElem? (i := 18) rfl)
theorem ii_X3 : Cond.initialized RX3 ∈ wsL_law := wI_1 _ (List.mem_of_getElem? (i := 19) rfl)
theorem kl_X7_25 : Cond.classLink RX7 25 RX5 ∈ wsL_law := wI_1 _ (List.mem_of_getElem? (i := 21) rfl)
theorem in_X5 : Cond.instantiable RX5 5 ∈ wsL_law := wI_1 _ (List.mem_of_getElem? (i := 22) rfl)
theorem ii_X5 : Cond.initialized RX5 ∈ wsL_law := wI_1 _ (List.mem_of_getElem? (i := 23) rfl)
theorem kl_X7_34 : Cond.classLink RX7 34 RX6 ∈ wsL_law := wI_2 _ (List.mem_of_getElem? (i := 1) rfl)
theorem in_X6 : Cond.instantiable RX6 13 ∈ wsL_law := wI_2 _ (List.mem_of_getElem? (i := 2) rfl)
theorem ii_X6 : Cond.initialized RX6 ∈ wsL_law := wI_2 _ (List.mem_of_getElem? (i := 3) rfl)
theorem kl_X7_49 : Cond.classLink RX7 49 RX1 ∈ wsL_law := wI_2 _ (List.mem_of_getElem? (i := 7) rfl)
theorem in_X1 : Cond.instantiable RX1 3 ∈ wsL_law := wI_2 _ (List.mem_of_getElem? (i := 9) rfl)
theorem ii_X1 : Cond.initialized RX1 ∈ wsL_law := wI_2 _ (List.mem_of_getElem? (i := 10) rfl)
theorem kl_X7_56 : Cond.classLink RX7 56 RX2 ∈ wsL_law := wI_2 _ (List.mem_of_getElem? (i := 11) rfl)
theorem in_X2 : Cond.instantiable RX2 4 ∈ wsL_law := wI_2 _ (List.mem_of_getElem? (i := 13) rfl)
theorem ii_X2 : Cond.initialized RX2 ∈ wsL_law := wI_2 _ (List.mem_of_getElem? (i := 14) rfl)
theorem cd_X4_init : CD yX4_init cX4_init 2 none 1 := ⟨wI_2 _ (List.mem_of_getElem? (i := 18) rfl), wI_1 _ (List.mem_of_getElem? (i := 16) rfl), by decide +kernel, by decide, by decide +kernel⟩
theorem im_X4_init : Cond.instanceMethod yX4_init ∈ wsL_law := wI_2 _ (List.mem_of_getElem? (i := 17) rfl)
theorem cd_X3_init : CD yX3_init cX3_init 1 none 0 := ⟨wI_2 _ (List.mem_of_getElem? (i := 23) rfl), wI_1 _ (List.mem_of_getElem? (i := 19) rfl), by decide +kernel, by decide, by decide +kernel⟩
theorem im_X3_init : Cond.instanceMethod yX3_init ∈ wsL_law := wI_2 _ (List.mem_of_getElem? (i := 22) rfl)
theorem cd_X5_init : CD yX5_init cX5_init 3 none 2 := ⟨wI_3 _ (List.mem_of_getElem? (i := 4) rfl), wI_1 _ (List.mem_of_getElem? (i := 23) rfl), by decide +kernel, by decide, by decide +kernel⟩
theorem im_X5_init : Cond.instanceMethod yX5_init ∈ wsL_law := wI_3 _ (List.mem_of_getElem? (i := 3) rfl)
theorem cd_X6_init : CD yX6_init cX6_init 3 none 1 := ⟨wI_3 _ (List.mem_of_getElem? (i := 10) rfl), wI_2 _ (List.mem_of_getElem? (i := 3) rfl), by decide +kernel, by decide, by decide +kernel⟩
theorem im_X6_init : Cond.instanceMethod yX6_init ∈ wsL_law := wI_3 _ (List.mem_of_getElem? (i := 9) rfl)
theorem kl_X6_15 : Cond.classLink RX6 15 RX0 ∈ wsL_law := wI_3 _ (List.mem_of_getElem? (i := 13) rfl)
theorem in_X0 : Cond.instantiable RX0 5 ∈ wsL_law := wI_3 _ (List.mem_of_getElem? (i := 15) rfl)
theorem ii_X0 : Cond.initialized RX0 ∈ wsL_law := wI_3 _ (List.mem_of_getElem? (i := 16) rfl)
theorem cd_X0_init : CD yX0_init cX0_init 1 none 0 := ⟨wI_4 _ (List.mem_of_getElem? (i := 0) rfl), wI_3 _ (List.mem_of_getElem? (i := 16) rfl), by decide +kernel, by decide, by decide +kernel⟩
theorem im_X0_init : Cond.instanceMethod yX0_init ∈ wsL_law := wI_3 _ (List.mem_of_getElem? (i := 23) rfl)
theorem cd_X1_init : CD yX1_init cX1_init 1 none 0 := ⟨wI_4 _ (List.mem_of_getElem? (i := 7) rfl), wI_2 _ (List.mem_of_getElem? (i := 10) rfl), by decide +kernel, by decide, by decide +kernel⟩
theorem im_X1_init : Cond.instanceMethod yX1_init ∈ wsL_law := wI_4 _ (List.mem_of_getElem? (i := 6) rfl)
theorem cd_X2_init : CD yX2_init cX2_init 1 none 0 := ⟨wI_4 _ (List.mem_of_getElem? (i := 12) rfl), wI_2 _ (List.mem_of_getElem? (i := 14) rfl), by decide +kernel, by decide, by decide +kernel⟩
theorem im_X2_init : Cond.instanceMethod yX2_init ∈ wsL_law := wI_4 _ (List.mem_of_getElem? (i := 11) rfl)
theorem kl_X2_7 : Cond.classLink RX2 7 RX0 ∈ wsL_law := wI_4 _ (List.mem_of_getElem? (i := 14) rfl)
theorem kl_X2_16 : Cond.classLink RX2 16 RX1 ∈ wsL_law := wI_4 _ (List.mem_of_getElem? (i := 16) rfl)
theorem cd_X8_init : CD yX8_init cX8_init 2 none 0 := ⟨wI_4 _ (List.mem_of_getElem? (i := 20) rfl), wI_1 _ (List.mem_of_getElem? (i := 5) rfl), by decide +kernel, by decide, by decide +kernel⟩
theorem im_X8_init : Cond.instanceMethod yX8_init ∈ wsL_law := wI_4 _ (List.mem_of_getElem? (i := 19) rfl)
