/-! the judgement: a method's walk over the store -/
def tabI (l : List Int32) : Nat → Value := fun j => .int (l.getD j 0)
def tb0 : List Int32 := [-1, 0, 0, 1, 2, 0]
def tb1 : List Int32 := [0, 0, -3, 0]
def tb2 : List Int32 := [99, 100, 3, 9]
def kLen : List Nat := [4, 3, 4, 3, 2, 2, 1, 1, 3, 2, 2, 1, 1, 1]
def kByt : List (List Int32) := [[108, 101, 97, 107], [102, 101, 101], [102, 105, 110, 101], [104, 112, 103], [101, 98], [103, 121], [124], [38], [60, 61, 62], [43, 45], [42, 47], [33], [40], [41]]
def kIdx : List Nat := [125, 127, 129, 131, 133, 135, 137, 139, 141, 143, 145, 83, 88, 107]
def kTxt : List String := ["leak", "fee", "fine", "hpg", "eb", "gy", "|", "&", "<=>", "+-", "*/", "!", "(", ")"]
/-- calls of a nest mate's private methods -/
def nestL : List (String × Nat × MethodName) := [(RX0, 27, yX7_isKind), (RX1, 34, yX7_within), (RX5, 115, yX7_within), (RX6, 102, yX7_held), (RX6, 110, yX7_within), (RX6, 144, yX7_isYard), (RX7, 20, yX3_init), (RX7, 55, yX1_init), (RX7, 62, yX2_init), (RX2, 18, yX1_init), (RX2, 9, yX0_init), (RX6, 21, yX0_init)]
/-- the constants: three tables, fourteen texts -/
def Ks (G : GM) (U : State) : Prop :=
  (va_Z RX0 "ABOVE" "[I" (.ref (G.2.2.2.2.2.2 0)) G.2.2.2.1 U U.heap ∧ va_T .int (G.2.2.2.2.2.2 0) 6 (tabI tb0) G.2.2.2.1 U U.heap) ∧
  (va_Z RX7 "LEAST_OF_RULE" "[I" (.ref (G.2.2.2.2.2.2 1)) G.2.2.2.1 U U.heap ∧ va_T .int (G.2.2.2.2.2.2 1) 4 (tabI tb1) G.2.2.2.1 U U.heap) ∧
  (va_Z RX7 "MOST_OF_RULE" "[I" (.ref (G.2.2.2.2.2.2 2)) G.2.2.2.1 U U.heap ∧ va_T .int (G.2.2.2.2.2.2 2) 4 (tabI tb2) G.2.2.2.1 U U.heap) ∧
  va_Z "java/lang/String" "COMPACT_STRINGS" "Z" (.int 1) G.2.2.2.1 U U.heap ∧
  vk_S 14 kLen kByt G.2.2.2.2.1 G.2.2.2.2.2.1 G.2.2.2.1 U U.heap ∧
  (∀ i, i < 14 → vk_R RX5 (kIdx.getD i 0) (kTxt.getD i "") (G.2.2.2.2.1 i) U) ∧
  (∀ q ∈ nestL, va_Nw (.methodLinkNest q.1 q.2.1 q.2.2 RX7) U) ∧
  va_Zq "jdk/internal/util/Preconditions" "SIOOBE_FORMATTER" "Ljava/util/function/BiFunction;" G.2.2.2.1 U U.heap
theorem Ks.at {G : GM} {s U : State} {H : Heap} {locs : List Loc} (h : Ks G s) (hS : va_S G.2.2.2.1 s.heap H locs) (hU : U.heap = H) (hW : s.WarmedH U.vm) : Ks G U := by
  subst hU
  obtain ⟨⟨a1, a2⟩, ⟨b1, b2⟩, ⟨c1, c2⟩, d1, e1, f1, g1, z1⟩ := h
  have hq := hS.2.1
  exact ⟨⟨(a1.kept hq).moved hW.alike, (a2.kept hq).moved hW.alike⟩, ⟨(b1.kept hq).moved hW.alike, (b2.kept hq).moved hW.alike⟩, ⟨(c1.kept hq).moved hW.alike, (c2.kept hq).moved hW.alike⟩, (d1.kept hq).moved hW.alike, (e1.kept hq).moved hW.alike, fun i hi => (f1 i hi).warm hW, fun q hq => va_Nw.warmM hW (g1 q hq), (z1.kept hq).moved hW.alike⟩
theorem Ks.same {G : GM} {u U : State} (h : Ks G u) (hh : U.heap = u.heap) (hv : U.vm = u.vm) : Ks G U := by
  obtain ⟨⟨a1, a2⟩, ⟨b1, b2⟩, ⟨c1, c2⟩, d1, e1, f1, g1, z1⟩ := h
  have ha : u.vm.Alike U.vm := by rw [hv]; exact Vm.Alike.refl _
  unfold Ks
  rw [hh]
  exact ⟨⟨a1.moved ha, a2.moved ha⟩, ⟨b1.moved ha, b2.moved ha⟩, ⟨c1.moved ha, c2.moved ha⟩, d1.moved ha, e1.moved ha, fun i hi => (f1 i hi).same hv, fun q hq => (g1 q hq).same rfl hv.symm, z1.moved ha⟩
abbrev LVs : Type := Nat → Option Value
def lh (ls : Array Slot) (nL : Nat) (lv : LVs) : Prop := ls.size = nL ∧ lv_wf ls ∧ ∀ i v, lv i = some v → ls[i]? = some (.val v)
def ll (l : List (Nat × Value)) : LVs := fun i => l.lookup i
def c1 (x : Option Value) : Option Value := match x with
  | some v => if v.category = 1 then some v else none
  | none => none
def lu (lv : LVs) (i : Nat) (v : Value) : LVs := fun j => if j = i then some v else if j + 1 = i then c1 (lv j) else lv j
theorem lh_of {ls : Array Slot} {nL : Nat} {l : List (Nat × Value)} (h : lv_has ls nL l) : lh ls nL (ll l) := by
  refine ⟨h.1, h.2.1, fun i v hi => h.2.2 (i, v) ?_⟩
  unfold ll at hi
  clear h
  induction l with
  | nil => cases hi
  | cons q l ih =>
    obtain ⟨j, w⟩ := q
    rw [List.lookup_cons] at hi
    by_cases e : i = j
    · subst e
      simp at hi
      subst hi
      exact List.mem_cons_self
    · rw [show (i == j) = false from beq_false_of_ne e] at hi
      exact List.mem_cons_of_mem _ (ih hi)
theorem lh_to {ls : Array Slot} {nL : Nat} {lv : LVs} (h : lh ls nL lv) : lv_has ls nL ((List.range nL).filterMap (fun i => (lv i).map (fun v => (i, v)))) := by
  refine ⟨h.1, h.2.1, fun q hq => ?_⟩
  obtain ⟨i, -, hi⟩ := List.mem_filterMap.mp hq
  obtain ⟨v, hv, rfl⟩ := Option.map_eq_some_iff.mp hi
  exact h.2.2 i v hv
theorem lh_lu {ls ls' : Array Slot} {nL i : Nat} {lv : LVs} {v : Value} (h : lh ls nL lv)
    (h' : lv_has ls' nL ((i, v) :: ((List.range nL).filterMap (fun i => (lv i).map (fun v => (i, v)))).filter (fun q => !(q.1 == i) && !(q.1 + 1 == i && q.2.category == 2)))) : lh ls' nL (lu lv i v) := by
  refine ⟨h'.1, h'.2.1, fun j w hj => h'.2.2 (j, w) ?_⟩
  unfold lu at hj
  by_cases e : j = i
  · rw [if_pos e] at hj
    cases hj
    subst e
    exact List.mem_cons_self
  · rw [if_neg e] at hj
    have key : lv j = some w ∧ (j + 1 = i → w.category = 1) := by
      by_cases e2 : j + 1 = i
      · rw [if_pos e2] at hj
        unfold c1 at hj
        split at hj
        next v' hv' =>
          split at hj
          next hc => cases hj; exact ⟨hv', fun _ => hc⟩
          next => cases hj
        next => cases hj
      · rw [if_neg e2] at hj
        exact ⟨hj, fun z => absurd z e2⟩
    refine List.mem_cons_of_mem _ (List.mem_filter.mpr ⟨List.mem_filterMap.mpr ⟨j, List.mem_range.mpr ?_, by rw [key.1]; rfl⟩, ?_⟩)
    · have h3 := h.2.2 j w key.1
      rw [← h.1]
      exact lv_lt h3
    · simp only [Bool.and_eq_true, Bool.not_eq_true', beq_eq_false_iff_ne, Bool.and_eq_false_iff]
      refine ⟨e, ?_⟩
      by_cases e2 : j + 1 = i
      · right
        rw [key.2 e2]
        decide
      · left
        exact e2
/-- the machine's part of a walk: program, launch, environment, room, the start, the method, arguments, the frames below, the code, cells and slots, the end -/
abbrev CX : Type := Program × Launch × Env × Room × State × MethodId × Array Value × List Frame × Method × Code × Nat × Nat × (State → Prop)
def RR (X : CX) (G : GM) (nL pc : Nat) (lv : LVs) (st : List Value) (σ : SG) : Prop :=
  ∀ (H : Heap) (locs : List Loc) (ls : Array Slot), va_P G.1 vwCl (cs G σ) H → va_S G.2.2.2.1 X.2.2.2.2.1.heap H locs → lh ls nL lv →
    W X.1 X.2.1 X.2.2.1 X.2.2.2.1 X.2.2.2.2.1 X.2.2.2.2.2.1 X.2.2.2.2.2.2.1 X.2.2.2.2.2.2.2.1 X.2.2.2.2.2.2.2.2.1 X.2.2.2.2.2.2.2.2.2.1 H locs X.2.2.2.2.2.2.2.2.2.2.1 X.2.2.2.2.2.2.2.2.2.2.2.1 X.2.2.2.2.2.2.2.2.2.2.2.2 (F0 X.2.2.2.2.2.1 pc ls st)
def Fx (X : CX) (G : GM) (own : String) (cc : ByteArray) (nL d : Nat) : Prop :=
  X.1.tables.exec = Jvm.exec ∧ X.2.2.2.2.2.2.2.2.2.1.code = cc ∧ X.2.2.2.2.2.2.2.2.2.1.maxLocals = nL ∧ X.2.2.2.2.1.vm.findClass own = some X.2.2.2.2.2.1.cls ∧
  (∀ w ∈ wsL_law, w.before X.2.2.2.2.2.2.1 X.2.2.2.2.1 = true) ∧ va_K G.1 vwCl (ty5 G) X.2.2.2.2.1 ∧ GD G ∧ Ks G X.2.2.2.2.1 ∧
  d ≤ X.2.2.2.1.frames ∧ 40 * d ≤ X.2.2.2.1.locals ∧ X.2.2.2.2.2.2.2.2.2.2.1 ≤ X.2.2.2.1.cells ∧ X.2.2.2.2.2.2.2.2.2.2.2.1 ≤ X.2.2.2.1.slots
/-- what a method comes to -/
def QQ (G : GM) (Q : Option Value → SG → Prop) : Array Value → State → Outcome → State → Prop := fun _ st oc t =>
  ∃ (v : Option Value) (σ' : SG), oc = .returned v ∧ Q v σ' ∧ va_P G.1 vwCl (cs G σ') t.heap ∧ va_F G.2.2.2.1 st t
def MZ (X : CX) (G : GM) (ret : Option FieldType) (Q : Option Value → SG → Prop) : Prop :=
  X.2.2.2.2.2.2.2.2.2.2.2.2 = MQ X.2.2.2.2.2.2.2.1 (QQ G Q) X.2.2.2.2.2.2.1 X.2.2.2.2.1 X.2.2.2.2.2.2.2.2.2.2.1 X.2.2.2.2.2.2.2.2.2.2.2.1 G.2.2.2.1 ∧ X.2.2.2.2.2.2.2.2.1.sig.returnType = ret ∧ X.2.2.2.2.2.2.2.2.1.locks = false
/-- a method's contract: from any state that holds the store, with these arguments -/
def PW (G : GM) (σ : SG) (U : State) : Prop := va_P G.1 vwCl (cs G σ) U.heap ∧ va_K G.1 vwCl (ty5 G) U ∧ GD G ∧ Ks G U
def Con (G : GM) (y : MethodName) (cc : ByteArray) (maxL : Nat) (ret : Option FieldType) (d : Nat) (av : List Value) (σ : SG) (Q : Option Value → SG → Prop) : Prop :=
  ∀ l : Launch, Met l y (Cond.code y cc maxL ret :: wsL_law) { frames := d, cells := 0, slots := 0, locals := 40 * d } (va_Pc av (PW G σ)) (QQ G Q) 0 0 G.2.2.2.1
theorem Con.of {G : GM} {y : MethodName} {cc : ByteArray} {maxL : Nat} {ret : Option FieldType} {d n : Nat} {av : List Value} {σ : SG} {Q : Option Value → SG → Prop} (hy : CD y cc maxL ret n) (hav : (lg_sl av).length ≤ maxL)
    (h : ∀ X : CX, Fx X G y.cls cc maxL d → MZ X G ret Q → RR X G maxL 0 (ll (lv_args 0 av)) [] σ) : Con G y cc maxL ret d av σ Q := by
  intro l
  refine Met.ofW (cc := cc) (maxL := maxL) (ret := ret) hy.2.2.2.2 rfl ?_
  intro p e s m args below meth c s₁ B hml hv
  obtain ⟨rfl, hP, hK, hG, hk⟩ := hv
  have hts := atoms_spec (ws := Cond.code y cc maxL ret :: wsL_law) B.pre
  have hown : s.vm.findClass y.cls = some m.cls := findClass_of_methodNamed B.named
  rw [lg_entry_eq]
  exact h (p, l, e, (headSpec (Cond.code y cc maxL ret :: wsL_law) { frames := d, cells := 0, slots := 0, locals := 40 * d }).room, s, m, av.toArray, below, meth, c, 0, 0, MQ below (QQ G Q) av.toArray s 0 0 G.2.2.2.1)
    ⟨B.exec, B.bytes, hml, hown, fun w hw => hts w (List.mem_cons_of_mem _ hw), hK, hG, hk, Nat.le_refl _, Nat.le_refl _, Nat.le_refl _, Nat.le_refl _⟩ ⟨rfl, B.returns, B.notSynchronized⟩ _ _ _ hP va_S.rf (lh_of (lv_entry av hav))
theorem Con.mono {G : GM} {y : MethodName} {cc : ByteArray} {maxL : Nat} {ret : Option FieldType} {d : Nat} {av : List Value} {σ : SG} {Q Q' : Option Value → SG → Prop} (h : Con G y cc maxL ret d av σ Q) (hq : ∀ v σ', Q v σ' → Q' v σ') : Con G y cc maxL ret d av σ Q' := by
  intro l
  have hl := h l
  intro p e ha hc hk s m args below hf h1 h2 h3
  obtain ⟨k, o, a1, a2, a3, ⟨⟨v, σ', b1, b2, b3⟩, a5⟩⟩ := hl p e ha hc hk s m args below hf h1 h2 h3
  exact ⟨k, o, a1, a2, a3, ⟨v, σ', b1, hq v σ' b2, b3⟩, a5⟩
section RRS
variable {X : CX} {G : GM} {own : String} {cc : ByteArray} {nL d pc : Nat} {lv : LVs} {st : List Value} {σ : SG}
theorem RR.eqs {σ' : SG} (h : σ = σ') (k : RR X G nL pc lv st σ') : RR X G nL pc lv st σ := h ▸ k
theorem RR.eqt {st' : List Value} (h : st = st') (k : RR X G nL pc lv st' σ) : RR X G nL pc lv st σ := h ▸ k
theorem RR.sub {lv' : LVs} (h : ∀ i v, lv' i = some v → lv i = some v) (k : RR X G nL pc lv' st σ) : RR X G nL pc lv st σ := fun H locs ls hP hS hl => k H locs ls hP hS ⟨hl.1, hl.2.1, fun i v hi => hl.2.2 i v (h i v hi)⟩
theorem ll_sub {lv : LVs} : ∀ {l : List (Nat × Value)}, (∀ q ∈ l, lv q.1 = some q.2) → ∀ i v, ll l i = some v → lv i = some v := by
  intro l
  induction l with
  | nil => intro _ i v h; cases h
  | cons q l ih =>
    intro h i v hi
    unfold ll at hi
    rw [List.lookup_cons] at hi
    by_cases e : i = q.1
    · subst e
      simp at hi
      subst hi
      exact h q List.mem_cons_self
    · rw [show (i == q.1) = false from beq_false_of_ne e] at hi
      exact ih (fun q' hq' => h q' (List.mem_cons_of_mem _ hq')) i v hi
theorem RR.loc (l : List (Nat × Value)) (h : ∀ q ∈ l, lv q.1 = some q.2) (k : RR X G nL pc (ll l) st σ) : RR X G nL pc lv st σ := RR.sub (ll_sub h) k
theorem r_iadd {x y : Int32} (hX : Fx X G own cc nL d) (hd : decode cc pc = .ok (.iadd, 1)) (kk : RR X G nL (pc + 1) lv (.int (x + y) :: st) σ) : RR X G nL pc lv (.int y :: .int x :: st) σ :=
  fun H locs ls hP hS hl => lv_iadd hX.1 hX.2.1 hd (kk H locs ls hP hS hl)
theorem r_isub {x y : Int32} (hX : Fx X G own cc nL d) (hd : decode cc pc = .ok (.isub, 1)) (kk : RR X G nL (pc + 1) lv (.int (x - y) :: st) σ) : RR X G nL pc lv (.int y :: .int x :: st) σ :=
  fun H locs ls hP hS hl => lv_isub hX.1 hX.2.1 hd (kk H locs ls hP hS hl)
theorem r_imul {x y : Int32} (hX : Fx X G own cc nL d) (hd : decode cc pc = .ok (.imul, 1)) (kk : RR X G nL (pc + 1) lv (.int (x * y) :: st) σ) : RR X G nL pc lv (.int y :: .int x :: st) σ :=
  fun H locs ls hP hS hl => lv_imul hX.1 hX.2.1 hd (kk H locs ls hP hS hl)
theorem r_iand {x y : Int32} (hX : Fx X G own cc nL d) (hd : decode cc pc = .ok (.iand, 1)) (kk : RR X G nL (pc + 1) lv (.int (x &&& y) :: st) σ) : RR X G nL pc lv (.int y :: .int x :: st) σ :=
  fun H locs ls hP hS hl => lv_iand hX.1 hX.2.1 hd (kk H locs ls hP hS hl)
theorem r_ior {x y : Int32} (hX : Fx X G own cc nL d) (hd : decode cc pc = .ok (.ior, 1)) (kk : RR X G nL (pc + 1) lv (.int (x ||| y) :: st) σ) : RR X G nL pc lv (.int y :: .int x :: st) σ :=
  fun H locs ls hP hS hl => lv_ior hX.1 hX.2.1 hd (kk H locs ls hP hS hl)
theorem r_ishl {x y : Int32} (hX : Fx X G own cc nL d) (hd : decode cc pc = .ok (.ishl, 1)) (kk : RR X G nL (pc + 1) lv (.int (x <<< (y &&& 31)) :: st) σ) : RR X G nL pc lv (.int y :: .int x :: st) σ :=
  fun H locs ls hP hS hl => lv_ishl hX.1 hX.2.1 hd (kk H locs ls hP hS hl)
theorem r_ishr {x y : Int32} (hX : Fx X G own cc nL d) (hd : decode cc pc = .ok (.ishr, 1)) (kk : RR X G nL (pc + 1) lv (.int (x >>> (y &&& 31)) :: st) σ) : RR X G nL pc lv (.int y :: .int x :: st) σ :=
  fun H locs ls hP hS hl => lv_ishr hX.1 hX.2.1 hd (kk H locs ls hP hS hl)
theorem r_iushr {x y v : Int32} (hX : Fx X G own cc nL d) (hd : decode cc pc = .ok (.iushr, 1)) (hv : (x.toUInt32 >>> (y.toUInt32 &&& Int32.toUInt32 31)).toInt32 = v) (kk : RR X G nL (pc + 1) lv (.int v :: st) σ) : RR X G nL pc lv (.int y :: .int x :: st) σ :=
  fun H locs ls hP hS hl => lv_iushr hX.1 hX.2.1 hd hv (kk H locs ls hP hS hl)
theorem r_idiv {x y : Int32} (hX : Fx X G own cc nL d) (hd : decode cc pc = .ok (.idiv, 1)) (hne : ¬ y = 0) (kk : RR X G nL (pc + 1) lv (.int (x / y) :: st) σ) : RR X G nL pc lv (.int y :: .int x :: st) σ :=
  fun H locs ls hP hS hl => lv_idiv hX.1 hX.2.1 hd hne (kk H locs ls hP hS hl)
theorem r_irem {x y : Int32} (hX : Fx X G own cc nL d) (hd : decode cc pc = .ok (.irem, 1)) (hne : ¬ y = 0) (kk : RR X G nL (pc + 1) lv (.int (x - x / y * y) :: st) σ) : RR X G nL pc lv (.int y :: .int x :: st) σ :=
  fun H locs ls hP hS hl => lv_irem hX.1 hX.2.1 hd hne (kk H locs ls hP hS hl)
theorem r_ineg {x : Int32} (hX : Fx X G own cc nL d) (hd : decode cc pc = .ok (.ineg, 1)) (kk : RR X G nL (pc + 1) lv (.int (-x) :: st) σ) : RR X G nL pc lv (.int x :: st) σ :=
  fun H locs ls hP hS hl => lv_ineg hX.1 hX.2.1 hd (kk H locs ls hP hS hl)
theorem r_ladd {x y : Int64} (hX : Fx X G own cc nL d) (hd : decode cc pc = .ok (.ladd, 1)) (kk : RR X G nL (pc + 1) lv (.long (x + y) :: st) σ) : RR X G nL pc lv (.long y :: .long x :: st) σ :=
  fun H locs ls hP hS hl => lv_ladd hX.1 hX.2.1 hd (kk H locs ls hP hS hl)
theorem r_i2l {x : Int32} (hX : Fx X G own cc nL d) (hd : decode cc pc = .ok (.i2l, 1)) (kk : RR X G nL (pc + 1) lv (.long x.toInt64 :: st) σ) : RR X G nL pc lv (.int x :: st) σ :=
  fun H locs ls hP hS hl => lv_i2l hX.1 hX.2.1 hd rfl (kk H locs ls hP hS hl)
theorem r_i2s {x : Int32} (hX : Fx X G own cc nL d) (hd : decode cc pc = .ok (.i2s, 1)) (kk : RR X G nL (pc + 1) lv (.int x.toInt16.toInt32 :: st) σ) : RR X G nL pc lv (.int x :: st) σ :=
  fun H locs ls hP hS hl => lv_i2s hX.1 hX.2.1 hd rfl (kk H locs ls hP hS hl)
theorem r_i2c {x : Int32} (hX : Fx X G own cc nL d) (hd : decode cc pc = .ok (.i2c, 1)) (kk : RR X G nL (pc + 1) lv (.int (x.toUInt32 % 65536).toInt32 :: st) σ) : RR X G nL pc lv (.int x :: st) σ :=
  fun H locs ls hP hS hl => lv_i2c hX.1 hX.2.1 hd rfl (kk H locs ls hP hS hl)
theorem r_i2b {x : Int32} (hX : Fx X G own cc nL d) (hd : decode cc pc = .ok (.i2b, 1)) (kk : RR X G nL (pc + 1) lv (.int x.toInt8.toInt32 :: st) σ) : RR X G nL pc lv (.int x :: st) σ :=
  fun H locs ls hP hS hl => lv_i2b hX.1 hX.2.1 hd rfl (kk H locs ls hP hS hl)
theorem r_iconst {n : Int} {v : Int32} (hX : Fx X G own cc nL d) (hd : decode cc pc = .ok (.iconst n, 1)) (hv : Int32.ofInt n = v) (kk : RR X G nL (pc + 1) lv (.int v :: st) σ) : RR X G nL pc lv (st) σ :=
  fun H locs ls hP hS hl => lv_iconst hX.1 hX.2.1 hd hv (kk H locs ls hP hS hl)
theorem r_bipush {n : Int} {v : Int32} (hX : Fx X G own cc nL d) (hd : decode cc pc = .ok (.bipush n, 2)) (hv : (Int8.ofInt n).toInt32 = v) (kk : RR X G nL (pc + 2) lv (.int v :: st) σ) : RR X G nL pc lv (st) σ :=
  fun H locs ls hP hS hl => lv_bipush hX.1 hX.2.1 hd hv (kk H locs ls hP hS hl)
theorem r_sipush {n : Int} {v : Int32} (hX : Fx X G own cc nL d) (hd : decode cc pc = .ok (.sipush n, 3)) (hv : (Int16.ofInt n).toInt32 = v) (kk : RR X G nL (pc + 3) lv (.int v :: st) σ) : RR X G nL pc lv (st) σ :=
  fun H locs ls hP hS hl => lv_sipush hX.1 hX.2.1 hd hv (kk H locs ls hP hS hl)
theorem r_lconst {n : Fin 2} {v : Int64} (hX : Fx X G own cc nL d) (hd : decode cc pc = .ok (.lconst n, 1)) (hv : Int64.ofNat (n : Nat) = v) (kk : RR X G nL (pc + 1) lv (.long v :: st) σ) : RR X G nL pc lv (st) σ :=
  fun H locs ls hP hS hl => lv_lconst hX.1 hX.2.1 hd hv (kk H locs ls hP hS hl)
theorem r_dup {va : Value} (hX : Fx X G own cc nL d) (hd : decode cc pc = .ok (.dup, 1)) (hva : va.category = 1) (kk : RR X G nL (pc + 1) lv (va :: va :: st) σ) : RR X G nL pc lv (va :: st) σ :=
  fun H locs ls hP hS hl => lv_dup hX.1 hX.2.1 hd hva (kk H locs ls hP hS hl)
theorem r_dup2_11 {va vb : Value} (hX : Fx X G own cc nL d) (hd : decode cc pc = .ok (.dup2, 1)) (hva : va.category = 1) (hvb : vb.category = 1) (kk : RR X G nL (pc + 1) lv (va :: vb :: va :: vb :: st) σ) : RR X G nL pc lv (va :: vb :: st) σ :=
  fun H locs ls hP hS hl => lv_dup2_11 hX.1 hX.2.1 hd hva hvb (kk H locs ls hP hS hl)
theorem r_pop {va : Value} (hX : Fx X G own cc nL d) (hd : decode cc pc = .ok (.pop, 1)) (hva : va.category = 1) (kk : RR X G nL (pc + 1) lv (st) σ) : RR X G nL pc lv (va :: st) σ :=
  fun H locs ls hP hS hl => lv_pop hX.1 hX.2.1 hd hva (kk H locs ls hP hS hl)
theorem r_lcmp {x y : Int64} (hX : Fx X G own cc nL d) (hd : decode cc pc = .ok (.lcmp, 1)) (kk : RR X G nL (pc + 1) lv (.int (lg_cmp x y) :: st) σ) : RR X G nL pc lv (.long y :: .long x :: st) σ :=
  fun H locs ls hP hS hl => W.lcmp hX.1 hX.2.1 hd (kk H locs ls hP hS hl)
theorem r_icmp_eq {x y : Int32} {off : Int} {tgt : Nat} (hX : Fx X G own cc nL d) (hd : decode cc pc = .ok (.if_icmp .eq off, 3)) (ht : (pc : Int) + off = (tgt : Int)) (kt : x = y → RR X G nL tgt lv st σ) (kf : ¬ x = y → RR X G nL (pc + 3) lv st σ) : RR X G nL pc lv (.int y :: .int x :: st) σ :=
  fun H locs ls hP hS hl => lv_icmp_eq hX.1 hX.2.1 hd ht (fun h => kt h H locs ls hP hS hl) (fun h => kf h H locs ls hP hS hl)
theorem r_if_eq {x : Int32} {off : Int} {tgt : Nat} (hX : Fx X G own cc nL d) (hd : decode cc pc = .ok (.ifCond .eq off, 3)) (ht : (pc : Int) + off = (tgt : Int)) (kt : x = 0 → RR X G nL tgt lv st σ) (kf : ¬ x = 0 → RR X G nL (pc + 3) lv st σ) : RR X G nL pc lv (.int x :: st) σ :=
  fun H locs ls hP hS hl => lv_if_eq hX.1 hX.2.1 hd ht (fun h => kt h H locs ls hP hS hl) (fun h => kf h H locs ls hP hS hl)
theorem r_icmp_ne {x y : Int32} {off : Int} {tgt : Nat} (hX : Fx X G own cc nL d) (hd : decode cc pc = .ok (.if_icmp .ne off, 3)) (ht : (pc : Int) + off = (tgt : Int)) (kt : ¬ x = y → RR X G nL tgt lv st σ) (kf : x = y → RR X G nL (pc + 3) lv st σ) : RR X G nL pc lv (.int y :: .int x :: st) σ :=
  fun H locs ls hP hS hl => lv_icmp_ne hX.1 hX.2.1 hd ht (fun h => kt h H locs ls hP hS hl) (fun h => kf h H locs ls hP hS hl)
theorem r_if_ne {x : Int32} {off : Int} {tgt : Nat} (hX : Fx X G own cc nL d) (hd : decode cc pc = .ok (.ifCond .ne off, 3)) (ht : (pc : Int) + off = (tgt : Int)) (kt : ¬ x = 0 → RR X G nL tgt lv st σ) (kf : x = 0 → RR X G nL (pc + 3) lv st σ) : RR X G nL pc lv (.int x :: st) σ :=
  fun H locs ls hP hS hl => lv_if_ne hX.1 hX.2.1 hd ht (fun h => kt h H locs ls hP hS hl) (fun h => kf h H locs ls hP hS hl)
theorem r_icmp_lt {x y : Int32} {off : Int} {tgt : Nat} (hX : Fx X G own cc nL d) (hd : decode cc pc = .ok (.if_icmp .lt off, 3)) (ht : (pc : Int) + off = (tgt : Int)) (kt : x < y → RR X G nL tgt lv st σ) (kf : ¬ x < y → RR X G nL (pc + 3) lv st σ) : RR X G nL pc lv (.int y :: .int x :: st) σ :=
  fun H locs ls hP hS hl => lv_icmp_lt hX.1 hX.2.1 hd ht (fun h => kt h H locs ls hP hS hl) (fun h => kf h H locs ls hP hS hl)
theorem r_if_lt {x : Int32} {off : Int} {tgt : Nat} (hX : Fx X G own cc nL d) (hd : decode cc pc = .ok (.ifCond .lt off, 3)) (ht : (pc : Int) + off = (tgt : Int)) (kt : x < 0 → RR X G nL tgt lv st σ) (kf : ¬ x < 0 → RR X G nL (pc + 3) lv st σ) : RR X G nL pc lv (.int x :: st) σ :=
  fun H locs ls hP hS hl => lv_if_lt hX.1 hX.2.1 hd ht (fun h => kt h H locs ls hP hS hl) (fun h => kf h H locs ls hP hS hl)
theorem r_icmp_ge {x y : Int32} {off : Int} {tgt : Nat} (hX : Fx X G own cc nL d) (hd : decode cc pc = .ok (.if_icmp .ge off, 3)) (ht : (pc : Int) + off = (tgt : Int)) (kt : y ≤ x → RR X G nL tgt lv st σ) (kf : ¬ y ≤ x → RR X G nL (pc + 3) lv st σ) : RR X G nL pc lv (.int y :: .int x :: st) σ :=
  fun H locs ls hP hS hl => lv_icmp_ge hX.1 hX.2.1 hd ht (fun h => kt h H locs ls hP hS hl) (fun h => kf h H locs ls hP hS hl)
theorem r_if_ge {x : Int32} {off : Int} {tgt : Nat} (hX : Fx X G own cc nL d) (hd : decode cc pc = .ok (.ifCond .ge off, 3)) (ht : (pc : Int) + off = (tgt : Int)) (kt : 0 ≤ x → RR X G nL tgt lv st σ) (kf : ¬ 0 ≤ x → RR X G nL (pc + 3) lv st σ) : RR X G nL pc lv (.int x :: st) σ :=
  fun H locs ls hP hS hl => lv_if_ge hX.1 hX.2.1 hd ht (fun h => kt h H locs ls hP hS hl) (fun h => kf h H locs ls hP hS hl)
theorem r_icmp_gt {x y : Int32} {off : Int} {tgt : Nat} (hX : Fx X G own cc nL d) (hd : decode cc pc = .ok (.if_icmp .gt off, 3)) (ht : (pc : Int) + off = (tgt : Int)) (kt : y < x → RR X G nL tgt lv st σ) (kf : ¬ y < x → RR X G nL (pc + 3) lv st σ) : RR X G nL pc lv (.int y :: .int x :: st) σ :=
  fun H locs ls hP hS hl => lv_icmp_gt hX.1 hX.2.1 hd ht (fun h => kt h H locs ls hP hS hl) (fun h => kf h H locs ls hP hS hl)
theorem r_if_gt {x : Int32} {off : Int} {tgt : Nat} (hX : Fx X G own cc nL d) (hd : decode cc pc = .ok (.ifCond .gt off, 3)) (ht : (pc : Int) + off = (tgt : Int)) (kt : 0 < x → RR X G nL tgt lv st σ) (kf : ¬ 0 < x → RR X G nL (pc + 3) lv st σ) : RR X G nL pc lv (.int x :: st) σ :=
  fun H locs ls hP hS hl => lv_if_gt hX.1 hX.2.1 hd ht (fun h => kt h H locs ls hP hS hl) (fun h => kf h H locs ls hP hS hl)
theorem r_icmp_le {x y : Int32} {off : Int} {tgt : Nat} (hX : Fx X G own cc nL d) (hd : decode cc pc = .ok (.if_icmp .le off, 3)) (ht : (pc : Int) + off = (tgt : Int)) (kt : x ≤ y → RR X G nL tgt lv st σ) (kf : ¬ x ≤ y → RR X G nL (pc + 3) lv st σ) : RR X G nL pc lv (.int y :: .int x :: st) σ :=
  fun H locs ls hP hS hl => lv_icmp_le hX.1 hX.2.1 hd ht (fun h => kt h H locs ls hP hS hl) (fun h => kf h H locs ls hP hS hl)
theorem r_if_le {x : Int32} {off : Int} {tgt : Nat} (hX : Fx X G own cc nL d) (hd : decode cc pc = .ok (.ifCond .le off, 3)) (ht : (pc : Int) + off = (tgt : Int)) (kt : x ≤ 0 → RR X G nL tgt lv st σ) (kf : ¬ x ≤ 0 → RR X G nL (pc + 3) lv st σ) : RR X G nL pc lv (.int x :: st) σ :=
  fun H locs ls hP hS hl => lv_if_le hX.1 hX.2.1 hd ht (fun h => kt h H locs ls hP hS hl) (fun h => kf h H locs ls hP hS hl)
theorem r_iload_n {k : Fin 4} {i : Nat} {x : Int32} (hX : Fx X G own cc nL d) (hd : decode cc pc = .ok (.iload_n k, 1)) (h : lv (k : Nat) = some (.int x)) (kk : RR X G nL (pc + 1) lv (.int x :: st) σ) : RR X G nL pc lv st σ :=
  fun H locs ls hP hS hl => lv_iload_n hX.1 hX.2.1 hd rfl (hl.2.2 _ _ h) (kk H locs ls hP hS hl)
theorem r_iload {i : Nat} {x : Int32} (hX : Fx X G own cc nL d) (hd : decode cc pc = .ok (.iload i, 2)) (h : lv i = some (.int x)) (kk : RR X G nL (pc + 2) lv (.int x :: st) σ) : RR X G nL pc lv st σ :=
  fun H locs ls hP hS hl => lv_iload hX.1 hX.2.1 hd (hl.2.2 _ _ h) (kk H locs ls hP hS hl)
theorem r_lload_n {k : Fin 4} {x : Int64} (hX : Fx X G own cc nL d) (hd : decode cc pc = .ok (.lload_n k, 1)) (h : lv (k : Nat) = some (.long x)) (kk : RR X G nL (pc + 1) lv (.long x :: st) σ) : RR X G nL pc lv st σ :=
  fun H locs ls hP hS hl => lv_lload_n hX.1 hX.2.1 hd rfl (hl.2.2 _ _ h) (kk H locs ls hP hS hl)
theorem r_lload {i : Nat} {x : Int64} (hX : Fx X G own cc nL d) (hd : decode cc pc = .ok (.lload i, 2)) (h : lv i = some (.long x)) (kk : RR X G nL (pc + 2) lv (.long x :: st) σ) : RR X G nL pc lv st σ :=
  fun H locs ls hP hS hl => lv_lload hX.1 hX.2.1 hd (hl.2.2 _ _ h) (kk H locs ls hP hS hl)
theorem r_aload_n {k : Fin 4} {v : Value} (hX : Fx X G own cc nL d) (hd : decode cc pc = .ok (.aload_n k, 1)) (h : lv (k : Nat) = some v) (hr : ∃ a : Nat, v = .ref a) (kk : RR X G nL (pc + 1) lv (v :: st) σ) : RR X G nL pc lv st σ := by
  obtain ⟨a, rfl⟩ := hr
  exact fun H locs ls hP hS hl => lv_aload_n hX.1 hX.2.1 hd rfl (hl.2.2 _ _ h) (kk H locs ls hP hS hl)
theorem r_aload {i : Nat} {v : Value} (hX : Fx X G own cc nL d) (hd : decode cc pc = .ok (.aload i, 2)) (h : lv i = some v) (hr : ∃ a : Nat, v = .ref a) (kk : RR X G nL (pc + 2) lv (v :: st) σ) : RR X G nL pc lv st σ := by
  obtain ⟨a, rfl⟩ := hr
  exact fun H locs ls hP hS hl => lv_aload hX.1 hX.2.1 hd (hl.2.2 _ _ h) (kk H locs ls hP hS hl)
theorem r_istore_n {k : Fin 4} {x : Int32} (hX : Fx X G own cc nL d) (hd : decode cc pc = .ok (.istore_n k, 1)) (hn : (k : Nat) < nL) (kk : RR X G nL (pc + 1) (lu lv k (.int x)) st σ) : RR X G nL pc lv (.int x :: st) σ :=
  fun H locs ls hP hS hl => lv_istore_n hX.1 hX.2.1 hd rfl (lh_to hl) hn rfl (fun ls' h' => kk H locs ls' hP hS (lh_lu hl h'))
theorem r_istore {i : Nat} {x : Int32} (hX : Fx X G own cc nL d) (hd : decode cc pc = .ok (.istore i, 2)) (hn : i < nL) (kk : RR X G nL (pc + 2) (lu lv i (.int x)) st σ) : RR X G nL pc lv (.int x :: st) σ :=
  fun H locs ls hP hS hl => lv_istore hX.1 hX.2.1 hd (lh_to hl) hn rfl (fun ls' h' => kk H locs ls' hP hS (lh_lu hl h'))
theorem r_astore_n {k : Fin 4} {v : Value} (hX : Fx X G own cc nL d) (hd : decode cc pc = .ok (.astore_n k, 1)) (hn : (k : Nat) < nL) (hr : ∃ a : Nat, v = .ref a) (kk : RR X G nL (pc + 1) (lu lv k v) st σ) : RR X G nL pc lv (v :: st) σ := by
  obtain ⟨a, rfl⟩ := hr
  exact fun H locs ls hP hS hl => lv_astore_n hX.1 hX.2.1 hd rfl (lh_to hl) hn rfl (fun ls' h' => kk H locs ls' hP hS (lh_lu hl h'))
theorem r_astore {i : Nat} {v : Value} (hX : Fx X G own cc nL d) (hd : decode cc pc = .ok (.astore i, 2)) (hn : i < nL) (hr : ∃ a : Nat, v = .ref a) (kk : RR X G nL (pc + 2) (lu lv i v) st σ) : RR X G nL pc lv (v :: st) σ := by
  obtain ⟨a, rfl⟩ := hr
  exact fun H locs ls hP hS hl => lv_astore hX.1 hX.2.1 hd (lh_to hl) hn rfl (fun ls' h' => kk H locs ls' hP hS (lh_lu hl h'))
theorem r_iinc {i : Nat} {n : Int} {x v : Int32} (hX : Fx X G own cc nL d) (hd : decode cc pc = .ok (.iinc i n, 3)) (h : lv i = some (.int x)) (hn : i < nL) (hv : x + Int32.ofInt n = v) (kk : RR X G nL (pc + 3) (lu lv i (.int v)) st σ) : RR X G nL pc lv st σ := by
  intro H locs ls hP hS hl
  have hm : (i, Value.int x) ∈ (List.range nL).filterMap (fun i => (lv i).map (fun v => (i, v))) := List.mem_filterMap.mpr ⟨i, List.mem_range.mpr hn, by rw [h]; rfl⟩
  obtain ⟨k, hk⟩ := List.getElem?_of_mem hm
  exact lv_iinc hX.1 hX.2.1 hd (lh_to hl) hk hv hn rfl (fun ls' h' => kk H locs ls' hP hS (lh_lu hl h'))
theorem r_goto {off : Int} {tgt : Nat} (hX : Fx X G own cc nL d) (hd : decode cc pc = .ok (.goto off, 3)) (ht : (pc : Int) + off = (tgt : Int)) (kk : RR X G nL tgt lv st σ) : RR X G nL pc lv st σ :=
  fun H locs ls hP hS hl => lv_goto hX.1 hX.2.1 hd ht (kk H locs ls hP hS hl)
theorem r_ldc {idx : Nat} {v : Int32} (hX : Fx X G own cc nL d) (hd : decode cc pc = .ok (.ldc idx, 2)) (hk : KL own idx v) (kk : RR X G nL (pc + 2) lv (.int v :: st) σ) : RR X G nL pc lv st σ :=
  fun H locs ls hP hS hl => lv_ldc hX.1 hX.2.1 hX.2.2.2.1 (hX.2.2.2.2.1 _ hk) hd (kk H locs ls hP hS hl)
theorem r_ldcw {idx : Nat} {v : Int32} (hX : Fx X G own cc nL d) (hd : decode cc pc = .ok (.ldc_w idx, 3)) (hk : KL own idx v) (kk : RR X G nL (pc + 3) lv (.int v :: st) σ) : RR X G nL pc lv st σ :=
  fun H locs ls hP hS hl => lv_ldcw hX.1 hX.2.1 hX.2.2.2.1 (hX.2.2.2.2.1 _ hk) hd (kk H locs ls hP hS hl)
theorem r_ldc2 {idx : Nat} {v : Int64} (hX : Fx X G own cc nL d) (hd : decode cc pc = .ok (.ldc2_w idx, 3)) (hk : K2 own idx v) (kk : RR X G nL (pc + 3) lv (.long v :: st) σ) : RR X G nL pc lv st σ :=
  fun H locs ls hP hS hl => lv_ldc2 hX.1 hX.2.1 hX.2.2.2.1 (hX.2.2.2.2.1 _ hk) hd (kk H locs ls hP hS hl)
theorem r_tableIn {dflt lo hi : Int} {offs : Array Int} {len : Nat} {x : Int32} {off : Int} {tgt : Nat} (hX : Fx X G own cc nL d) (hd : decode cc pc = .ok (.tableswitch dflt lo hi offs, len)) (h1 : ¬ x.toInt < lo) (h2 : ¬ hi < x.toInt) (ho : offs[(x.toInt - lo).toNat]? = some off) (ht : (pc : Int) + off = (tgt : Int)) (kk : RR X G nL tgt lv st σ) : RR X G nL pc lv (.int x :: st) σ :=
  fun H locs ls hP hS hl => lv_tableIn hX.1 hX.2.1 hd h1 h2 ho ht (kk H locs ls hP hS hl)
theorem r_tableOut {dflt lo hi : Int} {offs : Array Int} {len : Nat} {x : Int32} {tgt : Nat} (hX : Fx X G own cc nL d) (hd : decode cc pc = .ok (.tableswitch dflt lo hi offs, len)) (h : x.toInt < lo ∨ hi < x.toInt) (ht : (pc : Int) + dflt = (tgt : Int)) (kk : RR X G nL tgt lv st σ) : RR X G nL pc lv (.int x :: st) σ :=
  fun H locs ls hP hS hl => lv_tableOut hX.1 hX.2.1 hd h ht (kk H locs ls hP hS hl)
theorem r_lookup {dflt : Int} {ps : Array (Int × Int)} {len : Nat} {x : Int32} {off : Int} {tgt : Nat} (hX : Fx X G own cc nL d) (hd : decode cc pc = .ok (.lookupswitch dflt ps, len)) (hp : (ps.toList.zip (ps.toList.drop 1)).all (fun (a, next) => a.1 < next.1) = true) (ho : Op.lookupswitch.offset ps.toList dflt x.toInt = off) (ht : (pc : Int) + off = (tgt : Int)) (kk : RR X G nL tgt lv st σ) : RR X G nL pc lv (.int x :: st) σ :=
  fun H locs ls hP hS hl => lv_lookup hX.1 hX.2.1 hd hp ho ht (kk H locs ls hP hS hl)
theorem inlAll {ci : Nat} {q : vw_C} (h : vwCl[ci]? = some q) : ∀ w ∈ u_ws q.1 q.2.1 q.2.2, w ∈ wsL_law := by
  rcases ci with _ | _ | _ | _ | _ | _ | _ | _ | _ | ci
  · cases h; exact inlX0
  · cases h; exact inlX1
  · cases h; exact inlX2
  · cases h; exact inlX3
  · cases h; exact inlX4
  · cases h; exact inlX5
  · cases h; exact inlX6
  · cases h; exact inlX7
  · cases h; exact inlX8
  · cases h
theorem ce_lO {G : GM} {σ : SG} {k ci : Nat} {fl : List LF} (hl : lay k = lO ci fl) : (cs G σ)[k]? = some (G.2.2.1 k, .inr (ci, fl.map (fv G σ))) := by
  rw [cs_at (lt_lO hl), ce, hl]; rfl
theorem ce_lI {G : GM} {σ : SG} {k n r o : Nat} (hl : lay k = lI n r o) (hn : 0 < n) : (cs G σ)[k]? = some (G.2.2.1 k, .inl (G.2.1 0, n, .inl (ia σ n r o))) := by
  rw [cs_at (lt_lI hl hn), ce, hl]; rfl
theorem ce_lR {G : GM} {σ : SG} {k c n : Nat} {f : Nat → Nat} (hl : lay k = lR c n f) : (cs G σ)[k]? = some (G.2.2.1 k, .inl (G.2.1 c, n, .inr (.inr (.inr (.inr (fun i => some (G.2.2.1 (f i)))))))) := by
  rw [cs_at (lt_lR hl), ce, hl]; rfl
/-- a field is read -/
theorem r_get {idx ci j k : Nat} {fl : List LF} {x : LF} (hX : Fx X G own cc nL d) (hd : decode cc pc = .ok (.getfield idx, 3)) (hf : FL own idx ci j) (hl : lay k = lO ci fl) (hj : fl[j]? = some x) (kk : RR X G nL (pc + 3) lv (fv G σ x :: st) σ) : RR X G nL pc lv (rf G k :: st) σ := by
  intro H locs ls hP hS hls
  obtain ⟨C, T, N, h1, h2, h3⟩ := hf
  refine va_get (D := G.1) (ci := ci) (C := C) (T := T) (N := N) hX.1 hX.2.1 hX.2.2.2.2.1 (inlAll h1) hX.2.2.2.1 hX.2.2.2.2.2.1 hP k (ce_lO hl) h1 j h2 (hX.2.2.2.2.1 _ h3) (fun _ h9 => h9) (v := fv G σ x) ?_ hd (kk H locs ls hP hS hls)
  rw [List.getElem?_map, hj]; rfl
theorem r_geti {idx ci j k r o : Nat} {fl : List LF} (hX : Fx X G own cc nL d) (hd : decode cc pc = .ok (.getfield idx, 3)) (hf : FL own idx ci j) (hl : lay k = lO ci fl) (hj : fl[j]? = some (fI r o)) (kk : RR X G nL (pc + 3) lv (.int (σ r o) :: st) σ) : RR X G nL pc lv (rf G k :: st) σ := r_get hX hd hf hl hj kk
theorem r_getr {idx ci j k q : Nat} {fl : List LF} (hX : Fx X G own cc nL d) (hd : decode cc pc = .ok (.getfield idx, 3)) (hf : FL own idx ci j) (hl : lay k = lO ci fl) (hj : fl[j]? = some (fR q)) (kk : RR X G nL (pc + 3) lv (rf G q :: st) σ) : RR X G nL pc lv (rf G k :: st) σ := r_get hX hd hf hl hj kk
/-- what a field's descriptor is, whether it is final, and its type -/
def FT (ci j : Nat) (ty : FieldType) : Prop := ∀ (C : String) (T : u_T) (N : Nat), vwCl[ci]? = some (C, T, N) → (T j).2.2.2 = false ∧ parseFieldDescriptor (T j).2.2.1 = some ty
theorem tyAll {ci : Nat} {q : vw_C} (h : vwCl[ci]? = some q) : ∃ t : Nat → FieldType, ∀ k, k < q.2.2 → parseFieldDescriptor (q.2.1 k).2.2.1 = some (t k) := by
  rcases ci with _ | _ | _ | _ | _ | _ | _ | _ | _ | ci
  · cases h; exact ⟨_, tyX0_ok⟩
  · cases h; exact ⟨_, tyX1_ok⟩
  · cases h; exact ⟨_, tyX2_ok⟩
  · cases h; exact ⟨_, tyX3_ok⟩
  · cases h; exact ⟨_, tyX4_ok⟩
  · cases h; exact ⟨_, tyX5_ok⟩
  · cases h; exact ⟨_, tyX6_ok⟩
  · cases h; exact ⟨_, tyX7_ok⟩
  · cases h; exact ⟨_, tyX8_ok⟩
  · cases h
theorem nmAll {ci : Nat} {q : vw_C} (h : vwCl[ci]? = some q) : ∀ a, a < q.2.2 → ∀ b, b < q.2.2 → a ≠ b → (q.2.1 a).2.1 ≠ (q.2.1 b).2.1 := by
  rcases ci with _ | _ | _ | _ | _ | _ | _ | _ | _ | ci
  · cases h; exact nmX0
  · cases h; exact nmX1
  · cases h; exact nmX2
  · cases h; exact nmX3
  · cases h; exact nmX4
  · cases h; exact nmX5
  · cases h; exact nmX6
  · cases h; exact nmX7
  · cases h; exact nmX8
  · cases h
/-- an int field is written -/
theorem r_put {idx ci j k r o : Nat} {fl : List LF} {ty : FieldType} {x : Int32} (hX : Fx X G own cc nL d) (hd : decode cc pc = .ok (.putfield idx, 3)) (hf : FL own idx ci j) (hl : lay k = lO ci fl) (hj : fl[j]? = some (fI r o)) (ht : FT ci j ty) (hn : narrow ty (.int x) = .int x) (hfit : fits ty (.int x) = true) (kk : RR X G nL (pc + 3) lv st (su σ r o x)) : RR X G nL pc lv (.int x :: rf G k :: st) σ := by
  intro H locs ls hP hS hls
  obtain ⟨C, T, N, h1, h2, h3⟩ := hf
  obtain ⟨t, htt⟩ := tyAll h1
  obtain ⟨hfin, hdesc⟩ := ht C T N h1
  refine va_put (D := G.1) (ci := ci) (C := C) (T := T) (N := N) (v := .int x) hX.1 hX.2.1 hX.2.2.2.2.1 (inlAll h1) t htt (nmAll h1) hX.2.2.2.1 hX.2.2.2.2.2.1 hP (cs_D hX.2.2.2.2.2.2.1) hS k (ce_lO hl) h1 j h2 (hX.2.2.2.2.1 _ h3) (fun _ h9 => h9) hfin hdesc hn hfit ?_ hd ?_
  · rw [List.length_map]
    exact (List.getElem?_eq_some_iff.mp hj).1
  · intro H1 locs1 hP1 _ hS1
    rw [cs_fI hl hj] at hP1
    exact kk H1 locs1 ls hP1 hS1 hls
theorem r_puti {idx ci j k r o : Nat} {fl : List LF} {x : Int32} (hX : Fx X G own cc nL d) (hd : decode cc pc = .ok (.putfield idx, 3)) (hf : FL own idx ci j) (hl : lay k = lO ci fl) (hj : fl[j]? = some (fI r o)) (ht : FT ci j .int) (kk : RR X G nL (pc + 3) lv st (su σ r o x)) : RR X G nL pc lv (.int x :: rf G k :: st) σ := r_put hX hd hf hl hj ht rfl rfl kk
theorem ia_at {σ : SG} {n r o j : Nat} (h : j < n) : ia σ n r o j = σ r (o + j) := if_pos h
theorem r_iald {k n r o j q : Nat} {i : Int32} (hX : Fx X G own cc nL d) (hd : decode cc pc = .ok (.iaload, 1)) (hl : lay k = lI n r o) (hi : i = nI j) (hj : j < n) (hn : n < 2 ^ 31) (hq : o + j = q) (kk : RR X G nL (pc + 1) lv (.int (σ r q) :: st) σ) : RR X G nL pc lv (.int i :: rf G k :: st) σ := by
  intro H locs ls hP hS hls
  subst hi; subst hq
  refine va_iald (D := G.1) (cl := vwCl) (tys := ty5 G) hX.1 hX.2.1 hX.2.2.2.2.2.1 hP k 0 (ce_lI hl (by omega)) rfl (vp_in_nI hj hn) hd ?_
  rw [nI_clamp (by omega), ia_at hj]
  exact kk H locs ls hP hS hls
theorem r_iast {k n r o j q : Nat} {i x : Int32} (hX : Fx X G own cc nL d) (hd : decode cc pc = .ok (.iastore, 1)) (hl : lay k = lI n r o) (hi : i = nI j) (hj : j < n) (hn : n < 2 ^ 31) (hq : o + j = q) (kk : RR X G nL (pc + 1) lv st (su σ r q x)) : RR X G nL pc lv (.int x :: .int i :: rf G k :: st) σ := by
  intro H locs ls hP hS hls
  subst hi; subst hq
  refine va_iast (D := G.1) (cl := vwCl) (tys := ty5 G) hX.1 hX.2.1 hX.2.2.2.2.2.1 hP (cs_D hX.2.2.2.2.2.2.1) hS k 0 (ce_lI hl (by omega)) rfl (vp_in_nI hj hn) hd ?_
  intro H1 locs1 hP1 _ hS1
  rw [nI_clamp (by omega), cs_lI hl hj] at hP1
  exact kk H1 locs1 ls hP1 hS1 hls
theorem r_aald {k c n j : Nat} {f : Nat → Nat} {i : Int32} (hX : Fx X G own cc nL d) (hd : decode cc pc = .ok (.aaload, 1)) (hl : lay k = lR c n f) (hc : ∃ C, (ty5 G)[c]? = some (G.2.1 c, .object C)) (hi : i = nI j) (hj : j < n) (hn : n < 2 ^ 31) (kk : RR X G nL (pc + 1) lv (rf G (f j) :: st) σ) : RR X G nL pc lv (.int i :: rf G k :: st) σ := by
  intro H locs ls hP hS hls
  subst hi
  obtain ⟨C, hc⟩ := hc
  refine va_aldq (D := G.1) (cl := vwCl) (tys := ty5 G) hX.1 hX.2.1 hX.2.2.2.2.2.1 hP k c (ce_lR hl) hc (vp_in_nI hj hn) hd ?_
  rw [nI_clamp (by omega)]
  exact kk H locs ls hP hS hls
theorem r_alen {k n r o : Nat} (hX : Fx X G own cc nL d) (hd : decode cc pc = .ok (.arraylength, 1)) (hl : lay k = lI n r o) (hn : 0 < n) (kk : RR X G nL (pc + 1) lv (.int (nI n) :: st) σ) : RR X G nL pc lv (rf G k :: st) σ := by
  intro H locs ls hP hS hls
  exact va_alen (D := G.1) (cl := vwCl) (tys := ty5 G) hX.1 hX.2.1 hX.2.2.2.2.2.1 hP k 0 (ce_lI hl hn) rfl rfl hd (kk H locs ls hP hS hls)
/-- the method's ends -/
theorem r_iret {Q : Option Value → SG → Prop} {x : Int32} (hX : Fx X G own cc nL d) (hZ : MZ X G (some .int) Q) (hd : decode cc pc = .ok (.ireturn, 1)) (hq : Q (some (.int x)) σ) : RR X G nL pc lv [.int x] σ := by
  intro H locs ls hP hS hls
  rw [hZ.1]
  exact W.iret hX.1 hX.2.1 hZ.2.1 (fun t ht _ => ⟨_, σ, rfl, hq, by rw [ht]; exact hP, hS.F ht⟩) hS.2.2 hd hZ.2.2
theorem r_zret {Q : Option Value → SG → Prop} {x : Int32} {ty : FieldType} (hX : Fx X G own cc nL d) (hZ : MZ X G (some ty) Q) (hd : decode cc pc = .ok (.ireturn, 1)) (hn : narrow ty (.int x) = .int x) (hq : Q (some (.int x)) σ) : RR X G nL pc lv [.int x] σ := by
  intro H locs ls hP hS hls
  rw [hZ.1]
  exact W.zret hX.1 hX.2.1 hZ.2.1 hn (fun t ht _ => ⟨_, σ, rfl, hq, by rw [ht]; exact hP, hS.F ht⟩) hS.2.2 hd hZ.2.2
theorem r_vret {Q : Option Value → SG → Prop} (hX : Fx X G own cc nL d) (hZ : MZ X G none Q) (hd : decode cc pc = .ok (.return_, 1)) (hq : Q none σ) : RR X G nL pc lv [] σ := by
  intro H locs ls hP hS hls
  rw [hZ.1]
  exact W.vret hX.1 hX.2.1 hZ.2.1 (fun t ht _ => ⟨_, σ, rfl, hq, by rw [ht]; exact hP, hS.F ht⟩) hS.2.2 hd hZ.2.2
end RRS
