theorem Rel0 : Rel σ0 := by
  have z0 : ∀ r o, 2 < r → r ≠ 7 → r ≠ 8 → r ≠ 20 → r ≠ 23 → σ0 r o = 0 := fun r o h1 h2 h3 h4 h5 => by
    unfold σ0
    rw [if_neg (by omega), if_neg h2, if_neg h3, if_neg h4, if_neg h5]
  refine ⟨⟨fun _ => (0, 0, []), 0, ⟨0, 0, ⟨rfl, by omega, ?_, fun t ht => absurd ht (by omega)⟩, ⟨rfl, by omega, fun t ht => absurd ht (by omega)⟩, ⟨rfl, by omega, fun a ha => absurd ha (by omega), rfl, 0, by omega, rfl⟩, ?_, ⟨⟨0, by omega, rfl⟩, fun _ => 0, ?_, ?_⟩, by omega⟩, rfl, fun z => absurd rfl z⟩, ⟨?_, ?_, ?_⟩, ?_, ⟨0, by omega, rfl, rfl, fun i hi => ⟨rfl, 0, by omega, rfl⟩⟩, 0, by omega, rfl, rfl, fun i hi => rfl⟩
  · intro k hk
    match k, hk with
    | 0, _ => rfl
    | 1, _ => rfl
    | 2, _ => rfl
  · have : ∀ i, i < 131 → σ0 0 i = σ0 20 i := by decide +kernel
    exact this
  · intro j hj
    unfold σ0
    rw [if_pos (by omega), if_neg (by omega), if_neg (by omega)]
    rfl
  · decide
  · have : ∀ a, a < 4 → ∀ j, j < 26 → shC σ0 a j = shR σ0 a j := by decide
    exact this
  · intro a ha
    have : ∀ a, a < 4 → shC σ0 a 24 = -1 ∧ shC σ0 a 25 = nI 0 := by decide
    exact ⟨Or.inl (this a ha).1, 0, by omega, (this a ha).2⟩
  · intro a ha j hj
    have : ∀ a, a < 4 → ∀ j, j < 24 → shC σ0 a j = 0 := by decide
    rw [this a ha j hj]
    exact Or.inr (by decide)
  · intro i hi
    have : ∀ i, i < 5 → σ0 8 (64 * i) = 0 ∧ σ0 8 (64 * i + 2) = nI 0 ∧ σ0 8 (64 * i + 35) = nI 0 := by decide
    obtain ⟨a1, a2, a3⟩ := this i hi
    rw [a1]
    exact ⟨rfl, fun z => absurd z (by decide), fun z => absurd z (by decide), fun z => absurd z (by decide), ⟨0, by omega, a2⟩, ⟨0, by omega, a3⟩, 0, by omega, rfl⟩
/-! THE CLAIM OUT OF ONE WALK OF THE LAW'S BODY. Your part is whole_start (and what it stands on); all else here is the same for every law, but numbers. -/
def R_law : String := "BarleyLineLaw"
def lw_P (b : Addr) (xs : List Int32) (args : Array Value) (s : State) : Prop := args = #[.ref b] ∧ s.IntsAt b xs ∧ xs.length ≤ 3072 ∧ (Jvm.Cond.and given_1 narrow_1).before args s = true
def lw_Q (_ : Array Value) (s : State) (o : Outcome) (t : State) : Prop := o = .returned (some (.int 1)) ∧ Framed s o t [] 600000 7302250
def lw_Z (below : List Frame) (a : Array Value) (s : State) : State → Prop := fun t => ∃ o, t.status = .running ∧ Ended t below o ∧ lw_Q a s o t
/-- the law's own end, with 1 on the stack, nothing written that was there before, its room as the claim has it -/
theorem lw_ret {p : Program} {l : Launch} {e : Env} {s : State} {m : MethodId} {below : List Frame} {meth : Method} {c : Code} {b : Nat} (hx : p.tables.exec = Jvm.exec) (hb : c.code = code) (hr : meth.sig.returnType = ret) (hlocks : meth.locks = false) {pc : Nat} {H : Heap} {ls : Array Slot} (hdg : decode code pc = .ok (.ireturn, 1)) : W p l e room_1 s m #[Value.ref b] below meth c H [] 600000 7302250 (lw_Z below #[Value.ref b] s) (F0 m pc ls [.int 1]) := by
  intro T hT X
  obtain ⟨fs, hret, hrun, hended, hW, hframe⟩ := X.leave (v := some (.int 1)) (hlocks := hlocks) (fun h => by rw [hr] at h; cases h)
  have hmeth' : T.vm.method? m = some meth := X.method'
  refine ⟨T.setFrames fs, ?_, .returned (some (.int 1)), hrun, hended, rfl, ⟨_, rfl⟩, hW, hframe⟩
  jvm_step X.here [X.here.top, hx, hb, hdg, hmeth', hr, ret, narrow_b1]
  (try refine ⟨rfl, ?_⟩); (try refine ⟨rfl, ?_⟩)
  first | (intro acts; rw [hret _ acts rfl rfl rfl]) | rw [hret _ _ rfl rfl rfl]
  exact Steps.refl _
/-- what holds at the law's entry: the machine, the code, the tables' words (any of lw_tbl by 'hts w (by decide +kernel)'), the script of L ints xs at the cell b, what the Statement gives of the start (any of its parts by flat_of_before) -/
def lw_At (p : Program) (s : State) (m : MethodId) (meth : Method) (c : Code) (b L : Nat) (xs : Nat → Int32) : Prop :=
  p.tables.exec = Jvm.exec ∧ c.code = code ∧ meth.sig.returnType = ret ∧ c.maxLocals = 4 ∧ s.vm.findClass R_law = some m.cls ∧ (∀ w ∈ lw_tbl, w.before #[Value.ref b] s = true) ∧ va_X b L xs s s.heap ∧ b < s.heap.size ∧ meth.locks = false ∧ (Jvm.Cond.and given_1 narrow_1).before #[Value.ref b] s = true
/-- YOUR PART: from the entry, for every script of at most 3072 ints, the law comes to its end with true ('hflags': the launch's flags, for a law that throws: no stack traces) -/
theorem whole_start {p : Program} {e : Env} {s : State} {m : MethodId} {below : List Frame} {meth : Method} {c : Code} (l : Launch) (hflags : l.flags = flags0) {b L : Nat} {xs : Nat → Int32} (hL : L ≤ 3072) (C0 : lw_At p s m meth c b L xs) : W p l e room_1 s m #[Value.ref b] below meth c s.heap [] 0 0 (lw_Z below #[Value.ref b] s) (entryFrame m ([Value.ref b] : List Value).toArray 4) := by
  obtain ⟨hx, hb, hr, hml, hown, hts, hXs, hbl, hlocks, hgv⟩ := C0
  obtain ⟨D, cA, hK⟩ := st_K hts
  obtain ⟨adK, adV, tb, hKs⟩ := st_S hts hgv
  have hw : ∀ w ∈ wsL_law, w.before #[Value.ref b] s = true := fun w h => hts w (wsL_law_in w h)
  have key : ∀ (X : CX) (G0 : GM), X = (p, l, e, room_1, s, m, #[Value.ref b], below, meth, c, 128, 13087, lw_Z below #[Value.ref b] s) → G0 = (D, cA, (fun _ => 0), (fun q => s.heap.size ≤ q), adK, adV, tb) → RC X G0 4 0 0 0 (fun _ => 0) (fun _ => .inr (0, [])) 0 (ll [(0, .ref b)]) [] := by
    intro X G0 eX eG
    have hF : FC X G0 RL cL_law 4 200 128 13087 := by
      subst eX eG
      exact ⟨hx, hb, hml, hown, hw, hK, st_B hts rfl, Nat.le_of_ble_eq_true rfl, Nat.le_of_ble_eq_true rfl, Nat.le_of_ble_eq_true rfl, Nat.le_of_ble_eq_true rfl⟩
    refine k_new (ci := 7) (fs := df_7) tyX7 hF dL_law_0 kl_L_7 in_X7 ii_X7 rfl tyX7_ok df_7_ok (by omega) (by omega) (fun q1 => RC.go (b := 3) rfl ?_)
    refine k_dup hF dL_law_3 rfl (RC.go (b := 4) rfl ?_)
    refine k_callI hF dL_law_4 ml_L_9 im_X7_init rfl cd_X7_init (c_X7_init (a := q1) up_s up_s) (by decide) (by omega) (by omega) rfl rfl (Nat.le_of_ble_eq_true rfl) (fun ad1 c1 h1 => RC.go (b := 7) rfl ?_)
    refine k_astore_n hF dL_law_7 (by decide) ⟨_, rfl⟩ (RC.go (b := 8) rfl ?_)
    refine k_new (ci := 8) (fs := df_8) tyX8 hF dL_law_8 kl_L_10 in_X8 ii_X8 rfl tyX8_ok df_8_ok (by omega) (by omega) (fun q2 => RC.go (b := 11) rfl ?_)
    refine k_dup hF dL_law_11 rfl (RC.go (b := 12) rfl ?_)
    refine k_callI hF dL_law_12 ml_L_12 im_X8_init rfl cd_X8_init (c_X8_init (a := q2) up_s up_s) (by decide) (by omega) (by omega) rfl rfl (Nat.le_of_ble_eq_true rfl) (fun ad2 c2 h2 => RC.go (b := 15) rfl ?_)
    refine k_astore_n hF dL_law_15 (by decide) ⟨_, rfl⟩ (RC.go (b := 16) rfl ?_)
    refine k_iconst (v := 0) hF dL_law_16 (by decide) (RC.go (b := 17) rfl ?_)
    refine k_istore_n hF dL_law_17 (by decide) (RC.go (b := 18) rfl ?_)
    obtain ⟨g0, g1⟩ := h1
    obtain ⟨g2, g3, g4⟩ := h2
    have e0 : ad2 0 = q1 := by rw [g2 0 (by omega), up_n (by omega)]; exact g0
    have e109 : ad2 109 = q2 := by rw [g2 109 (by omega), up_s]
    have g5 : FR_ G0 0 109 ad2 c2 := g1.step (by decide +kernel) (fun j hj => by rw [g2 j (by omega), up_n (by omega)]) (fun j _ hj => by rw [g3 j hj, up_n (by omega)])
    have hE : ∀ j, j < 128 → EqE G0 (c2 j) (ce (GA G0 ad2) σ0 j) := fun j hj => by
      by_cases q : j < 109
      · exact g5 j (by omega) q
      · exact g4 j (by omega) hj
    refine RC.cut (l := [(0, .ref b), (1, rf (GA G0 ad2) 0), (2, rf (GA G0 ad2) 109), (3, .int (nI 0))]) ?_ ?_
    · intro H locs ls hP hD hS hl
      have hP' : va_P G0.1 vwCl (cs (GA G0 ad2) σ0) H := by
        intro k q hq
        have hk : k < 128 := by have := (List.getElem?_eq_some_iff.mp hq).1; rwa [cs_len] at this
        rw [cs_at hk] at hq
        cases hq
        exact hE k hk _ _ (hP k _ (cw_at hk))
      have hGD : GD (GA G0 ad2) := ⟨fun i j hi hj hij => hD.1 i j _ _ (cw_at hi) (cw_at hj) hij, fun i hi => hD.2 i _ (cw_at hi)⟩
      have hX : Fx X (GA G0 ad2) RL cL_law 4 200 := by
        subst eX eG
        exact ⟨hx, hb, hml, hown, hw, hK, hGD, hKs D cA ad2, Nat.le_of_ble_eq_true rfl, Nat.le_of_ble_eq_true rfl, Nat.le_of_ble_eq_true rfl, Nat.le_of_ble_eq_true rfl⟩
      have hB : SB X (GA G0 ad2) b L xs := by
        subst eX eG
        exact ⟨hXs, hbl, Nat.not_le.mpr hbl⟩
      have fin : ∀ lv σ, RR X (GA G0 ad2) 4 1394 lv [] σ := by
        intro lv σ
        refine r_iconst (v := 1) hX dL_law_1394 (by decide) (RR.pc (b := 1395) rfl ?_)
        subst eX eG
        intro H locs ls hP hS hl
        exact va_forget hS.2.2 (W.widen (k := 600000) (n := 7302250) (Nat.le_of_ble_eq_true rfl) (Nat.le_of_ble_eq_true rfl) (lw_ret hx hb hr hlocks dL_law_1395))
      have := lw_loop hX hB hL fin L 0 σ0 (by omega) (by omega) Rel0 H locs ls hP' hS hl
      subst eX
      exact this
    · intro q hq
      have r0 : rf (GA G0 ad2) 0 = .ref q1 := congrArg Value.ref e0
      have r109 : rf (GA G0 ad2) 109 = .ref q2 := congrArg Value.ref e109
      rw [r0, r109] at hq
      simp only [List.mem_cons, List.not_mem_nil, or_false] at hq
      rcases hq with rfl | rfl | rfl | rfl <;> rfl
  rw [lg_entry_eq]
  exact key _ _ rfl rfl _ _ _ (fun k q h => by simp [cw] at h) ⟨fun i j p q h => by simp [cw] at h, fun k q h => by simp [cw] at h⟩ va_S.rf (lh_of (lv_entry [.ref b] (n := 4) (Nat.le_of_ble_eq_true rfl)))
