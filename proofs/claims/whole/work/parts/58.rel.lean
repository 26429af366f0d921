/-! the class beside the reference -/
def NowR (σ : SG) (Ts : Nat → Tx) (nt n m : Nat) : Prop := CT (σ 3) (σ 0) Ts nt ∧ RT (σ 20) Ts nt ∧ WO (σ 0) n m ∧ Ag (131 + 5 * n) (σ 0) (σ 20) ∧ WG (σ 0) m ∧ m ≤ 9999
def ImgR (σ : SG) (Ts : Nat → Tx) (nt : Nat) : Prop := σ 9 60 = σ 38 0 ∧ (¬ σ 9 60 = 0 → ∃ n m nt' : Nat, nt' ≤ nt ∧ CT (σ 3) (σ 1) Ts nt' ∧ RT (σ 21) Ts nt' ∧ WO (σ 1) n m ∧ Ag (131 + 5 * n) (σ 1) (σ 21) ∧ WG (σ 1) m ∧ m ≤ 9999)
def ShR (σ : SG) : Prop := shEq (shC σ) (shR σ) ∧ SO (shC σ) ∧ SP (shC σ)
def SlR (σ : SG) : Prop := ∀ i, i < 5 → σ 26 i = σ 8 (64 * i) ∧ (σ 8 (64 * i) = 1 → σ 27 i = σ 8 (64 * i + 2) ∧ σ 28 i = woK (σ 8 (64 * i + 2)) (σ 8 (64 * i + 3))) ∧ (σ 8 (64 * i) = 2 → σ 29 i = σ 8 (64 * i + 35) ∧ ∀ p, p < 24 → σ 30 (24 * i + p) = σ 8 (64 * i + 10 + p)) ∧ (σ 8 (64 * i) = 3 → σ 27 i = σ 8 (64 * i + 1)) ∧ (∃ c : Nat, c ≤ 5 ∧ σ 8 (64 * i + 2) = nI c) ∧ (∃ z : Nat, z ≤ 24 ∧ σ 8 (64 * i + 35) = nI z) ∧ ∃ z : Nat, z ≤ 24 ∧ σ 29 i = nI z
def TpR (σ : SG) : Prop := ∃ L : Nat, L ≤ 96 ∧ σ 5 96 = nI L ∧ σ 38 1 = nI L ∧ ∀ i, i < 96 → σ 5 i = σ 32 i ∧ ∃ x : Nat, x < 256 ∧ σ 5 i = nI x
def WtR (σ : SG) : Prop := ∃ k : Nat, k ≤ 60 ∧ σ 9 61 = nI k ∧ σ 38 12 = nI k ∧ ∀ i, i < 60 → σ 9 i = σ 36 i
def Rel (σ : SG) : Prop := (∃ (Ts : Nat → Tx) (nt : Nat), (∃ n m : Nat, NowR σ Ts nt n m) ∧ ImgR σ Ts nt) ∧ ShR σ ∧ SlR σ ∧ TpR σ ∧ WtR σ
theorem NowR.same {σ s : SG} {Ts : Nat → Tx} {nt n m : Nat} (h : NowR σ Ts nt n m) (e0 : s 0 = σ 0) (e3 : s 3 = σ 3) (e20 : s 20 = σ 20) : NowR s Ts nt n m := by
  unfold NowR
  rw [e0, e3, e20]
  exact h
theorem ImgR.same {σ s : SG} {Ts : Nat → Tx} {nt : Nat} (h : ImgR σ Ts nt) (e1 : s 1 = σ 1) (e3 : s 3 = σ 3) (e21 : s 21 = σ 21) (e9 : s 9 60 = σ 9 60) (e38 : s 38 0 = σ 38 0) : ImgR s Ts nt := by
  unfold ImgR
  rw [e1, e3, e21, e9, e38]
  exact h
theorem ShR.same {σ s : SG} (h : ShR σ) (e7 : s 7 = σ 7) (e23 : s 23 = σ 23) (e24 : s 24 = σ 24) (e25 : s 25 = σ 25) : ShR s := by
  have a : shC s = shC σ := by unfold shC; rw [e7]
  have b : shR s = shR σ := by unfold shR; rw [e23, e24, e25]
  unfold ShR
  rw [a, b]
  exact h
theorem SlR.same {σ s : SG} (h : SlR σ) (e8 : s 8 = σ 8) (e26 : s 26 = σ 26) (e27 : s 27 = σ 27) (e28 : s 28 = σ 28) (e29 : s 29 = σ 29) (e30 : s 30 = σ 30) : SlR s := by
  unfold SlR
  rw [e8, e26, e27, e28, e29, e30]
  exact h
theorem TpR.same {σ s : SG} (h : TpR σ) (e5 : s 5 = σ 5) (e32 : s 32 = σ 32) (e38 : s 38 1 = σ 38 1) : TpR s := by
  unfold TpR
  rw [e5, e32, e38]
  exact h
theorem WtR.same {σ s : SG} (h : WtR σ) (e9 : s 9 = σ 9) (e36 : s 36 = σ 36) (e38 : s 38 12 = σ 38 12) : WtR s := by
  unfold WtR
  rw [e9, e36, e38]
  exact h
/-- the regions that count -/
theorem Rel.eqr {σ s : SG} (h : Rel σ) (e : ∀ r, r ∉ [2, 4, 6, 22, 31, 33, 34, 35, 37] → s r = σ r) : Rel s := by
  obtain ⟨⟨Ts, nt, ⟨n, m, h1⟩, h2⟩, h3, h4, h5, h6⟩ := h
  have e38 := e 38 (by decide)
  have e9 := e 9 (by decide)
  exact ⟨⟨Ts, nt, ⟨n, m, h1.same (e 0 (by decide)) (e 3 (by decide)) (e 20 (by decide))⟩, h2.same (e 1 (by decide)) (e 3 (by decide)) (e 21 (by decide)) (by rw [e9]) (by rw [e38])⟩, h3.same (e 7 (by decide)) (e 23 (by decide)) (e 24 (by decide)) (e 25 (by decide)), h4.same (e 8 (by decide)) (e 26 (by decide)) (e 27 (by decide)) (e 28 (by decide)) (e 29 (by decide)) (e 30 (by decide)), h5.same (e 5 (by decide)) (e 32 (by decide)) (by rw [e38]), h6.same e9 (e 36 (by decide)) (by rw [e38])⟩
/-- behind calls that only look -/
theorem Rel.look {σ s s' : SG} (h : Rel σ) (h1 : same [2, 4, 6] σ s) (h2 : same [22, 31, 33, 34, 35, 37] s s') : Rel s' := h.eqr (fun r hr => by
  rw [h2 r (fun z => hr (by simp only [List.mem_cons, List.not_mem_nil, or_false] at z ⊢; omega)), h1 r (fun z => hr (by simp only [List.mem_cons, List.not_mem_nil, or_false] at z ⊢; omega))])
/-- a call of the class, then the same of the reference -/
def Pair (G : GM) (y1 : MethodName) (c1 : ByteArray) (m1 d1 : Nat) (y2 : MethodName) (c2 : ByteArray) (m2 d2 : Nat) (av : List Value) (σ : SG) : Prop := ∃ P : Int32 → SG → Prop, CI G y1 c1 m1 (some .int) d1 (rf G 0 :: av) σ P ∧ ∀ r s, P r s → CI G y2 c2 m2 (some .int) d2 (rf G 109 :: av) s (fun r' s' => r' = r ∧ Rel s')
theorem Pair.mk {G : GM} {y1 : MethodName} {c1 : ByteArray} {m1 d1 : Nat} {y2 : MethodName} {c2 : ByteArray} {m2 d2 : Nat} {av : List Value} {σ : SG} {P : Int32 → SG → Prop} {Q : Int32 → SG → Int32 → SG → Prop} (h1 : CI G y1 c1 m1 (some .int) d1 (rf G 0 :: av) σ P) (h2 : ∀ r s, P r s → CI G y2 c2 m2 (some .int) d2 (rf G 109 :: av) s (Q r s)) (h3 : ∀ r s r' s', P r s → Q r s r' s' → r' = r ∧ Rel s') : Pair G y1 c1 m1 d1 y2 c2 m2 d2 av σ :=
  ⟨P, h1, fun r s hp => Con.mono (h2 r s hp) (fun v s' ⟨r', e, q⟩ => ⟨r', e, h3 r s r' s' hp q⟩)⟩
/-- agreement of what is told -/
theorem lkW_ag {V : Int32 → Int32 → Int32 → Int32} {N a : Nat} {w w' : Nat → Int32} (h : Ag N w w') (ha : 131 + 5 * a + 5 ≤ N) : lkW V w a = lkW V w' a := by
  unfold lkW
  rw [h _ (by omega), h _ (by omega), h _ (by omega), h _ (by omega)]
theorem toldF_ag {V : Int32 → Int32 → Int32 → Int32} {n : Nat} {w w' : Nat → Int32} {k what : Int32} (h : Ag (131 + 5 * n) w w') (h8 : n ≤ 8) : toldF V w n k what = toldF V w' n k what := by
  unfold toldF
  cases hi : ix k n with
  | none => rfl
  | some a =>
    have ha := (ix_lt hi (by omega)).1
    dsimp only
    rw [lkW_ag h (by omega), h _ (by omega), h _ (by omega), h _ (by omega), h _ (by omega), h _ (by omega)]
theorem asF_ag {n : Nat} {w w' : Nat → Int32} {k kind : Int32} (h : Ag (131 + 5 * n) w w') (h8 : n ≤ 8) : asF w n k kind = asF w' n k kind := by
  unfold asF
  cases hi : ix k n with
  | none => rfl
  | some a =>
    have ha := (ix_lt hi (by omega)).1
    dsimp only
    rw [h _ (by omega), h _ (by omega)]
theorem yardF_ag {N : Nat} {w w' : Nat → Int32} {y what : Int32} (h : Ag N w w') (hN : 131 ≤ N) : yardF w y what = yardF w' y what := by
  unfold yardF
  cases hi : ix y 60 with
  | none => rfl
  | some a =>
    have ha := (ix_lt hi (by omega)).1
    dsimp only
    rw [h _ (by omega), h _ (by omega)]
theorem trL_ag {N : Nat} {w w' : Nat → Int32} (h : Ag N w w') : ∀ k, 11 + k ≤ N → trL w k = trL w' k := by
  intro k
  induction k with
  | zero => intro _; rfl
  | succ k ih => intro hk; unfold trL; rw [ih (by omega), h _ (by omega)]
theorem trM_ag {N : Nat} {w w' : Nat → Int32} (h : Ag N w w') : ∀ k, 11 + k ≤ N → trM w k = trM w' k := by
  intro k
  induction k with
  | zero => intro _; rfl
  | succ k ih => intro hk; unfold trM; rw [ih (by omega), trL_ag h (k + 1) hk]
theorem wayF_ag {n : Nat} {w w' : Nat → Int32} {what : Int32} (h : Ag (131 + 5 * n) w w') : wayF w n what = wayF w' n what := by
  unfold wayF
  rw [sumW_ag h 60 (by omega), sumW_ag h 60 (by omega), h 3 (by omega), h 4 (by omega), h 5 (by omega), sackW_ag h n (by omega), trM_ag h 60 (by omega)]
section AGV
variable {V : Int32 → Int32 → Int32 → Int32} {n m : Nat} {w w' : Nat → Int32}
theorem behF_ag {q what : Int32} (h : Ag (131 + 5 * n) w w') (hV : VO V) (hW : WO w n m) : behF V n w q what = behF V n w' q what := by
  unfold behF
  have A := minN_ag h hV hW q.toNatClampNeg
  have h8 := hW.2.1
  by_cases c : (0 ≤ q.toInt ∧ q.toInt ≤ 100) ∧ (0 ≤ what.toInt ∧ what.toInt ≤ 2 + n)
  · rw [if_pos c, if_pos c, sumW_ag A 60 (by omega), A 4 (by omega), A 5 (by omega)]
    by_cases c0 : what = 0
    · rw [if_pos c0, if_pos c0]
    · rw [if_neg c0, if_neg c0]
      by_cases c1 : what = 1
      · rw [if_pos c1, if_pos c1]
      · rw [if_neg c1, if_neg c1]
        by_cases c2 : what = 2
        · rw [if_pos c2, if_pos c2]
        · rw [if_neg c2, if_neg c2]
          obtain ⟨b, hb, rfl⟩ := ix_of (n := 3 + n) (k := what) ⟨by omega, by omega⟩ (by omega)
          have a0 : b ≠ 0 := fun e => c0 (by rw [e]; rfl)
          have a1 : b ≠ 1 := fun e => c1 (by rw [e]; rfl)
          have a2 : b ≠ 2 := fun e => c2 (by rw [e]; rfl)
          rw [nI_clamp (by omega), A _ (by omega)]
  · rw [if_neg c, if_neg c]
theorem empN_ag (h : Ag (131 + 5 * n) w w') (hV : VO V) (hW : WO w n m) : ∀ j, empN V n w j = empN V n w' j := by
  intro j
  induction j with
  | zero => rfl
  | succ j ih =>
    unfold empN
    have A := thrP_ag (minN_ag h hV hW (300 - j))
    by_cases c : thrP (minN V n w (300 - j)) n
    · rw [if_pos c, if_pos (A.mp c)]
    · rw [if_neg c, if_neg (fun z => c (A.mpr z)), ih]
theorem thiF_ag {q what : Int32} (h : Ag (131 + 5 * n) w w') (hV : VO V) (hW : WO w n m) : thiF V n w q what = thiF V n w' q what := by
  unfold thiF
  have A := minN_ag h hV hW q.toNatClampNeg
  have bl := bestY_le (w := minN V n w' q.toNatClampNeg) 59
  rw [bestY_ag A 59 (by omega), A _ (by omega)]
theorem patV_ag {q : Nat} (h : Ag (131 + 5 * n) w w') (hV : VO V) (hW : WO w n m) : patV V n w q = patV V n w' q := by
  funext k
  unfold patV
  exact sackW_ag (minN_ag (h.u (j := 131 + 5 * k) (fun _ => rfl)) hV hW.kind1 q) n (by omega)
theorem patF_ag {q what : Int32} (h : Ag (131 + 5 * n) w w') (hV : VO V) (hW : WO w n m) : patF V n w q what = patF V n w' q what := by
  unfold patF
  rw [patV_ag h hV hW]
theorem panF_ag {p q : Int32} (h : Ag (131 + 5 * n) w w') (hV : VO V) (hW : WO w n m) : panF V n w p q = panF V n w' p q := by
  unfold panF
  rw [panS_ag h hV hW]
theorem difS_f {f f' : Nat → Int32} {u : Nat → Int32} : ∀ k, (∀ j, j < k → f j = f' j) → difS f u k = difS f' u k := by
  intro k
  induction k with
  | zero => intro _; rfl
  | succ k ih =>
    intro hk
    unfold difS
    rw [ih (fun j hj => hk j (by omega)), hk k (by omega)]
theorem whosF_ag {S S' : Nat → Nat → Int32} {sheet q what : Int32} (h : Ag (131 + 5 * n) w w') (hV : VO V) (hW : WO w n m) (hE : shEq S S') (hS : SO S) : whosF V n w S sheet q what = whosF V n w' S' sheet q what := by
  unfold whosF
  cases hi : ix sheet 4 with
  | none => rfl
  | some a =>
    have ha := (ix_lt hi (by omega)).1
    obtain ⟨z, hz, ez⟩ := (hS a ha).2
    dsimp only
    rw [← hE a ha 24 (by omega), ← hE a ha 25 (by omega), ez, nI_clamp (by omega)]
    have e : whoV V n w (S a) z q.toNatClampNeg = whoV V n w' (S' a) z q.toNatClampNeg := by
      funext o
      unfold whoV
      rw [difS_ag (minN_ag (aloW_ag (o := o) h n (Nat.le_refl _)) hV (aloW_WO hW n (Nat.le_refl n)) q.toNatClampNeg) z (by omega)]
      exact difS_f z (fun j hj => hE a ha j (by omega))
    unfold wsoF
    rw [e]
end AGV
theorem feeF_ag {Ts : Nat → Tx} {nt N : Nat} {w w' : Nat → Int32} (h : Ag N w w') (hN : 131 ≤ N) : feeF Ts nt w = feeF Ts nt w' := by
  unfold feeF
  rw [h 4 (by omega), h 5 (by omega)]
theorem finF_ag {Ts : Nat → Tx} {nt n : Nat} {w w' : Nat → Int32} {k : Int32} (h : Ag (131 + 5 * n) w w') (h8 : n ≤ 8) : finF Ts nt n w k = finF Ts nt n w' k := by
  unfold finF
  cases hi : ix k n with
  | none => rfl
  | some a =>
    have ha := (ix_lt hi (by omega)).1
    dsimp only
    rw [h _ (by omega), h _ (by omega)]
theorem reaN_ag {f f' w w' : Nat → Int32} {z N : Nat} (hz : z ≤ 24) (hf : ∀ j, j < z → f j = f' j) (h : Ag N w w') (hN : 131 ≤ N) : ∀ j, j ≤ z → reaN f w z j = reaN f' w' z j := by
  intro j
  induction j with
  | zero => intro _; rfl
  | succ j ih =>
    intro hj
    unfold reaN
    rw [hf _ (by omega), h _ (by omega), ih (by omega)]
theorem readF_ag {S S' : Nat → Nat → Int32} {w w' : Nat → Int32} {N : Nat} {sheet : Int32} (hE : shEq S S') (hS : SO S) (h : Ag N w w') (hN : 131 ≤ N) : readF S w sheet = readF S' w' sheet := by
  unfold readF
  cases hi : ix sheet 4 with
  | none => rfl
  | some a =>
    have ha := (ix_lt hi (by omega)).1
    obtain ⟨z, hz, ez⟩ := (hS a ha).2
    dsimp only
    rw [← hE a ha 24 (by omega), ← hE a ha 25 (by omega), ez, nI_clamp (by omega), reaN_ag hz (fun j hj => hE a ha j (by omega)) h hN z (Nat.le_refl z)]
theorem countF_ag {N : Nat} {w w' : Nat → Int32} {a b what : Int32} (h : Ag N w w') (hN : 131 ≤ N) : countF w a b what = countF w' a b what := by
  unfold countF
  rw [h 0 (by omega), h 2 (by omega), h 7 (by omega), h 8 (by omega), h 9 (by omega), h 10 (by omega), h 1 (by omega), h 6 (by omega)]
theorem shz {σ : SG} (h : ShR σ) : ∀ a, a < 4 → ∃ z : Nat, z ≤ 24 ∧ σ 24 a = nI z := fun a ha => by
  obtain ⟨z, hz, ez⟩ := (h.2.1 a ha).2
  exact ⟨z, hz, by rw [← ez, h.1 a ha 25 (by omega), shR_size]⟩
