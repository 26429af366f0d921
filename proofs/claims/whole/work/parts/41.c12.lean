/-! how much lies on the way: a bound -/
def sumN (f : Nat → Nat) : Nat → Nat
  | 0 => 0
  | k + 1 => sumN f k + f k
def updN (f : Nat → Nat) (i v : Nat) : Nat → Nat := fun j => if j = i then v else f j
theorem sumN_out {f : Nat → Nat} {i v : Nat} : ∀ {k : Nat}, k ≤ i → sumN (updN f i v) k = sumN f k := by
  intro k
  induction k with
  | zero => intro _; rfl
  | succ k ih =>
    intro h
    unfold sumN
    rw [ih (by omega)]
    unfold updN
    rw [if_neg (by omega)]
theorem sumN_u {f : Nat → Nat} {i v : Nat} : ∀ {k : Nat}, i < k → sumN (updN f i v) k + f i = sumN f k + v := by
  intro k
  induction k with
  | zero => intro h; omega
  | succ k ih =>
    intro h
    unfold sumN
    by_cases e : i = k
    · subst e
      rw [sumN_out (Nat.le_refl i)]
      unfold updN
      rw [if_pos rfl]
      omega
    · have := ih (by omega)
      have e2 : updN f i v k = f k := by unfold updN; rw [if_neg (by omega)]
      omega
theorem sumN_le {f : Nat → Nat} {i : Nat} : ∀ {k : Nat}, i < k → f i ≤ sumN f k := by
  intro k
  induction k with
  | zero => intro h; omega
  | succ k ih =>
    intro h
    unfold sumN
    by_cases e : i = k
    · subst e; omega
    · have := ih (by omega); omega
def RP (w : Nat → Int32) (f : Nat → Nat) : Prop := ∀ j, j < 60 → w (11 + j) = nI (f j)
theorem RP.u {w : Nat → Int32} {f : Nat → Nat} {k v : Nat} {x : Int32} (h : RP w f) (hx : x = nI v) : RP (upd w (11 + k) x) (updN f k v) := by
  intro j hj
  unfold updN
  by_cases e : j = k
  · subst e
    rw [pk_us, if_pos rfl, hx]
  · rw [pk_un (by omega), if_neg e]
    exact h j hj
theorem RP.o {w : Nat → Int32} {f : Nat → Nat} {i : Nat} {x : Int32} (h : RP w f) (hi : i < 11 ∨ 71 ≤ i) : RP (upd w i x) f := fun j hj => by rw [pk_un (by omega)]; exact h j hj
theorem RP.congr {w w' : Nat → Int32} {f : Nat → Nat} (h : RP w f) (e : ∀ i, 11 ≤ i → i < 71 → w' i = w i) : RP w' f := fun j hj => by rw [e _ (by omega) (by omega)]; exact h j hj
/-- the grains of a world are numbers; their sum -/
def GO (w : Nat → Int32) (B : Nat) : Prop := ∃ f : Nat → Nat, RP w f ∧ sumN f 60 ≤ B
theorem GO.congr {w w' : Nat → Int32} {B : Nat} (h : GO w B) (e : ∀ i, 11 ≤ i → i < 71 → w' i = w i) : GO w' B := h.elim (fun f hf => ⟨f, hf.1.congr e, hf.2⟩)
theorem GO.mono {w : Nat → Int32} {B C : Nat} (h : GO w B) (e : B ≤ C) : GO w C := h.elim (fun f hf => ⟨f, hf.1, Nat.le_trans hf.2 e⟩)
theorem GO.at {w : Nat → Int32} {B k : Nat} (h : GO w B) (hk : k < 60) : ∃ x : Nat, x ≤ B ∧ w (11 + k) = nI x := h.elim (fun f hf => ⟨f k, Nat.le_trans (sumN_le hk) hf.2, hf.1 k hk⟩)
def adN (f : Nat → Nat) (y e : Nat) : Nat → (Nat → Nat)
  | 0 => f
  | n + 1 => updN (adN f y e n) (y + n) (adN f y e n (y + n) + e)
theorem addL_RP {w : Nat → Int32} {f : Nat → Nat} {y e : Nat} (h : RP w f) : ∀ n, y + n ≤ 60 → RP (addL w (11 + y) (nI e) n) (adN f y e n) ∧ sumN (adN f y e n) 60 = sumN f 60 + n * e := by
  intro n
  induction n with
  | zero => intro _; exact ⟨h, by simp [adN]⟩
  | succ n ih =>
    intro hn
    obtain ⟨h1, h2⟩ := ih (by omega)
    have h3 := sumN_u (f := adN f y e n) (i := y + n) (v := adN f y e n (y + n) + e) (k := 60) (by omega)
    refine ⟨?_, ?_⟩
    · unfold addL adN
      rw [show 11 + y + n = 11 + (y + n) by omega]
      exact h1.u (by rw [h1 _ (by omega), nI_add])
    · unfold adN
      rw [Nat.add_mul, Nat.one_mul]
      omega
theorem walkW_RP {V : Int32 → Int32 → Int32 → Int32} {w : Nat → Int32} {f : Nat → Nat} {a : Nat} (hV : VO V) (hM : MO w a) (h : RP w f) (h59 : w (131 + 5 * a + 2) < 59) : ∃ f', RP (walkW V w a) f' ∧ sumN f' 60 ≤ sumN f 60 + 9999 := by
  obtain ⟨y, g, fl, s, hy, hg, hfl, hs, ey, eg, efl, es⟩ := walk_nums hV hM
  have hy2 : y < 59 := by rw [ey] at h59; exact (nI_ltI (b := 59) (by omega) (by omega)).mp h59
  have e1 : walkW V w a = upd (wk3 (addL (wk1 w a (nI fl)) (11 + y) (nI fl / nI s) s) (11 + y) (nI fl) (nI s)) (131 + 5 * a + 2) (w (131 + 5 * a + 2) + nI s) := by
    unfold walkW
    rw [ey, efl, es, nI_clamp (by omega), nI_clamp (by omega)]
  rw [e1]
  have h0 : RP (wk1 w a (nI fl)) f := (h.o (by omega)).o (by omega)
  by_cases hs0 : s = 0
  · subst hs0
    have h3 := sumN_u (f := f) (i := y) (v := f y + fl) (k := 60) (by omega)
    refine ⟨updN f y (f y + fl), RP.o (RP.u h0 ?_) (by omega), by omega⟩
    rw [if_pos (show nI 0 = 0 from rfl)]
    show wk1 w a (nI fl) (11 + y) + nI fl = _
    rw [h0 y (by omega), nI_add]
  · rw [pk_div (by omega) (by omega) (by omega)]
    obtain ⟨h1, h2⟩ := addL_RP (y := y) (e := fl / s) h0 s (by omega)
    have h3 := sumN_u (f := adN f y (fl / s) s) (i := y) (v := adN f y (fl / s) s y + fl % s) (k := 60) (by omega)
    have h4 := Nat.div_add_mod fl s
    refine ⟨updN (adN f y (fl / s) s) y (adN f y (fl / s) s y + fl % s), RP.o (RP.u h1 ?_) (by omega), by omega⟩
    rw [if_neg (nI_ne0 (by omega) (by omega)), pk_rem (by omega) (by omega) (by omega), h1 y (by omega), nI_add]
theorem walkAll_GO {V : Int32 → Int32 → Int32 → Int32} {w : Nat → Int32} {n B : Nat} (hV : VO V) (hM : ∀ a, a < n → MO w a) (h : GO w B) : ∀ k, k ≤ n → GO (walkAll V w k) (B + 9999 * k) := by
  intro k
  induction k with
  | zero => intro _; exact h
  | succ k ih =>
    intro hk
    obtain ⟨f, hf, hB⟩ := ih (by omega)
    unfold walkAll
    split
    next h59 =>
      obtain ⟨f', hf', hB'⟩ := walkW_RP hV ((walkAll_ok hV hM k (by omega)).1 k (by omega)) hf h59
      exact ⟨f', hf', by rw [Nat.mul_succ, ← Nat.add_assoc]; exact Nat.le_trans hB' (Nat.add_le_add_right hB 9999)⟩
    next => exact ⟨f, hf, by rw [Nat.mul_succ, ← Nat.add_assoc]; exact Nat.le_trans hB (Nat.le_add_right _ _)⟩
theorem birdW_GO {w : Nat → Int32} {B b : Nat} (hb : b ≤ 99) (eb : w 7 = nI b) (h : GO w B) (hB : B < 2 ^ 31) : GO (birdW w) B := by
  obtain ⟨f, hf, hs⟩ := h
  have q : dn (dz (w 6)) % 60 < 60 := Nat.mod_lt _ (by decide)
  unfold birdW
  generalize dn (dz (w 6)) % 60 = k at q
  have hk := sumN_le (f := f) q
  have e1 : eatW w (11 + k) = nI (if b ≤ f k then b else f k) := by
    unfold eatW
    rw [eb, hf k q]
    by_cases c : b ≤ f k
    · rw [if_pos c, if_pos ((nI_leI (by omega) (by omega)).mpr c)]
    · rw [if_neg c, if_neg (fun z => c ((nI_leI (by omega) (by omega)).mp z))]
  have h3 := sumN_u (f := f) (i := k) (v := f k - (if b ≤ f k then b else f k)) q
  refine ⟨updN f k (f k - (if b ≤ f k then b else f k)), RP.o (RP.u (RP.o hf (by omega)) ?_) (by omega), by omega⟩
  rw [e1, hf k q, pk_sub (by split <;> omega)]
theorem gustW_GO {w : Nat → Int32} {B : Nat} (h : GO w B) (hB : B < 2 ^ 31) : GO (gustW w) B := by
  obtain ⟨f, hf, hs⟩ := h
  have q : dn (dz (w 6)) % 60 < 60 := Nat.mod_lt _ (by decide)
  unfold gustW
  generalize dn (dz (w 6)) % 60 = k at q
  have hk := sumN_le (f := f) q
  have e1 : w (11 + k) / 2 = nI (f k / 2) := by rw [hf k q]; exact pk_div (d := 2) (by omega) (by omega) (by omega)
  have h3 := sumN_u (f := f) (i := k) (v := f k - f k / 2) q
  have h1 : RP (upd (upd w 6 (dz (w 6))) (11 + k) (w (11 + k) - w (11 + k) / 2)) (updN f k (f k - f k / 2)) := RP.u (RP.o hf (by omega)) (by rw [e1, hf k q, pk_sub (by omega)])
  rw [e1] at h1 ⊢
  generalize upd (upd w 6 (dz (w 6))) (11 + k) (w (11 + k) - nI (f k / 2)) = u at h1
  unfold gustT
  split
  next c =>
    obtain ⟨j, hj, e⟩ := vp_in_of (n := 60) (vp_in_iff.mpr ⟨c.1, by omega⟩) (by decide)
    rw [e, nI_clamp (by omega)]
    have h4 := sumN_u (f := updN f k (f k - f k / 2)) (i := j) (v := updN f k (f k - f k / 2) j + f k / 2) hj
    exact ⟨_, RP.u h1 (v := updN f k (f k - f k / 2) j + f k / 2) (by rw [h1 j hj, nI_add]), by omega⟩
  next => exact ⟨_, RP.o h1 (by omega), by omega⟩
theorem gustsW_GO {w : Nat → Int32} {B : Nat} (h : GO w B) (hB : B < 2 ^ 31) : GO (gustsW w) B := by
  have h1 : GO (upd w 6 (dz (w 6))) B := h.congr (fun i h1 h2 => pk_un (by omega))
  unfold gustsW
  split
  · exact h1
  · exact gustW_GO h1 hB
theorem minW_GO {V : Int32 → Int32 → Int32 → Int32} {w : Nat → Int32} {n m b B : Nat} (hV : VO V) (hW : WO w n m) (hb : b ≤ 99) (eb : w 7 = nI b) (h : GO w B) (hB : B + 80000 < 2 ^ 31) : GO (minW V n w) (B + 80000) := by
  obtain ⟨h0, h8, hM, hm, t, ht, et⟩ := hW
  have h1 : GO (walkAll V w n) (B + 80000) := (walkAll_GO hV hM h n (Nat.le_refl n)).mono (by omega)
  have h2 : GO (thrW (walkAll V w n) n) (B + 80000) := h1.congr (fun i g1 g2 => thrW_out (by omega) h8)
  have e7 : thrW (walkAll V w n) n 7 = nI b := by rw [thrW_out (by omega) h8, (walkAll_ok hV hM n (Nat.le_refl n)).2 7 (by omega) (by omega) h8]; exact eb
  have h3 := gustsW_GO (birdW_GO hb e7 h2 hB) hB
  unfold minW
  exact h3.congr (fun i g1 g2 => pk_un (by omega))
/-- the rules' birds, the grains by the minute -/
def WG (w : Nat → Int32) (m : Nat) : Prop := (∃ b : Nat, b ≤ 99 ∧ w 7 = nI b) ∧ GO w (80000 * m)
theorem minN_WG {V : Int32 → Int32 → Int32 → Int32} {w : Nat → Int32} {n m : Nat} (hV : VO V) (hW : WO w n m) (h : WG w m) : ∀ k, m + k < 20000 → WG (minN V n w k) (m + k) := by
  intro k
  induction k with
  | zero => intro _; exact h
  | succ k ih =>
    intro hk
    obtain ⟨⟨b, hb, eb⟩, hG⟩ := ih (by omega)
    have hWk := minN_WO hV hW k
    refine ⟨⟨b, hb, ?_⟩, ?_⟩
    · show minW V n (minN V n w k) 7 = nI b
      rw [minW_out hV hWk.2.2.1 hWk.2.1 (by omega)]
      exact eb
    · exact (minW_GO hV hWk hb eb hG (by omega)).mono (by omega)
theorem WG.congr {w w' : Nat → Int32} {m : Nat} (h : WG w m) (e : ∀ i, 7 ≤ i → i < 71 → w' i = w i) : WG w' m := ⟨by obtain ⟨b, hb, eb⟩ := h.1; exact ⟨b, hb, by rw [e 7 (by omega) (by omega)]; exact eb⟩, h.2.congr (fun i h1 h2 => e i (by omega) h2)⟩
theorem WG.ag {w w' : Nat → Int32} {m N : Nat} (h : WG w m) (a : Ag N w w') (hN : 71 ≤ N) : WG w' m := h.congr (fun i _ h2 => (a i (by omega)).symm)
/-- sheets' numbers are small -/
def SP (S : Nat → Nat → Int32) : Prop := ∀ a, a < 4 → ∀ j, j < 24 → S a j = vNONE ∨ (-99999 ≤ (S a j).toInt ∧ (S a j).toInt ≤ 99999)
theorem abs_off {v : Int32} {x : Nat} (hv : -99999 ≤ v.toInt ∧ v.toInt ≤ 99999) (hx : x ≤ 1700000000) : (if 0 ≤ nI x - v then nI x - v else 0 - (nI x - v)) = offI v (nI x) := by
  have e1 : (nI x - v).toInt = (x : Int) - v.toInt := by
    rw [Int32.toInt_sub, nI_toInt (by omega), Int.bmod_eq_of_le]
    · omega
    · omega
  have e2 : (v - nI x).toInt = v.toInt - (x : Int) := by
    rw [Int32.toInt_sub, nI_toInt (by omega), Int.bmod_eq_of_le]
    · omega
    · omega
  have e3 : (0 - (nI x - v)).toInt = v.toInt - (x : Int) := by
    rw [Int32.toInt_sub, e1, i32_0, Int.bmod_eq_of_le]
    · omega
    · omega
    · omega
  unfold offI
  apply Int32.toInt_inj.mp
  by_cases c : v < nI x
  · have c' := Int32.lt_iff_toInt_lt.mp c
    rw [nI_toInt (by omega)] at c'
    rw [if_pos c, if_pos (Int32.le_iff_toInt_le.mpr (by rw [e1, i32_0]; omega))]
  · rw [if_neg c]
    have c' : ¬ v.toInt < (nI x).toInt := fun z => c (Int32.lt_iff_toInt_lt.mpr z)
    rw [nI_toInt (by omega)] at c'
    by_cases d : (0 : Int32) ≤ nI x - v
    · rw [if_pos d, e1, e2]
      have := Int32.le_iff_toInt_le.mp d
      rw [e1, i32_0] at this
      omega
    · rw [if_neg d, e3, e2]
theorem aloW_ag {N o : Nat} {w w' : Nat → Int32} (h : Ag N w w') : ∀ k, 131 + 5 * k ≤ N → Ag N (aloW w o k) (aloW w' o k) := by
  intro k
  induction k with
  | zero => intro _; exact h
  | succ k ih =>
    intro hk
    unfold aloW
    exact (ih (by omega)).u (fun q => by rw [h _ q])
theorem difS_ag {N : Nat} {f w w' : Nat → Int32} (h : Ag N w w') : ∀ k, 11 + k ≤ N → difS f w k = difS f w' k := by
  intro k
  induction k with
  | zero => intro _; rfl
  | succ k ih =>
    intro hk
    unfold difS
    rw [ih (by omega), h _ (by omega)]
set_option maxHeartbeats 4000000 in
set_option maxRecDepth 100000 in
theorem c_X7_differenceIfAlone {G : GM} {σ : SG} {Ts : Nat → Tx} {nt n m o c a z : Nat} (hT : CT (σ 3) (σ 0) Ts nt) (hW : WO (σ 0) n m) (hm : m ≤ 9999) (hG : WG (σ 0) m) (hP : SP (shC σ)) (ho : o < n) (hc : c ≤ 60) (ha : a < 4) (hz1 : z ≤ 24) (hz2 : σ 7 (32 * a + 25) = nI z) : CI G yX7_differenceIfAlone cX7_differenceIfAlone 6 (some .int) 6 [rf G 0, .int (nI o), .int (nI c), rf G (79 + 2 * a)] σ (fun r s => r = whoV (lkV Ts nt) n (σ 0) (shC σ a) z c o ∧ same [2, 4] σ s) := by
  refine Con.of cd_X7_differenceIfAlone (Nat.le_of_ble_eq_true rfl) ?_
  intro X hX hZ
  have hX : Fx X G RX7 cX7_differenceIfAlone 6 6 := hX
  show RR X G 6 0 (ll [(0, rf G 0), (1, .int (nI o)), (2, .int (nI c)), (3, rf G (79 + 2 * a))]) [] σ
  have hV : VO (lkV Ts nt) := lkV_VO
  have h8 := hW.2.1
  obtain ⟨lh, lh1⟩ := layH ha
  have hW2 : WO (becW (σ 2) (σ 0) n) n m := hW.ag becW_ag
  have hT2 : CT (σ 3) (becW (σ 2) (σ 0) n) Ts nt := hT.bec
  have hG2 : WG (becW (σ 2) (σ 0) n) m := hG.ag becW_ag (by omega)
  have A0 : Ag (131 + 5 * n) (σ 0) (becW (σ 2) (σ 0) n) := becW_ag
  generalize hw2 : becW (σ 2) (σ 0) n = w2 at hW2 hT2 hG2 A0
  have hWa : WO (aloW w2 o n) n m := aloW_WO hW2 n (Nat.le_refl n)
  have A1 := aloW_ag (o := o) A0 n (Nat.le_refl _)
  have A2 := minN_ag A1 hV (aloW_WO hW n (Nat.le_refl n)) c
  have hGa : WG (aloW w2 o n) m := hG2.congr (fun i h1 h2 => aloW_out (fun j hj => by omega))
  have hGc := (minN_WG hV hWa hGa c (by omega)).2
  have tail : ∀ τ : SG, τ 2 = minN (lkV Ts nt) n (aloW w2 o n) c → same [2, 4] σ τ → RR X G 6 60 (ll [(0, rf G 0), (3, rf G (79 + 2 * a))]) [] τ := by
    intro τ e2 hs
    have e7 : τ 7 = σ 7 := hs 7 (by decide)
    have loop := loopK z (fun k => RR X G 6 66 (ll [(0, rf G 0), (3, rf G (79 + 2 * a)), (4, .int (difS (shC σ a) (τ 2) k)), (5, .int (nI k))]) [] τ) (by
      intro k hk ih
      refine r_iload hX dX7_differenceIfAlone_66 rfl (RR.pc (b := 68) rfl ?_)
      refine r_aload_n hX dX7_differenceIfAlone_68 rfl ⟨_, rfl⟩ (RR.pc (b := 69) rfl ?_)
      refine r_geti hX dX7_differenceIfAlone_69 fl_X7_276 (by first | rfl | assumption) rfl (RR.pc (b := 72) rfl ?_)
      rw [e7, hz2]
      refine r_icmp_ge (tgt := 116) hX dX7_differenceIfAlone_72 rfl (fun h72 => ?_) (fun h72 => RR.pc (b := 75) rfl ?_)
      · have hk2 : k = z := by rw [nI_leI (by omega) (by omega)] at h72; omega
        subst hk2
        refine r_iload hX dX7_differenceIfAlone_116 rfl (RR.pc (b := 118) rfl ?_)
        exact r_iret hX hZ dX7_differenceIfAlone_118 ⟨_, rfl, ⟨by unfold whoV; rw [difS_ag A2 k (by omega), e2], hs⟩⟩
      · have hk2 : k < z := by rw [nI_leI (by omega) (by omega)] at h72; omega
        obtain ⟨x, hx, ex⟩ := hGc.at (k := k) (by omega)
        rw [← e2] at ex
        refine r_aload_n hX dX7_differenceIfAlone_75 rfl ⟨_, rfl⟩ (RR.pc (b := 76) rfl ?_)
        refine r_iload hX dX7_differenceIfAlone_76 rfl (RR.pc (b := 78) rfl ?_)
        refine r_callVie hX dX7_differenceIfAlone_78 ml_X7_269 cd_X1_hasNumber iv_X1_hasNumber (c_X1_hasNumber (z := z) (j := k) lh lh1 hz1 (by rw [e7]; exact hz2) (by omega)) (by decide) (by first | rfl | assumption) rfl rfl rfl rfl (Nat.le_of_ble_eq_true rfl) (RR.pc (b := 81) rfl ?_)
        rw [e7]
        refine r_if_eq_b (tgt := 110) hX dX7_differenceIfAlone_81 rfl (fun h81 => ?_) (fun h81 => RR.pc (b := 84) rfl ?_)
        · have hno : shC σ a k = vNONE := Decidable.byContradiction (fun q => h81 ⟨hk2, q⟩)
          have e3 : difS (shC σ a) (τ 2) (k + 1) = difS (shC σ a) (τ 2) k := by
            rw [difS, if_pos hno, Int32.add_zero]
          rw [e3] at ih
          refine r_iinc hX dX7_differenceIfAlone_110 rfl (by decide) (nI_1 k) (RR.pc (b := 113) rfl ?_)
          refine r_goto (tgt := 66) hX dX7_differenceIfAlone_113 rfl ?_
          exact RR.cut (ih hk2) (List.forall_mem_cons.mpr ⟨rfl, List.forall_mem_cons.mpr ⟨rfl, List.forall_mem_cons.mpr ⟨rfl, List.forall_mem_cons.mpr ⟨rfl, fun _ h => absurd h List.not_mem_nil⟩⟩⟩⟩)
        · have hnu : ¬ shC σ a k = vNONE := h81.2
          have e3 : difS (shC σ a) (τ 2) (k + 1) = difS (shC σ a) (τ 2) k + offI (shC σ a k) (nI x) := by
            rw [difS, if_neg hnu, ex]
          rw [e3] at ih
          refine r_iload hX dX7_differenceIfAlone_84 rfl (RR.pc (b := 86) rfl ?_)
          refine r_aload_n hX dX7_differenceIfAlone_86 rfl ⟨_, rfl⟩ (RR.pc (b := 87) rfl ?_)
          refine r_getr hX dX7_differenceIfAlone_87 fl_X7_46 (by first | rfl | assumption) rfl (RR.pc (b := 90) rfl ?_)
          refine r_getr hX dX7_differenceIfAlone_90 fl_X7_140 (by first | rfl | assumption) rfl (RR.pc (b := 93) rfl ?_)
          refine r_iload hX dX7_differenceIfAlone_93 rfl (RR.pc (b := 95) rfl ?_)
          refine r_iald hX dX7_differenceIfAlone_95 (by first | rfl | assumption) rfl (by omega) (by first | decide | omega) (by first | exact Nat.zero_add _ | rfl) (RR.pc (b := 96) rfl ?_)
          refine r_aload_n hX dX7_differenceIfAlone_96 rfl ⟨_, rfl⟩ (RR.pc (b := 97) rfl ?_)
          refine r_getr hX dX7_differenceIfAlone_97 fl_X7_266 (by first | rfl | assumption) rfl (RR.pc (b := 100) rfl ?_)
          refine r_iload hX dX7_differenceIfAlone_100 rfl (RR.pc (b := 102) rfl ?_)
          refine r_iald hX dX7_differenceIfAlone_102 (by first | rfl | assumption) rfl (by omega) (by first | decide | omega) (by first | exact Nat.zero_add _ | rfl) (RR.pc (b := 103) rfl ?_)
          refine r_isub hX dX7_differenceIfAlone_103 (RR.pc (b := 104) rfl ?_)
          rw [e7, ex]
          refine r_abs hX (by decide) dX7_differenceIfAlone_104 ml_X7_323 (Nat.le_of_ble_eq_true rfl) (RR.pc (b := 107) rfl ?_)
          rw [show (if 0 ≤ nI x - σ 7 (32 * a + k) then nI x - σ 7 (32 * a + k) else 0 - (nI x - σ 7 (32 * a + k))) = offI (shC σ a k) (nI x) from abs_off ((hP a ha k (by omega)).resolve_left hnu) (by omega)]
          refine r_iadd hX dX7_differenceIfAlone_107 (RR.pc (b := 108) rfl ?_)
          refine r_istore hX dX7_differenceIfAlone_108 (by decide) (RR.pc (b := 110) rfl ?_)
          refine r_iinc hX dX7_differenceIfAlone_110 rfl (by decide) (nI_1 k) (RR.pc (b := 113) rfl ?_)
          refine r_goto (tgt := 66) hX dX7_differenceIfAlone_113 rfl ?_
          exact RR.cut (ih hk2) (List.forall_mem_cons.mpr ⟨rfl, List.forall_mem_cons.mpr ⟨rfl, List.forall_mem_cons.mpr ⟨rfl, List.forall_mem_cons.mpr ⟨rfl, fun _ h => absurd h List.not_mem_nil⟩⟩⟩⟩)
      )
    refine r_iconst (v := 0) hX dX7_differenceIfAlone_60 (by decide) (RR.pc (b := 61) rfl ?_)
    refine r_istore hX dX7_differenceIfAlone_61 (by decide) (RR.pc (b := 63) rfl ?_)
    refine r_iconst (v := 0) hX dX7_differenceIfAlone_63 (by decide) (RR.pc (b := 64) rfl ?_)
    refine r_istore hX dX7_differenceIfAlone_64 (by decide) (RR.pc (b := 66) rfl ?_)
    exact RR.cut (loop 0 (by omega)) (List.forall_mem_cons.mpr ⟨rfl, List.forall_mem_cons.mpr ⟨rfl, List.forall_mem_cons.mpr ⟨rfl, List.forall_mem_cons.mpr ⟨rfl, fun _ h => absurd h List.not_mem_nil⟩⟩⟩⟩)
  have first_ := loopK n (fun k => ∀ τ : SG, τ 2 = aloW w2 o k → same [2, 4] σ τ → RR X G 6 14 (ll [(0, rf G 0), (1, .int (nI o)), (2, .int (nI c)), (3, rf G (79 + 2 * a)), (4, .int (nI k))]) [] τ) (by
    intro k hk ih τ e2 hs
    refine r_iload hX dX7_differenceIfAlone_14 rfl (RR.pc (b := 16) rfl ?_)
    refine r_aload_n hX dX7_differenceIfAlone_16 rfl ⟨_, rfl⟩ (RR.pc (b := 17) rfl ?_)
    refine r_getr hX dX7_differenceIfAlone_17 fl_X7_46 (by first | rfl | assumption) rfl (RR.pc (b := 20) rfl ?_)
    refine r_geti hX dX7_differenceIfAlone_20 fl_X7_76 (by first | rfl | assumption) rfl (RR.pc (b := 23) rfl ?_)
    rw [e2, aloW_out (i := 0) (fun j hj => by omega), hW2.1]
    refine r_icmp_ge (tgt := 52) hX dX7_differenceIfAlone_23 rfl (fun h23 => ?_) (fun h23 => RR.pc (b := 26) rfl ?_)
    · have hk2 : k = n := by rw [nI_leI (by omega) (by omega)] at h23; omega
      subst hk2
      refine r_aload_n hX dX7_differenceIfAlone_52 rfl ⟨_, rfl⟩ (RR.pc (b := 53) rfl ?_)
      refine r_getr hX dX7_differenceIfAlone_53 fl_X7_46 (by first | rfl | assumption) rfl (RR.pc (b := 56) rfl ?_)
      refine r_iload_n (i := 0) hX dX7_differenceIfAlone_56 rfl (RR.pc (b := 57) rfl ?_)
      refine r_callVv hX dX7_differenceIfAlone_57 ml_X7_171 cd_X6_pass iv_X6_pass (c_X6_pass (w := 2) (Ts := Ts) (nt := nt) (n := k) (m := m) (q := c) (by decide) (by rw [hs 3 (by decide), e2]; exact hT2.congr (aloW_out (fun j hj => by omega)) (fun i hi => aloW_out (fun j hj => by omega))) (by rw [e2]; exact hWa) (by omega)) (by decide) (by first | rfl | assumption) rfl rfl rfl rfl (Nat.le_of_ble_eq_true rfl) (fun s_57 e_57 => RR.pc (b := 60) rfl ?_)
      obtain ⟨e57, hs57⟩ := e_57
      exact RR.cut (tail _ (by rw [e57, e2]) (hs.tr hs57)) (List.forall_mem_cons.mpr ⟨rfl, List.forall_mem_cons.mpr ⟨rfl, fun _ h => absurd h List.not_mem_nil⟩⟩)
    · have hk2 : k < n := by rw [nI_leI (by omega) (by omega)] at h23; omega
      have lm := layM2 (i := k) (by omega)
      refine r_iload hX dX7_differenceIfAlone_26 rfl (RR.pc (b := 28) rfl ?_)
      refine r_iload_n (i := 0) hX dX7_differenceIfAlone_28 rfl (RR.pc (b := 29) rfl ?_)
      refine r_icmp_eq (tgt := 46) hX dX7_differenceIfAlone_29 rfl (fun h29 => ?_) (fun h29 => RR.pc (b := 32) rfl ?_)
      · refine r_iinc hX dX7_differenceIfAlone_46 rfl (by decide) (nI_1 k) (RR.pc (b := 49) rfl ?_)
        refine r_goto (tgt := 14) hX dX7_differenceIfAlone_49 rfl ?_
        first | exact RR.cut (ih hk2 τ (by have hko : k = o := (nI_eq (by omega) (by omega)).mp h29; rw [e2, aloW, if_pos hko, show w2 (131 + 5 * k + 4) = aloW w2 o k (131 + 5 * k + 4) from (aloW_out (fun j hj => by omega)).symm, upd_self]) hs) (List.forall_mem_cons.mpr ⟨rfl, List.forall_mem_cons.mpr ⟨rfl, List.forall_mem_cons.mpr ⟨rfl, List.forall_mem_cons.mpr ⟨rfl, List.forall_mem_cons.mpr ⟨rfl, fun _ h => absurd h List.not_mem_nil⟩⟩⟩⟩⟩) | exact RR.cut (ih hk2 _ (by have hko : k ≠ o := (fun z => h29 (by rw [z])); rw [su_eq, e2, aloW, if_neg hko]) (hs.su (by simp))) (List.forall_mem_cons.mpr ⟨rfl, List.forall_mem_cons.mpr ⟨rfl, List.forall_mem_cons.mpr ⟨rfl, List.forall_mem_cons.mpr ⟨rfl, List.forall_mem_cons.mpr ⟨rfl, fun _ h => absurd h List.not_mem_nil⟩⟩⟩⟩⟩)
      · refine r_aload_n hX dX7_differenceIfAlone_32 rfl ⟨_, rfl⟩ (RR.pc (b := 33) rfl ?_)
        refine r_getr hX dX7_differenceIfAlone_33 fl_X7_46 (by first | rfl | assumption) rfl (RR.pc (b := 36) rfl ?_)
        refine r_getr hX dX7_differenceIfAlone_36 fl_X7_88 (by first | rfl | assumption) rfl (RR.pc (b := 39) rfl ?_)
        refine r_iload hX dX7_differenceIfAlone_39 rfl (RR.pc (b := 41) rfl ?_)
        refine r_aald hX dX7_differenceIfAlone_41 (by first | rfl | assumption) ⟨_, rfl⟩ rfl (by omega) (by decide) (RR.pc (b := 42) rfl ?_)
        refine r_iconst (v := 0) hX dX7_differenceIfAlone_42 (by decide) (RR.pc (b := 43) rfl ?_)
        refine r_puti hX dX7_differenceIfAlone_43 fl_X7_106 (by first | rfl | assumption) rfl ft_0_4 (RR.pc (b := 46) rfl ?_)
        refine r_iinc hX dX7_differenceIfAlone_46 rfl (by decide) (nI_1 k) (RR.pc (b := 49) rfl ?_)
        refine r_goto (tgt := 14) hX dX7_differenceIfAlone_49 rfl ?_
        first | exact RR.cut (ih hk2 τ (by have hko : k = o := (nI_eq (by omega) (by omega)).mp h29; rw [e2, aloW, if_pos hko, show w2 (131 + 5 * k + 4) = aloW w2 o k (131 + 5 * k + 4) from (aloW_out (fun j hj => by omega)).symm, upd_self]) hs) (List.forall_mem_cons.mpr ⟨rfl, List.forall_mem_cons.mpr ⟨rfl, List.forall_mem_cons.mpr ⟨rfl, List.forall_mem_cons.mpr ⟨rfl, List.forall_mem_cons.mpr ⟨rfl, fun _ h => absurd h List.not_mem_nil⟩⟩⟩⟩⟩) | exact RR.cut (ih hk2 _ (by have hko : k ≠ o := (fun z => h29 (by rw [z])); rw [su_eq, e2, aloW, if_neg hko]) (hs.su (by simp))) (List.forall_mem_cons.mpr ⟨rfl, List.forall_mem_cons.mpr ⟨rfl, List.forall_mem_cons.mpr ⟨rfl, List.forall_mem_cons.mpr ⟨rfl, List.forall_mem_cons.mpr ⟨rfl, fun _ h => absurd h List.not_mem_nil⟩⟩⟩⟩⟩)
    )
  refine r_aload_n hX dX7_differenceIfAlone_0 rfl ⟨_, rfl⟩ (RR.pc (b := 1) rfl ?_)
  refine r_getr hX dX7_differenceIfAlone_1 fl_X7_46 (by first | rfl | assumption) rfl (RR.pc (b := 4) rfl ?_)
  refine r_aload_n hX dX7_differenceIfAlone_4 rfl ⟨_, rfl⟩ (RR.pc (b := 5) rfl ?_)
  refine r_getr hX dX7_differenceIfAlone_5 fl_X7_39 (by first | rfl | assumption) rfl (RR.pc (b := 8) rfl ?_)
  refine r_callVve hX dX7_differenceIfAlone_8 ml_X7_191 cd_X6_become iv_X6_become (c_X6_become (w := 2) (u := 0) (n := n) (by decide) (by decide) (by decide) hW.1 h8) (by decide) (by first | rfl | assumption) rfl rfl rfl rfl (Nat.le_of_ble_eq_true rfl) (RR.pc (b := 11) rfl ?_)
  refine r_iconst (v := 0) hX dX7_differenceIfAlone_11 (by decide) (RR.pc (b := 12) rfl ?_)
  refine r_istore hX dX7_differenceIfAlone_12 (by decide) (RR.pc (b := 14) rfl ?_)
  exact RR.cut (first_ 0 (by omega) _ (by rw [sr_eq]; exact hw2) (same.rf.sr (by simp))) (List.forall_mem_cons.mpr ⟨rfl, List.forall_mem_cons.mpr ⟨rfl, List.forall_mem_cons.mpr ⟨rfl, List.forall_mem_cons.mpr ⟨rfl, List.forall_mem_cons.mpr ⟨rfl, fun _ h => absurd h List.not_mem_nil⟩⟩⟩⟩⟩)
set_option maxHeartbeats 4000000 in
set_option maxRecDepth 100000 in
theorem c_X7_whose {G : GM} {σ : SG} {Ts : Nat → Tx} {nt n m : Nat} {sheet q what : Int32} (hT : CT (σ 3) (σ 0) Ts nt) (hW : WO (σ 0) n m) (hm : m ≤ 9999) (hG : WG (σ 0) m) (hS : SO (shC σ)) (hP : SP (shC σ)) : CI G yX7_whose cX7_whose 9 (some .int) 7 [rf G 0, .int sheet, .int q, .int what] σ (fun r s => r = whosF (lkV Ts nt) n (σ 0) (shC σ) sheet q what ∧ same [2, 4] σ s) := by
  refine Con.of cd_X7_whose (Nat.le_of_ble_eq_true rfl) ?_
  intro X hX hZ
  have hX : Fx X G RX7 cX7_whose 9 7 := hX
  show RR X G 9 0 (ll [(0, rf G 0), (1, .int sheet), (2, .int q), (3, .int what)]) [] σ
  have h8 := hW.2.1
  have bad : ¬ ((0 ≤ sheet.toInt ∧ sheet.toInt ≤ 3) ∧ (0 ≤ q.toInt ∧ q.toInt ≤ 60) ∧ (0 ≤ what.toInt ∧ what.toInt ≤ 1)) → RR X G 9 26 (ll []) [] σ := by
    intro h
    refine r_ldc hX dX7_whose_26 kc_X7_75 (RR.pc (b := 28) rfl ?_)
    exact r_iret hX hZ dX7_whose_28 ⟨_, rfl, ⟨by unfold whosF; by_cases h1 : (0 ≤ sheet.toInt ∧ sheet.toInt < (4 : Nat)); (obtain ⟨a, ha, rfl⟩ := ix_of h1 (by omega); rw [ix_some ha (by omega)]; dsimp only; rw [if_neg (fun z => h ⟨by omega, z⟩)]); (rw [ix_none h1]), same.rf⟩⟩
  have go : ∀ a z c, a < 4 → z ≤ 24 → c ≤ 60 → q = nI c → σ 7 (32 * a + 25) = nI z → whosF (lkV Ts nt) n (σ 0) (shC σ) sheet q what = wsoF (lkV Ts nt) n (σ 0) (shC σ a) z c what → RR X G 9 48 (ll [(0, rf G 0), (2, .int q), (3, .int what), (4, rf G (79 + 2 * a))]) [] σ := by
    intro a z c ha hz1 hc e2 hz2 hF
    subst e2
    generalize hg : whoV (lkV Ts nt) n (σ 0) (shC σ a) z c = g
    have hF2 : whosF (lkV Ts nt) n (σ 0) (shC σ) sheet (nI c) what = if n = 0 then vNONE else if what = 0 then whoB g n else whoL g n := by rw [hF, ← hg]; rfl
    rw [hF2] at hZ
    have cd : ∀ (τ : SG) (k : Nat), same [2, 4] σ τ → k < n → CI G yX7_differenceIfAlone cX7_differenceIfAlone 6 (some .int) 6 [rf G 0, .int (nI k), .int (nI c), rf G (79 + 2 * a)] τ (fun r s => r = g k ∧ same [2, 4] τ s) := by
      intro τ k hs hk
      have e0 := hs 0 (by decide)
      have e3 := hs 3 (by decide)
      have e7 := hs 7 (by decide)
      have es : shC τ = shC σ := by unfold shC; rw [e7]
      have := c_X7_differenceIfAlone (G := G) (σ := τ) (Ts := Ts) (nt := nt) (n := n) (m := m) (o := k) (c := c) (a := a) (z := z) (by rw [e0, e3]; exact hT) (by rw [e0]; exact hW) hm (by rw [e0]; exact hG) (by rw [es]; exact hP) hk hc ha hz1 (by rw [e7]; exact hz2)
      rw [e0, es, hg] at this
      exact this
    have loop := loopK n (fun k => 0 < k → ∀ τ : SG, same [2, 4] σ τ → RR X G 9 77 (ll [(0, rf G 0), (2, .int (nI c)), (3, .int what), (4, rf G (79 + 2 * a)), (5, .int (whoB g k)), (6, .int (whoL g k)), (7, .int (nI k))]) [] τ) (by
      intro k hk ih k0 τ hs
      have e0 := hs 0 (by decide)
      refine r_iload hX dX7_whose_77 rfl (RR.pc (b := 79) rfl ?_)
      refine r_aload_n hX dX7_whose_79 rfl ⟨_, rfl⟩ (RR.pc (b := 80) rfl ?_)
      refine r_getr hX dX7_whose_80 fl_X7_39 (by first | rfl | assumption) rfl (RR.pc (b := 83) rfl ?_)
      refine r_geti hX dX7_whose_83 fl_X7_76 (by first | rfl | assumption) rfl (RR.pc (b := 86) rfl ?_)
      rw [e0, hW.1]
      refine r_icmp_ge (tgt := 121) hX dX7_whose_86 rfl (fun h86 => ?_) (fun h86 => RR.pc (b := 89) rfl ?_)
      · have hk2 : k = n := by rw [nI_leI (by omega) (by omega)] at h86; omega
        subst hk2
        rw [if_neg (by omega)] at hZ
        refine r_iload_n (i := 0) hX dX7_whose_121 rfl (RR.pc (b := 122) rfl ?_)
        refine r_if_ne (tgt := 130) hX dX7_whose_122 rfl (fun h122 => ?_) (fun h122 => RR.pc (b := 125) rfl ?_)
        · refine r_iload hX dX7_whose_130 rfl (RR.pc (b := 132) rfl ?_)
          exact r_iret hX hZ dX7_whose_132 ⟨_, rfl, ⟨by first | rw [if_pos h122] | rw [if_neg h122], hs⟩⟩
        · refine r_iload hX dX7_whose_125 rfl (RR.pc (b := 127) rfl ?_)
          refine r_goto (tgt := 132) hX dX7_whose_127 rfl ?_
          exact r_iret hX hZ dX7_whose_132 ⟨_, rfl, ⟨by first | rw [if_pos h122] | rw [if_neg h122], hs⟩⟩
      · have hk2 : k < n := by rw [nI_leI (by omega) (by omega)] at h86; omega
        have next : ∀ (τ : SG) (b1 b2 : Int32), whoB g (k + 1) = b1 → whoL g (k + 1) = b2 → same [2, 4] σ τ → RR X G 9 115 (ll [(0, rf G 0), (2, .int (nI c)), (3, .int what), (4, rf G (79 + 2 * a)), (5, .int b1), (6, .int b2), (7, .int (nI k))]) [] τ := by
          intro τ b1 b2 q1 q2 hτ
          subst q1 q2
          refine r_iinc hX dX7_whose_115 rfl (by decide) (nI_1 k) (RR.pc (b := 118) rfl ?_)
          refine r_goto (tgt := 77) hX dX7_whose_118 rfl ?_
          exact RR.cut (ih hk2 (by omega) τ hτ) (List.forall_mem_cons.mpr ⟨rfl, List.forall_mem_cons.mpr ⟨rfl, List.forall_mem_cons.mpr ⟨rfl, List.forall_mem_cons.mpr ⟨rfl, List.forall_mem_cons.mpr ⟨rfl, List.forall_mem_cons.mpr ⟨rfl, List.forall_mem_cons.mpr ⟨rfl, fun _ h => absurd h List.not_mem_nil⟩⟩⟩⟩⟩⟩⟩)
        refine r_aload_n hX dX7_whose_89 rfl ⟨_, rfl⟩ (RR.pc (b := 90) rfl ?_)
        refine r_iload hX dX7_whose_90 rfl (RR.pc (b := 92) rfl ?_)
        refine r_iload_n (i := 0) hX dX7_whose_92 rfl (RR.pc (b := 93) rfl ?_)
        refine r_aload hX dX7_whose_93 rfl ⟨_, rfl⟩ (RR.pc (b := 95) rfl ?_)
        refine r_callVi hX dX7_whose_95 ml_X7_213 cd_X7_differenceIfAlone iv_X7_differenceIfAlone (cd τ k hs hk2) (by decide) (by first | rfl | assumption) rfl rfl rfl rfl (Nat.le_of_ble_eq_true rfl) (fun r_95 s_95 e_95 => RR.pc (b := 98) rfl ?_)
        obtain ⟨rfl, hs95⟩ := e_95
        refine r_istore hX dX7_whose_98 (by decide) (RR.pc (b := 100) rfl ?_)
        refine r_iload hX dX7_whose_100 rfl (RR.pc (b := 102) rfl ?_)
        refine r_iload hX dX7_whose_102 rfl (RR.pc (b := 104) rfl ?_)
        refine r_icmp_ge (tgt := 115) hX dX7_whose_104 rfl (fun h104 => ?_) (fun h104 => RR.pc (b := 107) rfl ?_)
        · first | exact RR.cut (next _ (nI k) (g k) (by rw [whoB, if_pos (Or.inr (Int32.not_le.mp h104))]) (by rw [whoL, if_pos (Or.inr (Int32.not_le.mp h104))]) (hs.tr hs95)) (List.forall_mem_cons.mpr ⟨rfl, List.forall_mem_cons.mpr ⟨rfl, List.forall_mem_cons.mpr ⟨rfl, List.forall_mem_cons.mpr ⟨rfl, List.forall_mem_cons.mpr ⟨rfl, List.forall_mem_cons.mpr ⟨rfl, List.forall_mem_cons.mpr ⟨rfl, fun _ h => absurd h List.not_mem_nil⟩⟩⟩⟩⟩⟩⟩) | exact RR.cut (next _ (whoB g k) (whoL g k) (by rw [whoB, if_neg (fun z => z.elim (by omega) (fun y => absurd y (Int32.not_lt.mpr h104)))]) (by rw [whoL, if_neg (fun z => z.elim (by omega) (fun y => absurd y (Int32.not_lt.mpr h104)))]) (hs.tr hs95)) (List.forall_mem_cons.mpr ⟨rfl, List.forall_mem_cons.mpr ⟨rfl, List.forall_mem_cons.mpr ⟨rfl, List.forall_mem_cons.mpr ⟨rfl, List.forall_mem_cons.mpr ⟨rfl, List.forall_mem_cons.mpr ⟨rfl, List.forall_mem_cons.mpr ⟨rfl, fun _ h => absurd h List.not_mem_nil⟩⟩⟩⟩⟩⟩⟩)
        · refine r_iload hX dX7_whose_107 rfl (RR.pc (b := 109) rfl ?_)
          refine r_istore hX dX7_whose_109 (by decide) (RR.pc (b := 111) rfl ?_)
          refine r_iload hX dX7_whose_111 rfl (RR.pc (b := 113) rfl ?_)
          refine r_istore hX dX7_whose_113 (by decide) (RR.pc (b := 115) rfl ?_)
          first | exact RR.cut (next _ (nI k) (g k) (by rw [whoB, if_pos (Or.inr (Int32.not_le.mp h104))]) (by rw [whoL, if_pos (Or.inr (Int32.not_le.mp h104))]) (hs.tr hs95)) (List.forall_mem_cons.mpr ⟨rfl, List.forall_mem_cons.mpr ⟨rfl, List.forall_mem_cons.mpr ⟨rfl, List.forall_mem_cons.mpr ⟨rfl, List.forall_mem_cons.mpr ⟨rfl, List.forall_mem_cons.mpr ⟨rfl, List.forall_mem_cons.mpr ⟨rfl, fun _ h => absurd h List.not_mem_nil⟩⟩⟩⟩⟩⟩⟩) | exact RR.cut (next _ (whoB g k) (whoL g k) (by rw [whoB, if_neg (fun z => z.elim (by omega) (fun y => absurd y (Int32.not_lt.mpr h104)))]) (by rw [whoL, if_neg (fun z => z.elim (by omega) (fun y => absurd y (Int32.not_lt.mpr h104)))]) (hs.tr hs95)) (List.forall_mem_cons.mpr ⟨rfl, List.forall_mem_cons.mpr ⟨rfl, List.forall_mem_cons.mpr ⟨rfl, List.forall_mem_cons.mpr ⟨rfl, List.forall_mem_cons.mpr ⟨rfl, List.forall_mem_cons.mpr ⟨rfl, List.forall_mem_cons.mpr ⟨rfl, fun _ h => absurd h List.not_mem_nil⟩⟩⟩⟩⟩⟩⟩)
      )
    by_cases hn : n = 0
    · subst hn
      refine r_aload_n hX dX7_whose_48 rfl ⟨_, rfl⟩ (RR.pc (b := 49) rfl ?_)
      refine r_getr hX dX7_whose_49 fl_X7_39 (by first | rfl | assumption) rfl (RR.pc (b := 52) rfl ?_)
      refine r_geti hX dX7_whose_52 fl_X7_76 (by first | rfl | assumption) rfl (RR.pc (b := 55) rfl ?_)
      refine r_if_ne (tgt := 61) hX dX7_whose_55 rfl (fun h55 => absurd (by rw [hW.1]; decide) h55) (fun h55 => RR.pc (b := 58) rfl ?_)
      refine r_ldc hX dX7_whose_58 kc_X7_199 (RR.pc (b := 60) rfl ?_)
      exact r_iret hX hZ dX7_whose_60 ⟨_, rfl, ⟨by rw [if_pos rfl], same.rf⟩⟩
    · skip
      refine r_aload_n hX dX7_whose_48 rfl ⟨_, rfl⟩ (RR.pc (b := 49) rfl ?_)
      refine r_getr hX dX7_whose_49 fl_X7_39 (by first | rfl | assumption) rfl (RR.pc (b := 52) rfl ?_)
      refine r_geti hX dX7_whose_52 fl_X7_76 (by first | rfl | assumption) rfl (RR.pc (b := 55) rfl ?_)
      rw [hW.1]
      refine r_if_ne (tgt := 61) hX dX7_whose_55 rfl (fun h55 => ?_) (fun h55 => absurd h55 (fun z => hn ((nI_eq (a := n) (b := 0) (by omega) (by omega)).mp z)))
      refine r_iconst (v := 0) hX dX7_whose_61 (by decide) (RR.pc (b := 62) rfl ?_)
      refine r_istore hX dX7_whose_62 (by decide) (RR.pc (b := 64) rfl ?_)
      refine r_aload_n hX dX7_whose_64 rfl ⟨_, rfl⟩ (RR.pc (b := 65) rfl ?_)
      refine r_iconst (v := 0) hX dX7_whose_65 (by decide) (RR.pc (b := 66) rfl ?_)
      refine r_iload_n (i := 0) hX dX7_whose_66 rfl (RR.pc (b := 67) rfl ?_)
      refine r_aload hX dX7_whose_67 rfl ⟨_, rfl⟩ (RR.pc (b := 69) rfl ?_)
      refine r_callVi hX dX7_whose_69 ml_X7_213 cd_X7_differenceIfAlone iv_X7_differenceIfAlone (cd σ 0 same.rf (by omega)) (by decide) (by first | rfl | assumption) rfl rfl rfl rfl (Nat.le_of_ble_eq_true rfl) (fun r_69 s_69 e_69 => RR.pc (b := 72) rfl ?_)
      obtain ⟨rfl, hs69⟩ := e_69
      refine r_istore hX dX7_whose_72 (by decide) (RR.pc (b := 74) rfl ?_)
      refine r_iconst (v := 1) hX dX7_whose_74 (by decide) (RR.pc (b := 75) rfl ?_)
      refine r_istore hX dX7_whose_75 (by decide) (RR.pc (b := 77) rfl ?_)
      have eB : whoB g 1 = 0 := by rw [whoB, if_pos (Or.inl rfl)]; rfl
      have eL : whoL g 1 = g 0 := by rw [whoL, if_pos (Or.inl rfl)]
      rw [← eB, ← eL]
      exact RR.cut (loop 1 (by omega) (by omega) _ hs69) (List.forall_mem_cons.mpr ⟨rfl, List.forall_mem_cons.mpr ⟨rfl, List.forall_mem_cons.mpr ⟨rfl, List.forall_mem_cons.mpr ⟨rfl, List.forall_mem_cons.mpr ⟨rfl, List.forall_mem_cons.mpr ⟨rfl, List.forall_mem_cons.mpr ⟨rfl, fun _ h => absurd h List.not_mem_nil⟩⟩⟩⟩⟩⟩⟩)
  refine r_iload_n (i := 0) hX dX7_whose_0 rfl (RR.pc (b := 1) rfl ?_)
  refine r_callSie hX dX7_whose_1 ml_X7_206 cd_X7_isSheet st_X7_isSheet c_X7_isSheet (by decide) rfl rfl (Nat.le_of_ble_eq_true rfl) (RR.pc (b := 4) rfl ?_)
  refine r_if_eq_b (tgt := 26) hX dX7_whose_4 rfl (fun h4 => ?_) (fun h4 => RR.pc (b := 7) rfl ?_)
  · exact RR.cut (bad (fun z => by first | exact h4 z.1 | exact h14 z.2.1 | exact h23 z.2.2)) (fun _ h => absurd h List.not_mem_nil)
  · refine r_iload_n (i := 0) hX dX7_whose_7 rfl (RR.pc (b := 8) rfl ?_)
    refine r_iconst (v := 0) hX dX7_whose_8 (by decide) (RR.pc (b := 9) rfl ?_)
    refine r_bipush (v := 60) hX dX7_whose_9 (by decide) (RR.pc (b := 11) rfl ?_)
    refine r_callSie hX dX7_whose_11 ml_X7_71 cd_X7_within st_X7_within c_X7_within (by decide) rfl rfl (Nat.le_of_ble_eq_true rfl) (RR.pc (b := 14) rfl ?_)
    refine r_if_eq_b (tgt := 26) hX dX7_whose_14 rfl (fun h14 => ?_) (fun h14 => RR.pc (b := 17) rfl ?_)
    · try simp only [Int32.reduceToInt] at h14
      exact RR.cut (bad (fun z => by first | exact h4 z.1 | exact h14 z.2.1 | exact h23 z.2.2)) (fun _ h => absurd h List.not_mem_nil)
    · try simp only [Int32.reduceToInt] at h14
      refine r_iload_n (i := 0) hX dX7_whose_17 rfl (RR.pc (b := 18) rfl ?_)
      refine r_iconst (v := 0) hX dX7_whose_18 (by decide) (RR.pc (b := 19) rfl ?_)
      refine r_iconst (v := 1) hX dX7_whose_19 (by decide) (RR.pc (b := 20) rfl ?_)
      refine r_callSie hX dX7_whose_20 ml_X7_71 cd_X7_within st_X7_within c_X7_within (by decide) rfl rfl (Nat.le_of_ble_eq_true rfl) (RR.pc (b := 23) rfl ?_)
      refine r_if_ne_b (tgt := 29) hX dX7_whose_23 rfl (fun h23 => ?_) (fun h23 => RR.pc (b := 26) rfl ?_)
      · try simp only [Int32.reduceToInt] at h23
        obtain ⟨a, ha, rfl⟩ := ix_of (n := 4) (k := sheet) ⟨by omega, by omega⟩ (by omega)
        obtain ⟨c, hc, e2⟩ := ix_of (n := 61) (k := q) ⟨by omega, by omega⟩ (by omega)
        obtain ⟨z, hz1, hz2⟩ := (hS a ha).2
        obtain ⟨lh, lh1⟩ := layH ha
        have q25 : (shC σ a 25).toNatClampNeg = z := by rw [hz2, nI_clamp (by omega)]
        refine r_aload_n hX dX7_whose_29 rfl ⟨_, rfl⟩ (RR.pc (b := 30) rfl ?_)
        refine r_getr hX dX7_whose_30 fl_X7_51 (by first | rfl | assumption) rfl (RR.pc (b := 33) rfl ?_)
        refine r_iload_n (i := 0) hX dX7_whose_33 rfl (RR.pc (b := 34) rfl ?_)
        refine r_aald hX dX7_whose_34 (by first | rfl | assumption) ⟨_, rfl⟩ rfl (by omega) (by decide) (RR.pc (b := 35) rfl ?_)
        refine r_astore hX dX7_whose_35 (by decide) ⟨_, rfl⟩ (RR.pc (b := 37) rfl ?_)
        refine r_aload hX dX7_whose_37 rfl ⟨_, rfl⟩ (RR.pc (b := 39) rfl ?_)
        refine r_callVie hX dX7_whose_39 ml_X7_209 cd_X1_isMissing iv_X1_isMissing (c_X1_isMissing lh) (by decide) (by first | rfl | assumption) rfl rfl rfl rfl (Nat.le_of_ble_eq_true rfl) (RR.pc (b := 42) rfl ?_)
        refine r_if_eq_b (tgt := 48) hX dX7_whose_42 rfl (fun h42 => ?_) (fun h42 => RR.pc (b := 45) rfl ?_)
        · exact RR.cut (go a z c ha hz1 (by omega) e2 hz2 (by unfold whosF; rw [ix_some ha (by omega)]; dsimp only; rw [if_pos ⟨h14, h23⟩, if_neg (fun y => h42 ((hS.miss ha).mp y)), q25, e2, nI_clamp (by omega)])) (List.forall_mem_cons.mpr ⟨rfl, List.forall_mem_cons.mpr ⟨rfl, List.forall_mem_cons.mpr ⟨rfl, List.forall_mem_cons.mpr ⟨rfl, fun _ h => absurd h List.not_mem_nil⟩⟩⟩⟩)
        · refine r_ldc hX dX7_whose_45 kc_X7_212 (RR.pc (b := 47) rfl ?_)
          exact r_iret hX hZ dX7_whose_47 ⟨_, rfl, ⟨by unfold whosF; rw [ix_some ha (by omega)]; dsimp only; rw [if_pos ⟨h14, h23⟩, if_pos ((hS.miss ha).mpr h42)], same.rf⟩⟩
      · try simp only [Int32.reduceToInt] at h23
        exact RR.cut (bad (fun z => by first | exact h4 z.1 | exact h14 z.2.1 | exact h23 z.2.2)) (fun _ h => absurd h List.not_mem_nil)
