/-! the tape, the texts, the wants, the image -/
theorem and255 (y : Int32) : ∃ x : Nat, x < 256 ∧ (y &&& 255) = nI x := by
  refine ⟨(y &&& 255).toBitVec.toNat, ?_, ?_⟩
  · rw [Int32.toBitVec_and, BitVec.toNat_and]
    have : (255 : Int32).toBitVec.toNat = 2 ^ 8 - 1 := rfl
    rw [this, Nat.and_two_pow_sub_one_eq_mod]
    omega
  · apply Int32.toBitVec_inj.mp
    apply BitVec.eq_of_toNat_eq
    rw [show (nI (y &&& 255).toBitVec.toNat).toBitVec.toNat = (y &&& 255).toBitVec.toNat from pk_tn (by
      rw [Int32.toBitVec_and, BitVec.toNat_and]
      have : (255 : Int32).toBitVec.toNat = 2 ^ 8 - 1 := rfl
      rw [this, Nat.and_two_pow_sub_one_eq_mod]
      omega)]
theorem fedL_ag {f g : Nat → Int32} {a b c : Int32} {k : Nat} (h : ∀ i, i < 96 → f i = g i ∧ ∃ x : Nat, x < 256 ∧ f i = nI x) : ∀ j, ∀ i, i < 96 → fedL f a b c k j i = fedL g a b c k j i ∧ ∃ x : Nat, x < 256 ∧ fedL f a b c k j i = nI x := by
  intro j
  induction j with
  | zero => exact h
  | succ j ih =>
    intro i hi
    unfold fedL
    by_cases q : i = k + j
    · rw [q, pk_us, pk_us]
      exact ⟨rfl, and255 _⟩
    · rw [pk_un q, pk_un q]
      exact ih i hi
theorem Rel.tp {σ s : SG} (h : Rel σ) (h5 : TpR s) (e : ∀ r, r ∉ [5, 32, 38] → s r = σ r) (e0 : s 38 0 = σ 38 0) (e12 : s 38 12 = σ 38 12) : Rel s := by
  obtain ⟨⟨Ts, nt, ⟨n, m, h1⟩, h2⟩, h3, h4, -, h6⟩ := h
  have e9 := e 9 (by decide)
  exact ⟨⟨Ts, nt, ⟨n, m, h1.same (e 0 (by decide)) (e 3 (by decide)) (e 20 (by decide))⟩, h2.same (e 1 (by decide)) (e 3 (by decide)) (e 21 (by decide)) (by rw [e9]) e0⟩, h3.same (e 7 (by decide)) (e 23 (by decide)) (e 24 (by decide)) (e 25 (by decide)), h4.same (e 8 (by decide)) (e 26 (by decide)) (e 27 (by decide)) (e 28 (by decide)) (e 29 (by decide)) (e 30 (by decide)), h5, h6.same e9 (e 36 (by decide)) e12⟩
theorem p_feed {G : GM} {σ : SG} {a b c : Int32} (hR : Rel σ) : Pair G yX7_feed cX7_feed 4 1 yX8_feed cX8_feed 6 0 [.int a, .int b, .int c] σ := by
  obtain ⟨⟨Ts, nt, ⟨n, m, hC, hRT, hW, hA, hG, hm⟩, hI⟩, hSh, hSl, hTp, hWt⟩ := id hR
  have h8 := hW.2.1
  have hN20 : σ 20 0 = nI n := by rw [← hA 0 (by omega)]; exact hW.1
  have hW20 : WO (σ 20) n m := hW.ag hA
  have hV : VO (lkV Ts nt) := lkV_VO
  obtain ⟨L, hL, t5, t38, hB⟩ := hTp
  refine Pair.mk (c_X7_feed t5 hL) (fun r s hp => c_X8_feed (k := L) (by rw [hp.1 38 (by decide)]; exact t38) hL) ?_
  rintro r s r' s' ⟨h1, a1, a2⟩ ⟨b1, b2⟩
  by_cases q : 96 < L + 12
  · rw [(a1 q).1, (b1 q).1, (b1 q).2, (a1 q).2]
    exact ⟨rfl, hR⟩
  · obtain ⟨p1, p2, p3⟩ := a2 (by omega)
    obtain ⟨q1, q2⟩ := b2 (by omega)
    rw [p1, q1, q2]
    have o : ∀ r, r ≠ 32 → r ≠ 38 → su (sr s 32 (fedL (s 32) a b c L 12)) 38 1 (nI (L + 12)) r = s r := fun r h3 h8 => by
      rw [su_ne h8, sr_ne h3]
    have o38 : ∀ i, i ≠ 1 → su (sr s 32 (fedL (s 32) a b c L 12)) 38 1 (nI (L + 12)) 38 i = σ 38 i := fun i hi => by
      rw [su_eq, pk_un hi, sr_ne (by omega), h1 38 (by decide)]
    refine ⟨rfl, hR.tp ⟨L + 12, by omega, by rw [o 5 (by omega) (by omega)]; exact p2, by rw [su_eq, pk_us], fun i hi => ?_⟩ (fun r hr => ?_) (o38 0 (by omega)) (o38 12 (by omega))⟩
    · rw [o 5 (by omega) (by omega), su_ne (by omega), sr_eq, h1 32 (by decide), p3 i hi]
      exact fedL_ag hB 12 i hi
    · simp only [List.mem_cons, List.not_mem_nil, or_false] at hr
      rw [o r (by omega) (by omega), h1 r (by simp only [List.mem_cons, List.not_mem_nil, or_false]; omega)]
theorem p_trim {G : GM} {σ : SG} {v : Int32} (hR : Rel σ) : Pair G yX7_trim cX7_trim 2 1 yX8_trim cX8_trim 2 1 [.int v] σ := by
  obtain ⟨⟨Ts, nt, ⟨n, m, hC, hRT, hW, hA, hG, hm⟩, hI⟩, hSh, hSl, hTp, hWt⟩ := id hR
  have h8 := hW.2.1
  have hN20 : σ 20 0 = nI n := by rw [← hA 0 (by omega)]; exact hW.1
  have hW20 : WO (σ 20) n m := hW.ag hA
  have hV : VO (lkV Ts nt) := lkV_VO
  obtain ⟨L, hL, t5, t38, hB⟩ := hTp
  have kk : ∀ {r : Int32} {s : SG}, ((¬ (0 ≤ v.toInt ∧ v.toInt ≤ L) → r = vBAD ∧ s = σ) ∧ (0 ≤ v.toInt ∧ v.toInt ≤ L → r = v ∧ s = su σ 5 96 v)) → s 38 = σ 38 := fun {r s} hp => by
    by_cases q : 0 ≤ v.toInt ∧ v.toInt ≤ L
    · rw [(hp.2 q).2, su_ne (by omega)]
    · rw [(hp.1 q).2]
  refine Pair.mk (c_X7_trim t5 hL) (fun r s hp => c_X8_trim (k := L) (by rw [kk hp]; exact t38) hL) ?_
  rintro r s r' s' ⟨a1, a2⟩ ⟨b1, b2⟩
  by_cases q : 0 ≤ v.toInt ∧ v.toInt ≤ L
  · obtain ⟨p1, p2⟩ := a2 q
    obtain ⟨q1, q2⟩ := b2 q
    rw [p1, q1, q2, p2]
    obtain ⟨c, hc, ec⟩ := inOf q (by omega)
    have o38 : ∀ i, i ≠ 1 → su (su σ 5 96 v) 38 1 v 38 i = σ 38 i := fun i hi => by
      rw [su_eq, pk_un hi, su_ne (by omega)]
    refine ⟨rfl, hR.tp ⟨c, by omega, ?_, ?_, fun i hi => ?_⟩ (fun r hr => ?_) (o38 0 (by omega)) (o38 12 (by omega))⟩
    · rw [su_ne (by omega), su_eq, pk_us]; exact ec
    · rw [su_eq, pk_us]; exact ec
    · rw [su_ne (by omega), su_eq, pk_un (by omega), su_ne (by omega), su_ne (by omega)]
      exact hB i hi
    · simp only [List.mem_cons, List.not_mem_nil, or_false] at hr
      rw [su_ne (by omega), su_ne (by omega)]
  · rw [(a1 q).1, (b1 q).1, (b1 q).2, (a1 q).2]
    exact ⟨rfl, hR⟩
theorem cnt_u {Ts : Nat → Tx} {T : Tx} {nt nt' : Nat} {key : Int32} (h : nt' ≤ nt) : cnt (updT Ts nt T) key nt' = cnt Ts key nt' := cnt_congr (fun t ht => by unfold updT; rw [if_neg (by omega)])
theorem p_text {G : GM} {σ : SG} (hR : Rel σ) : Pair G yX7_text cX7_text 3 98 yX8_text cX8_text 3 97 [] σ := by
  obtain ⟨⟨Ts, nt, ⟨n, m, hC, hRT, hW, hA, hG, hm⟩, hI⟩, hSh, hSl, hTp, hWt⟩ := id hR
  have h8 := hW.2.1
  have hN20 : σ 20 0 = nI n := by rw [← hA 0 (by omega)]; exact hW.1
  have hW20 : WO (σ 20) n m := hW.ag hA
  have hV : VO (lkV Ts nt) := lkV_VO
  obtain ⟨L, hL, t5, t38, hB⟩ := hTp
  have hT : TP σ (σ 5) L := ⟨hL, t5, fun _ _ => rfl, fun i hi => (hB i hi).2⟩
  have hT2 : ∀ {s : SG}, same [0, 3, 5, 6] σ s → TPR s (σ 5) L := fun {s} h => ⟨hL, by rw [h 38 (by decide)]; exact t38, fun i hi => by rw [h 32 (by decide)]; exact (hB i hi).1.symm, fun i hi => (hB i hi).2⟩
  refine Pair.mk (c_X7_text hT hC) (fun r s hp => c_X8_text (nt := nt) (Ts := Ts) (hT2 hp.1) (by rw [hp.1 20 (by decide)]; exact hRT)) ?_
  rintro r s r' s' ⟨h1, a5, a1, a2⟩ ⟨h2, b1, b0, b12, b20, b2, b3⟩
  have e20 := h1 20 (by decide)
  rw [e20] at b20
  have hI2 : ∀ Ts' : Nat → Tx, ∀ nt2 : Nat, nt ≤ nt2 → (∀ t, t < nt → Ts' t = Ts t) → (∀ t, t < nt → TC (s 3) t (Ts t)) → ImgR s' Ts' nt2 := by
    intro Ts' nt2 hle hu hc
    obtain ⟨i1, i2⟩ := hI
    have g9 : s' 9 60 = σ 9 60 := by rw [h2 9 (by decide), h1 9 (by decide)]
    refine ⟨by rw [g9, b0, h1 38 (by decide)]; exact i1, fun hne => ?_⟩
    obtain ⟨n', m', nt', j0, j1, j2, j3, j4, j5, j6⟩ := i2 (by rw [← g9]; exact hne)
    have cu : ∀ key, cnt Ts' key nt' = cnt Ts key nt' := fun key => cnt_congr (fun t ht => hu t (by omega))
    refine ⟨n', m', nt', by omega, ?_, ?_, ?_, ?_, ?_, j6⟩
    · rw [h2 1 (by decide), h1 1 (by decide), h2 3 (by decide)]
      exact ⟨j1.1, j1.2.1, fun k hk => by rw [cu]; exact j1.2.2.1 k hk, fun t ht => by rw [hu t (by omega)]; exact ⟨hc t (by omega), (j1.2.2.2 t ht).2⟩⟩
    · rw [h2 21 (by decide), h1 21 (by decide)]
      exact ⟨j2.1, j2.2.1, fun t ht => by rw [hu t (by omega)]; exact j2.2.2 t ht⟩
    · rw [h2 1 (by decide), h1 1 (by decide)]; exact j3
    · rw [h2 1 (by decide), h1 1 (by decide), h2 21 (by decide), h1 21 (by decide)]; exact j4
    · rw [h2 1 (by decide), h1 1 (by decide)]; exact j5
  have fin : ∀ Ts' : Nat → Tx, ∀ nt2 : Nat, nt ≤ nt2 → (∀ t, t < nt → Ts' t = Ts t) → (∀ t, t < nt → TC (s 3) t (Ts t)) → CT (s 3) (s 0) Ts' nt2 → RT (s' 20) Ts' nt2 → (∀ i, i < 171 → i ≠ 1 → s 0 i = σ 0 i) → Rel s' := by
    intro Ts' nt2 hle hu hc c1 c2 c3
    have e9 : s' 9 = σ 9 := by rw [h2 9 (by decide), h1 9 (by decide)]
    refine ⟨⟨Ts', nt2, ⟨n, m, ?_, c2, ?_, ?_, ?_, hm⟩, hI2 Ts' nt2 hle hu hc⟩, ?_, ?_, ?_, ?_⟩
    · rw [h2 3 (by decide), h2 0 (by decide)]; exact c1
    · rw [h2 0 (by decide)]
      exact hW.low (c3 0 (by omega) (by omega)) (c3 2 (by omega) (by omega)) (by rw [c3 10 (by omega) (by omega)]; exact hW.t10) (fun i _ hi => c3 i hi (by omega))
    · rw [h2 0 (by decide)]
      intro i hi
      by_cases q : i = 1
      · rw [q, c1.1, c2.1]
      · rw [c3 i (by omega) q, b20 i (by omega) q]
        exact hA i hi
    · rw [h2 0 (by decide)]
      exact hG.congr (fun i hi1 hi2 => c3 i (by omega) (by omega))
    · exact hSh.same (by rw [h2 7 (by decide), h1 7 (by decide)]) (by rw [h2 23 (by decide), h1 23 (by decide)]) (by rw [h2 24 (by decide), h1 24 (by decide)]) (by rw [h2 25 (by decide), h1 25 (by decide)])
    · exact hSl.same (by rw [h2 8 (by decide), h1 8 (by decide)]) (by rw [h2 26 (by decide), h1 26 (by decide)]) (by rw [h2 27 (by decide), h1 27 (by decide)]) (by rw [h2 28 (by decide), h1 28 (by decide)]) (by rw [h2 29 (by decide), h1 29 (by decide)]) (by rw [h2 30 (by decide), h1 30 (by decide)])
    · refine ⟨0, by omega, by rw [h2 5 (by decide), a5, pk_us]; rfl, b1, fun i hi => ?_⟩
      rw [h2 5 (by decide), a5, pk_un (by omega), h2 32 (by decide), h1 32 (by decide)]
      exact hB i hi
    · exact hWt.same e9 (by rw [h2 36 (by decide), h1 36 (by decide)]) (by rw [b12, h1 38 (by decide)])
  have old : (∀ i, i < 1400 → s 3 i = σ 3 i) → ∀ t, t < nt → TC (s 3) t (Ts t) := fun hs t ht => by
    have h14 := hC.2.1
    have := hC.2.2.2 t ht
    exact this.1.congr (by omega) this.2.2.2.1 hs
  have same0 : s 0 = σ 0 → (∀ i, i < 1400 → s 3 i = σ 3 i) → RT (s' 20) Ts nt → Rel s' := fun e0 hs hr => by
    refine fin Ts nt (Nat.le_refl nt) (fun _ _ => rfl) (old hs) ?_ hr (fun i _ _ => by rw [e0])
    rw [e0]
    exact ⟨hC.1, hC.2.1, hC.2.2.1, fun t ht => ⟨old hs t ht, (hC.2.2.2 t ht).2⟩⟩
  by_cases ok : (prF (σ 5) L).1 = true
  · obtain ⟨p1, p2⟩ := a2 ok
    obtain ⟨q1, q2⟩ := b3 ok
    by_cases hn : nt = 14
    · obtain ⟨u1, u2, u3⟩ := p1 hn
      obtain ⟨v1, v2⟩ := q1 hn
      exact ⟨by rw [u1, v1], same0 u2 u3 v2⟩
    · have h14 := hC.2.1
      obtain ⟨u1, u2, u3, u4⟩ := p2 (by omega)
      obtain ⟨v1, v2⟩ := q2 (by omega)
      refine ⟨by rw [u1, v1], fin _ (nt + 1) (by omega) (fun t ht => ?_) u4 u3 v2 (fun i hi hi1 => ?_)⟩
      · unfold updT
        rw [if_neg (by omega)]
      · rw [u2]
        unfold txW
        rw [pk_un hi1, pk_un (by omega)]
  · obtain ⟨u1, u2, u3⟩ := a1 ok
    obtain ⟨v1, v2⟩ := b2 ok
    exact ⟨by rw [u1, v1], same0 u2 u3 v2⟩
theorem Rel.wt {σ s : SG} (h : Rel σ) (h6 : WtR s) (e : ∀ r, r ∉ [9, 36, 38, 2, 4, 6, 22, 31, 33, 34, 35, 37] → s r = σ r) (e9 : s 9 60 = σ 9 60) (e0 : s 38 0 = σ 38 0) (e1 : s 38 1 = σ 38 1) : Rel s := by
  obtain ⟨⟨Ts, nt, ⟨n, m, h1⟩, h2⟩, h3, h4, h5, -⟩ := h
  exact ⟨⟨Ts, nt, ⟨n, m, h1.same (e 0 (by decide)) (e 3 (by decide)) (e 20 (by decide))⟩, h2.same (e 1 (by decide)) (e 3 (by decide)) (e 21 (by decide)) e9 e0⟩, h3.same (e 7 (by decide)) (e 23 (by decide)) (e 24 (by decide)) (e 25 (by decide)), h4.same (e 8 (by decide)) (e 26 (by decide)) (e 27 (by decide)) (e 28 (by decide)) (e 29 (by decide)) (e 30 (by decide)), h5.same (e 5 (by decide)) (e 32 (by decide)) e1, h6⟩
theorem p_tell {G : GM} {σ : SG} {v : Int32} (hR : Rel σ) : Pair G yX7_tell cX7_tell 2 0 yX8_tell cX8_tell 2 0 [.int v] σ := by
  obtain ⟨⟨Ts, nt, ⟨n, m, hC, hRT, hW, hA, hG, hm⟩, hI⟩, hSh, hSl, hTp, hWt⟩ := id hR
  have h8 := hW.2.1
  have hN20 : σ 20 0 = nI n := by rw [← hA 0 (by omega)]; exact hW.1
  have hW20 : WO (σ 20) n m := hW.ag hA
  have hV : VO (lkV Ts nt) := lkV_VO
  obtain ⟨k, hk, w9, w38, hB⟩ := hWt
  have kk : ∀ {r : Int32} {s : SG}, ((k = 60 → r = vFULL ∧ s = σ) ∧ (k < 60 → r = nI (k + 1) ∧ s = su (su σ 9 k v) 9 61 (nI (k + 1)))) → s 38 = σ 38 := fun {r s} hp => by
    by_cases q : k = 60
    · rw [(hp.1 q).2]
    · rw [(hp.2 (by omega)).2, su_ne (by omega), su_ne (by omega)]
  refine Pair.mk (c_X7_tell w9 hk) (fun r s hp => c_X8_tell (k := k) (by rw [kk hp]; exact w38) hk) ?_
  rintro r s r' s' ⟨a1, a2⟩ ⟨b1, b2⟩
  by_cases q : k = 60
  · rw [(a1 q).1, (b1 q).1, (b1 q).2, (a1 q).2]
    exact ⟨rfl, hR⟩
  · obtain ⟨p1, p2⟩ := a2 (by omega)
    obtain ⟨q1, q2⟩ := b2 (by omega)
    rw [p1, q1, q2, p2]
    have o9 : ∀ i, su (su (su (su σ 9 k v) 9 61 (nI (k + 1))) 36 k v) 38 12 (nI (k + 1)) 9 i = upd (upd (σ 9) k v) 61 (nI (k + 1)) i := fun i => by
      rw [su_ne (by omega), su_ne (by omega), su_eq, su_eq]
    have o36 : ∀ i, su (su (su (su σ 9 k v) 9 61 (nI (k + 1))) 36 k v) 38 12 (nI (k + 1)) 36 i = upd (σ 36) k v i := fun i => by
      rw [su_ne (by omega), su_eq, su_ne (by omega), su_ne (by omega)]
    have o38 : ∀ i, su (su (su (su σ 9 k v) 9 61 (nI (k + 1))) 36 k v) 38 12 (nI (k + 1)) 38 i = upd (σ 38) 12 (nI (k + 1)) i := fun i => by
      rw [su_eq, su_ne (by omega), su_ne (by omega), su_ne (by omega)]
    refine ⟨rfl, hR.wt ⟨k + 1, by omega, by rw [o9, pk_us], by rw [o38, pk_us], fun i hi => ?_⟩ (fun r hr => ?_) (by rw [o9, pk_un (by omega), pk_un (by omega)]) (by rw [o38, pk_un (by omega)]) (by rw [o38, pk_un (by omega)])⟩
    · rw [o9, o36, pk_un (by omega)]
      unfold upd
      rw [hB i hi]
    · simp only [List.mem_cons, List.not_mem_nil, or_false] at hr
      rw [su_ne (by omega), su_ne (by omega), su_ne (by omega), su_ne (by omega)]
theorem matN_eq {a a' d d' : Nat → Int32} : ∀ k, (∀ i, i < k → a i = a' i ∧ d i = d' i) → matN a d k = matN a' d' k := by
  intro k
  induction k with
  | zero => intro _; rfl
  | succ k ih =>
    intro h
    unfold matN
    rw [ih (fun i hi => h i (by omega)), (h k (by omega)).1, (h k (by omega)).2]
theorem chkF_ag {V : Int32 → Int32 → Int32 → Int32} {n m many : Nat} {w w' wt wt' : Nat → Int32} {q : Int32} (h : Ag (131 + 5 * n) w w') (hV : VO V) (hW : WO w n m) (hB : ∀ i, i < 60 → wt i = wt' i) (hk : many ≤ 60) : chkF V n m w wt many q = chkF V n m w' wt' many q := by
  have hd : ∀ j, dueF V n w j = dueF V n w' j := fun j => by
    unfold dueF
    have A := minN_ag h hV hW (j / 2 + 1)
    rw [sumW_ag A 60 (by omega), A 4 (by omega)]
  unfold chkF chkA
  rw [matN_eq (min many (2 * min q.toNatClampNeg (9999 - m))) (fun i hi => ⟨hB i (by omega), hd i⟩)]
theorem p_check {G : GM} {σ : SG} {q : Int32} (hR : Rel σ) : Pair G yX7_check cX7_check 6 6 yX8_check cX8_check 5 5 [.int q] σ := by
  obtain ⟨⟨Ts, nt, ⟨n, m, hC, hRT, hW, hA, hG, hm⟩, hI⟩, hSh, hSl, hTp, hWt⟩ := id hR
  have h8 := hW.2.1
  have hN20 : σ 20 0 = nI n := by rw [← hA 0 (by omega)]; exact hW.1
  have hW20 : WO (σ 20) n m := hW.ag hA
  have hV : VO (lkV Ts nt) := lkV_VO
  obtain ⟨many, hk, w9, w38, hB⟩ := hWt
  have hI' := hI
  obtain ⟨i1, i2⟩ := hI'
  obtain ⟨n', m', nt', hIC, hIR, hIA⟩ : ∃ n' m' nt' : Nat, (¬ σ 9 60 = 0 → CT (σ 3) (σ 1) Ts nt' ∧ WO (σ 1) n' m' ∧ m' ≤ 9999) ∧ (¬ σ 38 0 = 0 → RT (σ 21) Ts nt' ∧ WO (σ 21) n' m' ∧ m' ≤ 9999) ∧ (¬ σ 9 60 = 0 → Ag (131 + 5 * n') (σ 1) (σ 21)) := by
    by_cases c : σ 9 60 = 0
    · exact ⟨0, 0, 0, fun z => absurd c z, fun z => absurd (i1.symm.trans c) z, fun z => absurd c z⟩
    · obtain ⟨n', m', nt', j0, j1, j2, j3, j4, j5, j6⟩ := i2 c
      exact ⟨n', m', nt', fun _ => ⟨j1, j3, j6⟩, fun _ => ⟨j2, j3.ag j4, j6⟩, fun _ => j4⟩
  refine Pair.mk (c_X7_check hIC w9 hk) (fun r s hp => c_X8_check (Ts := Ts) (nt := nt') (n := n') (m := m') (many := many) (by rw [hp.1 38 (by decide), hp.1 21 (by decide)]; exact hIR) (by rw [hp.1 38 (by decide)]; exact w38) hk) ?_
  rintro r s r' s' ⟨h1, a9, a1, a2⟩ ⟨h2, b38, b1, b2⟩
  rw [h1 38 (by decide)] at b38
  rw [h1 38 (by decide), h1 20 (by decide), h1 21 (by decide), h1 36 (by decide)] at b2
  refine ⟨?_, hR.wt ⟨0, by omega, by rw [h2 9 (by decide), a9, pk_us]; rfl, by rw [b38, pk_us]; rfl, fun i hi => ?_⟩ (fun r hr => ?_) (by rw [h2 9 (by decide), a9, pk_un (by omega)]) (by rw [b38, pk_un (by omega)]) (by rw [b38, pk_un (by omega)])⟩
  · by_cases c : 1 ≤ q.toInt ∧ q.toInt ≤ 30
    · obtain ⟨p1, p2⟩ := a2 c
      obtain ⟨q1, q2⟩ := b2 c
      by_cases c0 : σ 9 60 = 0
      · rw [p1 c0, q1 (i1.symm.trans c0)]
      · rw [p2 c0, q2 (fun z => c0 (i1.trans z))]
        have j := hIA c0
        have g : Ag (131 + 5 * n') (σ 1) (cpL (σ 20) (σ 21) 2971) := fun i hi => by
          have := (hIC c0).2.1.2.1
          unfold cpL
          rw [if_pos (by omega)]
          exact j i hi
        exact (chkF_ag g lkV_VO (hIC c0).2.1 hB hk).symm
    · rw [a1 c, b1 c]
  · rw [h2 9 (by decide), a9, pk_un (by omega), h2 36 (by decide), h1 36 (by decide)]
    exact hB i hi
  · rw [h2 r (fun z => hr (by simp only [List.mem_cons, List.not_mem_nil, or_false] at z ⊢; omega)), h1 r (fun z => hr (by simp only [List.mem_cons, List.not_mem_nil, or_false] at z ⊢; omega))]
theorem cpL_Ag {g f : Nat → Int32} {N : Nat} (h : N ≤ 2971) : Ag N f (cpL g f 2971) := fun i hi => by
  unfold cpL
  rw [if_pos (by omega)]
theorem Ag.tr {N : Nat} {f g k : Nat → Int32} (h : Ag N f g) (h' : Ag N g k) : Ag N f k := fun i hi => (h i hi).trans (h' i hi)
theorem Ag.sy {N : Nat} {f g : Nat → Int32} (h : Ag N f g) : Ag N g f := fun i hi => (h i hi).symm
theorem p_keep {G : GM} {σ : SG} (hR : Rel σ) : Pair G yX7_keep cX7_keep 1 2 yX8_keep cX8_keep 1 1 [] σ := by
  obtain ⟨⟨Ts, nt, ⟨n, m, hC, hRT, hW, hA, hG, hm⟩, hI⟩, hSh, hSl, hTp, hWt⟩ := id hR
  have h8 := hW.2.1
  have hN20 : σ 20 0 = nI n := by rw [← hA 0 (by omega)]; exact hW.1
  have hW20 : WO (σ 20) n m := hW.ag hA
  have hV : VO (lkV Ts nt) := lkV_VO
  have hk : ∀ {r : Nat}, r ≠ 9 → r ≠ 1 → su (sr σ 1 (becW (σ 1) (σ 0) n)) 9 60 1 r = σ r := fun {r} q1 q2 => by rw [su_ne q1, sr_ne q2]
  refine Pair.mk (P := fun r s => r = σ 0 0 ∧ s = su (sr σ 1 (becW (σ 1) (σ 0) n)) 9 60 1) (Q := fun r s r' s' => r' = s 20 0 ∧ s' = sr (su s 38 0 1) 21 (cpL (s 21) (s 20) 2971)) (c_X7_keep hW.1 h8) (fun r s hp => c_X8_keep) ?_
  rintro r s r' s' ⟨e1, e2⟩ ⟨e3, e4⟩
  subst r r' s'
  have f0 : ∀ r, r ∉ [1, 9, 21, 38] → sr (su s 38 0 1) 21 (cpL (s 21) (s 20) 2971) r = σ r := fun r hr => by
    simp only [List.mem_cons, List.not_mem_nil, or_false] at hr
    rw [sr_ne (by omega), su_ne (by omega), e2, hk (by omega) (by omega)]
  have f1 : sr (su s 38 0 1) 21 (cpL (s 21) (s 20) 2971) 1 = becW (σ 1) (σ 0) n := by
    rw [sr_ne (by omega), su_ne (by omega), e2, su_ne (by omega), sr_eq]
  have f21 : sr (su s 38 0 1) 21 (cpL (s 21) (s 20) 2971) 21 = cpL (σ 21) (σ 20) 2971 := by
    rw [sr_eq, e2, hk (by omega) (by omega), hk (by omega) (by omega)]
  have f9 : sr (su s 38 0 1) 21 (cpL (s 21) (s 20) 2971) 9 = upd (σ 9) 60 1 := by
    rw [sr_ne (by omega), su_ne (by omega), e2, su_eq, sr_ne (by omega)]
  have f38 : sr (su s 38 0 1) 21 (cpL (s 21) (s 20) 2971) 38 = upd (σ 38) 0 1 := by
    rw [sr_ne (by omega), su_eq, e2, hk (by omega) (by omega)]
  refine ⟨by rw [e2, hk (by omega) (by omega)]; exact (hA 0 (by omega)).symm, ⟨Ts, nt, ⟨n, m, ?_⟩, ?_, ?_⟩, ?_, ?_, ?_, ?_⟩
  · exact NowR.same ⟨hC, hRT, hW, hA, hG, hm⟩ (f0 0 (by decide)) (f0 3 (by decide)) (f0 20 (by decide))
  · rw [f9, f38, pk_us, pk_us]
  · intro _
    rw [f1, f21, f0 3 (by decide)]
    exact ⟨n, m, nt, Nat.le_refl nt, hC.bec, hRT.cp, hW.ag becW_ag, (becW_ag.sy.tr hA).tr (cpL_Ag (by omega)), hG.ag becW_ag (by omega), hm⟩
  · exact hSh.same (f0 7 (by decide)) (f0 23 (by decide)) (f0 24 (by decide)) (f0 25 (by decide))
  · exact hSl.same (f0 8 (by decide)) (f0 26 (by decide)) (f0 27 (by decide)) (f0 28 (by decide)) (f0 29 (by decide)) (f0 30 (by decide))
  · exact hTp.same (f0 5 (by decide)) (f0 32 (by decide)) (by rw [f38, pk_un (by omega)])
  · obtain ⟨k, hk, w9, w38, hB⟩ := hWt
    refine ⟨k, hk, by rw [f9, pk_un (by omega)]; exact w9, by rw [f38, pk_un (by omega)]; exact w38, fun i hi => ?_⟩
    rw [f9, pk_un (by omega), f0 36 (by decide)]
    exact hB i hi
theorem p_back {G : GM} {σ : SG} (hR : Rel σ) : Pair G yX7_back cX7_back 1 2 yX8_back cX8_back 1 1 [] σ := by
  obtain ⟨⟨Ts, nt, ⟨n, m, hC, hRT, hW, hA, hG, hm⟩, hI⟩, hSh, hSl, hTp, hWt⟩ := id hR
  have h8 := hW.2.1
  have hN20 : σ 20 0 = nI n := by rw [← hA 0 (by omega)]; exact hW.1
  have hW20 : WO (σ 20) n m := hW.ag hA
  have hV : VO (lkV Ts nt) := lkV_VO
  obtain ⟨i1, i2⟩ := id hI
  by_cases c : σ 9 60 = 0
  · refine Pair.mk (c_X7_back (n := 0) (fun z => absurd c z)) (fun r s hp => c_X8_back) ?_
    rintro r s r' s' ⟨a1, -⟩ ⟨b1, -⟩
    obtain ⟨p1, p2⟩ := a1 c
    obtain ⟨q1, q2⟩ := b1 (by rw [p2]; exact i1.symm.trans c)
    rw [p1, q1, q2, p2]
    exact ⟨rfl, hR⟩
  · obtain ⟨n', m', nt', j0, j1, j2, j3, j4, j5, j6⟩ := i2 c
    have j8 := j3.2.1
    refine Pair.mk (c_X7_back (n := n') (fun z => ⟨j3.1, j8⟩)) (fun r s hp => c_X8_back) ?_
    rintro r s r' s' ⟨-, a2⟩ ⟨-, b2⟩
    obtain ⟨p1, p2⟩ := a2 c
    have hk : ∀ {r : Nat}, r ≠ 0 → s r = σ r := fun {r} q1 => by rw [p2, sr_ne q1]
    obtain ⟨q1, q2⟩ := b2 (by rw [hk (by omega)]; exact fun z => c (i1.trans z))
    rw [hk (by omega)] at q1
    rw [hk (by omega), hk (by omega)] at q2
    have f0 : ∀ r, r ∉ [0, 20] → s' r = σ r := fun r hr => by
      simp only [List.mem_cons, List.not_mem_nil, or_false] at hr
      rw [q2, sr_ne (by omega), hk (by omega)]
    have g0 : s' 0 = becW (σ 0) (σ 1) n' := by rw [q2, sr_ne (by omega), p2, sr_eq]
    have g20 : s' 20 = cpL (σ 20) (σ 21) 2971 := by rw [q2, sr_eq]
    refine ⟨by rw [p1, q1]; exact (j4 0 (by omega)).symm, ⟨Ts, nt', ⟨n', m', ?_⟩, ?_⟩, ?_, ?_, ?_, ?_⟩
    · unfold NowR
      rw [g0, g20, f0 3 (by decide)]
      exact ⟨j1.bec, j2.cp, j3.ag becW_ag, (becW_ag.sy.tr j4).tr (cpL_Ag (by omega)), j5.ag becW_ag (by omega), j6⟩
    · unfold ImgR
      rw [f0 9 (by decide), f0 38 (by decide), f0 3 (by decide), f0 1 (by decide), f0 21 (by decide)]
      exact ⟨i1, fun _ => ⟨n', m', nt', Nat.le_refl nt', j1, j2, j3, j4, j5, j6⟩⟩
    · exact hSh.same (f0 7 (by decide)) (f0 23 (by decide)) (f0 24 (by decide)) (f0 25 (by decide))
    · exact hSl.same (f0 8 (by decide)) (f0 26 (by decide)) (f0 27 (by decide)) (f0 28 (by decide)) (f0 29 (by decide)) (f0 30 (by decide))
    · exact hTp.same (f0 5 (by decide)) (f0 32 (by decide)) (by rw [f0 38 (by decide)])
    · exact hWt.same (f0 9 (by decide)) (f0 36 (by decide)) (by rw [f0 38 (by decide)])
