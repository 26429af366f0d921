/-! sheets, slots -/
theorem SO.eq {S S' : Nat → Nat → Int32} (h : SO S) (e : shEq S S') : SO S' := fun a ha => by
  rw [← e a ha 24 (by omega), ← e a ha 25 (by omega)]
  exact h a ha
theorem SP.eq {S S' : Nat → Nat → Int32} (h : SP S) (e : shEq S S') : SP S' := fun a ha j hj => by
  rw [← e a ha j (by omega)]
  exact h a ha j hj
theorem shEq.tr {S T U : Nat → Nat → Int32} (h : shEq S T) (g : shEq T U) : shEq S U := fun a ha j hj => (h a ha j hj).trans (g a ha j hj)
theorem shEq.sy {S T : Nat → Nat → Int32} (h : shEq S T) : shEq T S := fun a ha j hj => (h a ha j hj).symm
def StS (p p' : Int32 × (Nat → Nat → Int32)) : Prop := p'.1 = p.1 ∧ shEq p.2 p'.2 ∧ SO p.2 ∧ SP p.2
section STS
variable {S S' : Nat → Nat → Int32}
theorem StS.id {r : Int32} (hE : shEq S S') (hO : SO S) (hP : SP S) : StS (r, S) (r, S') := ⟨rfl, hE, hO, hP⟩
theorem StS.row {r : Int32} {a z : Nat} {f f' : Nat → Int32} (hE : shEq S S') (hO : SO S) (hP : SP S) (he : ∀ j, j < 26 → f j = f' j) (h24 : f 24 = -1 ∨ f 24 = 0 ∨ f 24 = 1) (hz : z ≤ 24) (h25 : f 25 = nI z) (hp : ∀ j, j < 24 → f j = vNONE ∨ (-99999 ≤ (f j).toInt ∧ (f j).toInt ≤ 99999)) : StS (r, rowS S a f) (r, rowS S' a f') := by
  refine ⟨rfl, fun b hb j hj => ?_, fun b hb => ?_, fun b hb j hj => ?_⟩
  · dsimp only [rowS]
    by_cases c : b = a
    · rw [if_pos c, if_pos c]; exact he j hj
    · rw [if_neg c, if_neg c]; exact hE b hb j hj
  · dsimp only [rowS]
    by_cases c : b = a
    · rw [if_pos c]; exact ⟨h24, z, hz, h25⟩
    · rw [if_neg c]; exact hO b hb
  · dsimp only [rowS]
    by_cases c : b = a
    · rw [if_pos c]; exact hp j hj
    · rw [if_neg c]; exact hP b hb j hj
theorem sheetF_st {sheet sort n : Int32} (hE : shEq S S') (hO : SO S) (hP : SP S) : StS (sheetF S sheet sort n) (sheetF S' sheet sort n) := by
  unfold sheetF
  cases hi : ix sheet 4 with
  | none => exact StS.id hE hO hP
  | some a =>
    dsimp only
    by_cases c1 : ¬ (-1 ≤ sort.toInt ∧ sort.toInt ≤ 1)
    · rw [if_pos c1, if_pos c1]; exact StS.id hE hO hP
    · rw [if_neg c1, if_neg c1]
      have hs : sort = -1 ∨ sort = 0 ∨ sort = 1 := by
        have : sort.toInt = -1 ∨ sort.toInt = 0 ∨ sort.toInt = 1 := by omega
        rcases this with q | q | q
        · exact Or.inl (Int32.toInt_inj.mp (by rw [q]; rfl))
        · exact Or.inr (Or.inl (Int32.toInt_inj.mp (by rw [q]; rfl)))
        · exact Or.inr (Or.inr (Int32.toInt_inj.mp (by rw [q]; rfl)))
      have h0 : ∀ k : Int32, ∀ j, j < 24 → rowN sort k j = vNONE ∨ (-99999 ≤ (rowN sort k j).toInt ∧ (rowN sort k j).toInt ≤ 99999) := fun k j hj => by
        unfold rowN
        rw [if_pos hj]
        exact Or.inr (by decide)
      by_cases c2 : sort.toInt < 0
      · rw [if_pos c2, if_pos c2]
        exact StS.row (z := 0) hE hO hP (fun _ _ => rfl) hs (by omega) rfl (h0 0)
      · rw [if_neg c2, if_neg c2]
        by_cases c3 : 24 < n.toInt
        · rw [if_pos c3, if_pos c3]; exact StS.id hE hO hP
        · rw [if_neg c3, if_neg c3]
          by_cases c4 : n.toInt < 0
          · rw [if_pos c4, if_pos c4]; exact StS.id hE hO hP
          · rw [if_neg c4, if_neg c4]
            obtain ⟨z, hz, ez⟩ := inOf (v := n) (K := 24) ⟨by omega, by omega⟩ (by omega)
            exact StS.row (z := z) hE hO hP (fun _ _ => rfl) hs hz ez (h0 n)
theorem sh16_in (v : Int32) : -99999 ≤ (sh16 v).toInt ∧ (sh16 v).toInt ≤ 99999 := by
  rw [← i2s_sh, Int16.toInt_toInt32]
  have h1 := Int16.le_toInt v.toInt16
  have h2 := Int16.toInt_lt v.toInt16
  constructor <;> omega
theorem markF_st {sheet place v : Int32} (hE : shEq S S') (hO : SO S) (hP : SP S) : StS (markF S sheet place v) (markF S' sheet place v) := by
  unfold markF
  cases hi : ix sheet 4 with
  | none => exact StS.id hE hO hP
  | some a =>
    have ha := (ix_lt hi (by omega)).1
    obtain ⟨hk, z, hz, ez⟩ := hO a ha
    dsimp only
    rw [← hE a ha 24 (by omega), ← hE a ha 25 (by omega)]
    by_cases c1 : S a 24 < 0
    · rw [if_pos c1, if_pos c1]; exact StS.id hE hO hP
    · rw [if_neg c1, if_neg c1, ez, nI_clamp (by omega)]
      cases hp : ix place z with
      | none => exact StS.id hE hO hP
      | some p =>
        have hpz := (ix_lt hp (by omega)).1
        dsimp only
        by_cases c2 : S a 24 = 0 ∧ v = vNONE
        · rw [if_pos c2, if_pos c2]; exact StS.id hE hO hP
        · rw [if_neg c2, if_neg c2]
          by_cases c3 : S a 24 = 1 ∧ ¬ v = vNONE ∧ ¬ (-99999 ≤ v.toInt ∧ v.toInt ≤ 99999)
          · rw [if_pos c3, if_pos c3]; exact StS.id hE hO hP
          · rw [if_neg c3, if_neg c3]
            refine StS.row (z := z) hE hO hP (fun j hj => ?_) (by rw [pk_un (by omega)]; exact hk) hz (by rw [pk_un (by omega)]; exact ez) (fun j hj => ?_)
            · unfold upd
              by_cases q : j = p
              · rw [if_pos q, if_pos q]
              · rw [if_neg q, if_neg q]; exact hE a ha j hj
            · by_cases q : j = p
              · rw [q, pk_us]
                by_cases k0 : S a 24 = 0
                · rw [if_pos k0]; exact Or.inr (sh16_in v)
                · rw [if_neg k0]
                  have k1 : S a 24 = 1 := by
                    rcases hk with q | q | q
                    · exact absurd (by rw [q]; decide) c1
                    · exact absurd q k0
                    · exact q
                  by_cases k2 : v = vNONE
                  · exact Or.inl k2
                  · exact Or.inr (Decidable.byContradiction (fun k3 => c3 ⟨k1, k2, k3⟩))
              · rw [pk_un q]; exact hP a ha j hj
/-- a copy, as a sheet's rows know it -/
def cpS (S : Nat → Nat → Int32) (a b o p k : Nat) : Nat → Nat → Int32 := fun b' j => if b' = b ∧ o ≤ j ∧ j < o + k then S a (p + (j - o)) else S b' j
theorem cpS_eq {a b o p k : Nat} (ha : a < 4) (ho : o + k ≤ 24) (hp : p + k ≤ 24) (hE : shEq S S') : shEq (cpS S a b o p k) (cpS S' a b o p k) := fun b' hb j hj => by
  unfold cpS
  by_cases c : b' = b ∧ o ≤ j ∧ j < o + k
  · rw [if_pos c, if_pos c]; exact hE a ha _ (by omega)
  · rw [if_neg c, if_neg c]; exact hE b' hb j hj
theorem cpS_SO {a b o p k : Nat} (ho : o + k ≤ 24) (hO : SO S) : SO (cpS S a b o p k) := fun b' hb => by
  unfold cpS
  rw [if_neg (by omega), if_neg (by omega)]
  exact hO b' hb
theorem cpS_SP {a b o p k : Nat} (ha : a < 4) (hp : p + k ≤ 24) (hP : SP S) : SP (cpS S a b o p k) := fun b' hb j hj => by
  unfold cpS
  by_cases c : b' = b ∧ o ≤ j ∧ j < o + k
  · rw [if_pos c]; exact hP a ha _ (by omega)
  · rw [if_neg c]; exact hP b' hb j hj
end STS
theorem Rel.sh {σ s : SG} (h : Rel σ) (h3 : ShR s) (e : ∀ r, r ∉ [7, 23, 24, 25, 2, 4, 6, 22, 31, 33, 34, 35, 37] → s r = σ r) : Rel s := by
  obtain ⟨⟨Ts, nt, ⟨n, m, h1⟩, h2⟩, -, h4, h5, h6⟩ := h
  have e38 := e 38 (by decide)
  have e9 := e 9 (by decide)
  exact ⟨⟨Ts, nt, ⟨n, m, h1.same (e 0 (by decide)) (e 3 (by decide)) (e 20 (by decide))⟩, h2.same (e 1 (by decide)) (e 3 (by decide)) (e 21 (by decide)) (by rw [e9]) (by rw [e38])⟩, h3, h4.same (e 8 (by decide)) (e 26 (by decide)) (e 27 (by decide)) (e 28 (by decide)) (e 29 (by decide)) (e 30 (by decide)), h5.same (e 5 (by decide)) (e 32 (by decide)) (by rw [e38]), h6.same e9 (e 36 (by decide)) (by rw [e38])⟩
theorem shR_of {σ s : SG} (h : same [7] σ s) : shR s = shR σ := by
  unfold shR
  rw [h 23 (by decide), h 24 (by decide), h 25 (by decide)]
theorem shC_of {s s' : SG} {l : List Nat} (h : same l s s') (hl : 7 ∉ l) : shC s' = shC s := by
  unfold shC
  rw [h 7 hl]
theorem p_sheet {G : GM} {σ : SG} {sheet sort num : Int32} (hR : Rel σ) : Pair G yX7_sheet cX7_sheet 4 2 yX8_sheet cX8_sheet 5 2 [.int sheet, .int sort, .int num] σ := by
  obtain ⟨⟨Ts, nt, ⟨n, m, hC, hRT, hW, hA, hG, hm⟩, hI⟩, hSh, hSl, hTp, hWt⟩ := id hR
  have h8 := hW.2.1
  have hN20 : σ 20 0 = nI n := by rw [← hA 0 (by omega)]; exact hW.1
  have hW20 : WO (σ 20) n m := hW.ag hA
  have hV : VO (lkV Ts nt) := lkV_VO
  refine Pair.mk c_X7_sheet (fun r s hp => c_X8_sheet) ?_
  rintro r s r' s' ⟨e1, e2, h1⟩ ⟨e3, e4, h2⟩
  rw [shR_of h1] at e3 e4
  obtain ⟨q1, q2, q3, q4⟩ := sheetF_st (sheet := sheet) (sort := sort) (n := num) hSh.1 hSh.2.1 hSh.2.2
  refine ⟨by rw [e1, e3]; exact q1, hR.sh ⟨by rw [shC_of h2 (by decide)]; exact (e2.tr q2).tr e4.sy, by rw [shC_of h2 (by decide)]; exact q3.eq e2.sy, by rw [shC_of h2 (by decide)]; exact q4.eq e2.sy⟩ (fun r hr => ?_)⟩
  rw [h2 r (fun z => hr (by simp only [List.mem_cons, List.not_mem_nil, or_false] at z ⊢; omega)), h1 r (fun z => hr (by simp only [List.mem_cons, List.not_mem_nil, or_false] at z ⊢; omega))]
theorem p_mark {G : GM} {σ : SG} {sheet place v : Int32} (hR : Rel σ) : Pair G yX7_mark cX7_mark 5 2 yX8_mark cX8_mark 4 2 [.int sheet, .int place, .int v] σ := by
  obtain ⟨⟨Ts, nt, ⟨n, m, hC, hRT, hW, hA, hG, hm⟩, hI⟩, hSh, hSl, hTp, hWt⟩ := id hR
  have h8 := hW.2.1
  have hN20 : σ 20 0 = nI n := by rw [← hA 0 (by omega)]; exact hW.1
  have hW20 : WO (σ 20) n m := hW.ag hA
  have hV : VO (lkV Ts nt) := lkV_VO
  refine Pair.mk (c_X7_mark hSh.2.1) (fun r s hp => c_X8_mark (by rw [hp.2.2 24 (by decide)]; exact shz hSh)) ?_
  rintro r s r' s' ⟨e1, e2, h1⟩ ⟨e3, e4, h2⟩
  rw [shR_of h1] at e3 e4
  obtain ⟨q1, q2, q3, q4⟩ := markF_st (sheet := sheet) (place := place) (v := v) hSh.1 hSh.2.1 hSh.2.2
  refine ⟨by rw [e1, e3]; exact q1, hR.sh ⟨by rw [shC_of h2 (by decide)]; exact (e2.tr q2).tr e4.sy, by rw [shC_of h2 (by decide)]; exact q3.eq e2.sy, by rw [shC_of h2 (by decide)]; exact q4.eq e2.sy⟩ (fun r hr => ?_)⟩
  rw [h2 r (fun z => hr (by simp only [List.mem_cons, List.not_mem_nil, or_false] at z ⊢; omega)), h1 r (fun z => hr (by simp only [List.mem_cons, List.not_mem_nil, or_false] at z ⊢; omega))]
theorem p_copy {G : GM} {σ : SG} {from_ place to_ at_ many : Int32} (hR : Rel σ) : Pair G yX7_copy cX7_copy 8 2 yX8_copy cX8_copy 7 2 [.int from_, .int place, .int to_, .int at_, .int many] σ := by
  obtain ⟨⟨Ts, nt, ⟨n, m, hC, hRT, hW, hA, hG, hm⟩, hI⟩, hSh, hSl, hTp, hWt⟩ := id hR
  have h8 := hW.2.1
  have hN20 : σ 20 0 = nI n := by rw [← hA 0 (by omega)]; exact hW.1
  have hW20 : WO (σ 20) n m := hW.ag hA
  have hV : VO (lkV Ts nt) := lkV_VO
  refine Pair.mk (c_X7_copy hSh.2.1) (fun r s hp => c_X8_copy (by rw [hp.1 24 (by decide)]; exact shz hSh)) ?_
  rintro r s r' s' ⟨h1, a1, a2⟩ ⟨h2, b1, b2⟩
  have e23 := h1 23 (by decide)
  have e24 := h1 24 (by decide)
  have e25 := h1 25 (by decide)
  have hself : ∀ {x : Int32}, r = x ∧ s = σ → r' = x ∧ s' = s → r' = r ∧ Rel s' := by
    rintro x ⟨p1, p2⟩ ⟨p3, p4⟩
    rw [p1, p3, p4, p2]
    exact ⟨rfl, hR⟩
  by_cases c : ix from_ 4 = none ∨ ix to_ 4 = none
  · exact hself (a1 c) (b1 c)
  · cases ha : ix from_ 4 with
    | none => exact absurd (Or.inl ha) c
    | some a =>
      cases hb : ix to_ 4 with
      | none => exact absurd (Or.inr hb) c
      | some b =>
        have la := (ix_lt ha (by omega)).1
        have lb := (ix_lt hb (by omega)).1
        obtain ⟨a3, a4⟩ := a2 a b ha hb
        obtain ⟨b3, b4⟩ := b2 a b ha hb
        have ka : s 23 a = shC σ a 24 := by rw [e23, hSh.1 a la 24 (by omega)]; rfl
        have kb : s 23 b = shC σ b 24 := by rw [e23, hSh.1 b lb 24 (by omega)]; rfl
        have za : s 24 a = shC σ a 25 := by rw [e24, hSh.1 a la 25 (by omega)]; rfl
        have zb : s 24 b = shC σ b 25 := by rw [e24, hSh.1 b lb 25 (by omega)]; rfl
        rw [ka, kb] at b3 b4
        rw [za, zb] at b4
        by_cases c1 : shC σ a 24 < 0 ∨ shC σ b 24 < 0
        · exact hself (a3 c1) (b3 c1)
        · obtain ⟨a5, a6⟩ := a4 c1
          obtain ⟨b5, b6⟩ := b4 c1
          by_cases c2 : shC σ a 24 = shC σ b 24
          · obtain ⟨a7, a8⟩ := a6 c2
            obtain ⟨b7, b8⟩ := b6 c2
            by_cases c3 : copyOK (shC σ a 25).toNatClampNeg (shC σ b 25).toNatClampNeg place at_ many
            · obtain ⟨a9, a10⟩ := a8 c3
              obtain ⟨b9, b10⟩ := b8 c3
              obtain ⟨z1, hz1, ez1⟩ := (hSh.2.1 a la).2
              obtain ⟨z2, hz2, ez2⟩ := (hSh.2.1 b lb).2
              rw [ez1, ez2, nI_clamp (by omega), nI_clamp (by omega)] at c3
              obtain ⟨d1, d2, d3, d4, d5⟩ := c3
              obtain ⟨p, hp, rfl⟩ := inOf (v := place) (K := 24) ⟨d1, by omega⟩ (by omega)
              obtain ⟨o, ho, rfl⟩ := inOf (v := at_) (K := 24) ⟨d2, by omega⟩ (by omega)
              obtain ⟨k, hk, rfl⟩ := inOf (v := many) (K := 24) ⟨d3, by omega⟩ (by omega)
              rw [nI_toInt (by omega), nI_toInt (by omega)] at d4 d5
              rw [nI_clamp (by omega), nI_clamp (by omega), nI_clamp (by omega)] at a10 b10
              have f1 : shEq (cpS (shC σ) a b o p k) (shC s) := fun b' hb' j hj => by
                unfold cpS shC
                rw [a10]
                unfold cpA
                by_cases q : b' = b ∧ o ≤ j ∧ j < o + k
                · rw [if_pos q, if_pos (by omega)]
                  exact congrArg _ (by omega)
                · rw [if_neg q, if_neg (by omega)]
              have f2 : shEq (cpS (shR σ) a b o p k) (shR s') := fun b' hb' j hj => by
                unfold cpS shR
                rw [h2 23 (by decide), h2 24 (by decide), b10, e23, e24, e25]
                unfold cpA
                by_cases q : b' = b ∧ o ≤ j ∧ j < o + k
                · rw [if_pos q, if_pos (show p + (j - o) < 24 by omega), if_pos (show j < 24 by omega), if_pos (by omega)]
                  exact congrArg _ (by omega)
                · rw [if_neg q]
                  by_cases q2 : j < 24
                  · rw [if_pos q2, if_pos q2, if_neg (by omega)]
                  · rw [if_neg q2, if_neg q2]
              refine ⟨by rw [a9, b9], hR.sh ⟨?_, ?_, ?_⟩ (fun r hr => ?_)⟩
              · rw [shC_of h2 (by decide)]; exact (f1.sy.tr (cpS_eq la (by omega) (by omega) hSh.1)).tr f2
              · rw [shC_of h2 (by decide)]; exact (cpS_SO (by omega) hSh.2.1).eq f1
              · rw [shC_of h2 (by decide)]; exact (cpS_SP la (by omega) hSh.2.2).eq f1
              · rw [h2 r (fun z => hr (by simp only [List.mem_cons, List.not_mem_nil, or_false] at z ⊢; omega)), h1 r (fun z => hr (by simp only [List.mem_cons, List.not_mem_nil, or_false] at z ⊢; omega))]
            · exact hself (a7 c3) (b7 c3)
          · exact hself (a5 c2) (b5 c2)
theorem Rel.sl {σ s : SG} (h : Rel σ) (h4 : SlR s) (e : ∀ r, r ∉ [8, 26, 27, 28, 29, 30] → s r = σ r) : Rel s := by
  obtain ⟨⟨Ts, nt, ⟨n, m, h1⟩, h2⟩, h3, -, h5, h6⟩ := h
  have e38 := e 38 (by decide)
  have e9 := e 9 (by decide)
  exact ⟨⟨Ts, nt, ⟨n, m, h1.same (e 0 (by decide)) (e 3 (by decide)) (e 20 (by decide))⟩, h2.same (e 1 (by decide)) (e 3 (by decide)) (e 21 (by decide)) (by rw [e9]) (by rw [e38])⟩, h3.same (e 7 (by decide)) (e 23 (by decide)) (e 24 (by decide)) (e 25 (by decide)), h4, h5.same (e 5 (by decide)) (e 32 (by decide)) (by rw [e38]), h6.same e9 (e 36 (by decide)) (by rw [e38])⟩
theorem layC_out {f w g : Nat → Int32} {i q : Nat} {thing k : Int32} (h : q < 64 * i ∨ 64 * i + 64 ≤ q) : layC f w g i thing k q = f q := by
  unfold layC
  by_cases c1 : thing = 1
  · rw [if_pos c1]
    rw [pk_un (by omega), pk_un (by omega), pk_un (by omega), pk_un (by omega), pk_un (by omega), pk_un (by omega)]
  · rw [if_neg c1]
    by_cases c2 : thing = 2
    · rw [if_pos c2]
      unfold cpR
      rw [if_neg (by omega), pk_un (by omega), pk_un (by omega), pk_un (by omega)]
    · rw [if_neg c2]
      by_cases c3 : thing = 3
      · rw [if_pos c3, pk_un (by omega), pk_un (by omega)]
      · rw [if_neg c3, pk_un (by omega)]
theorem p_lay {G : GM} {σ : SG} {slot thing k : Int32} (hR : Rel σ) : Pair G yX7_lay cX7_lay 6 2 yX8_lay cX8_lay 7 2 [.int slot, .int thing, .int k] σ := by
  obtain ⟨⟨Ts, nt, ⟨n, m, hC, hRT, hW, hA, hG, hm⟩, hI⟩, hSh, hSl, hTp, hWt⟩ := id hR
  have h8 := hW.2.1
  have hN20 : σ 20 0 = nI n := by rw [← hA 0 (by omega)]; exact hW.1
  have hW20 : WO (σ 20) n m := hW.ag hA
  have hV : VO (lkV Ts nt) := lkV_VO
  refine Pair.mk (c_X7_lay hSh.2.1 hW.1 h8) (fun r s hp => c_X8_lay (n := n) (by rw [hp.1 20 (by decide)]; exact hN20) h8) ?_
  rintro r s r' s' ⟨h1, a1, a2⟩ ⟨h2, b1, b2⟩
  have hself : ∀ {x : Int32}, r = x ∧ s = σ → r' = x ∧ s' = s → r' = r ∧ Rel s' := by
    rintro x ⟨p1, p2⟩ ⟨p3, p4⟩
    rw [p1, p3, p4, p2]
    exact ⟨rfl, hR⟩
  by_cases c : ix slot 5 = none ∨ ¬ layG n thing k
  · exact hself (a1 c) (b1 c)
  · have c' : layG n thing k := Classical.byContradiction (fun z => c (Or.inr z))
    cases hi : ix slot 5 with
    | none => exact absurd (Or.inl hi) c
    | some i =>
      have li := (ix_lt hi (by omega)).1
      obtain ⟨a3, a4⟩ := a2 i hi c'
      obtain ⟨b3, b4⟩ := b2 i hi c'
      have e20 := h1 20 (by decide)
      have e23 := h1 23 (by decide)
      have e24 := h1 24 (by decide)
      have e25 := h1 25 (by decide)
      have e26 := h1 26 (by decide)
      have e27 := h1 27 (by decide)
      have e28 := h1 28 (by decide)
      have e29 := h1 29 (by decide)
      have e30 := h1 30 (by decide)
      have hk : thing = 2 → k.toNatClampNeg < 4 := by
        intro t2
        rcases c' with q | q | q | q
        · rw [q] at t2; exact absurd t2 (by decide)
        · rw [q] at t2; exact absurd t2 (by decide)
        · rw [q.1] at t2; exact absurd t2 (by decide)
        · obtain ⟨x, hx, ex⟩ := inOf (v := k) (K := 3) q.2 (by omega)
          rw [ex, nI_clamp (by omega)]
          omega
      have hk1 : thing = 1 → k.toNatClampNeg < n := by
        intro t2
        rcases c' with q | q | q | q
        · rw [q] at t2; exact absurd t2 (by decide)
        · rw [q] at t2; exact absurd t2 (by decide)
        · obtain ⟨x, hx, ex⟩ := ix_of (k := k) (n := n) q.2 (by omega)
          rw [ex, nI_clamp (by omega)]
          omega
        · rw [q.1] at t2; exact absurd t2 (by decide)
      have iff1 : (thing = 2 ∧ s 23 k.toNatClampNeg < 0) ↔ (thing = 2 ∧ shC σ k.toNatClampNeg 24 < 0) := by
        constructor
        · rintro ⟨t2, q⟩
          exact ⟨t2, by rw [hSh.1 _ (hk t2) 24 (by omega)]; rw [e23] at q; exact q⟩
        · rintro ⟨t2, q⟩
          exact ⟨t2, by rw [hSh.1 _ (hk t2) 24 (by omega)] at q; rw [e23]; exact q⟩
      by_cases c2 : thing = 2 ∧ shC σ k.toNatClampNeg 24 < 0
      · exact hself (a3 c2) (b3 (iff1.mpr c2))
      · obtain ⟨a5, a6⟩ := a4 c2
        obtain ⟨b5, b6⟩ := b4 (fun z => c2 (iff1.mp z))
        obtain ⟨n26, n27, n28, n29, n30⟩ := b6
        rw [e26] at n26 b5
        rw [e27, e20] at n27
        rw [e28, e20] at n28
        rw [e29, e24] at n29
        rw [e30, e25] at n30
        have n8 : s' 8 = layC (σ 8) (σ 0) (σ 7) i thing k := by rw [h2 8 (by decide), a6, sr_eq]
        refine ⟨by rw [a5, b5, (hSl i li).1], hR.sl (fun j hj => ?_) (fun r hr => ?_)⟩
        · rw [n8, n26, n27, n28]
          by_cases ji : j = i
          · subst ji
            obtain ⟨s1, s2, s3, s4, s5, s6, s7⟩ := hSl j hj
            rw [pk_us, pk_us, pk_us]
            by_cases t1 : thing = 1
            · have hkn := hk1 t1
              have hM := hW.2.2.1 _ hkn
              have t2 : ¬ thing = 2 := by rw [t1]; decide
              rw [n29, n30, if_neg t2, if_neg t2, if_pos t1, if_pos t1]
              unfold layC
              rw [if_pos t1]
              rw [show upd (upd (upd (upd (upd (upd (σ 8) (64 * j) thing) (64 * j + 2) (σ 0 (131 + 5 * k.toNatClampNeg))) (64 * j + 3) (σ 0 (131 + 5 * k.toNatClampNeg + 1))) (64 * j + 4) (σ 0 (131 + 5 * k.toNatClampNeg + 2))) (64 * j + 5) (σ 0 (131 + 5 * k.toNatClampNeg + 3))) (64 * j + 6) (σ 0 (131 + 5 * k.toNatClampNeg + 4)) (64 * j) = thing by rw [pk_un (by omega), pk_un (by omega), pk_un (by omega), pk_un (by omega), pk_un (by omega), pk_us]]
              refine ⟨rfl, fun _ => ⟨?_, ?_⟩, fun z => absurd (t1.symm.trans z) (by decide), fun z => absurd (t1.symm.trans z) (by decide), ?_, ?_, s7⟩
              · rw [pk_un (by omega), pk_un (by omega), pk_un (by omega), pk_un (by omega), pk_us]; exact (hA _ (by omega)).symm
              · rw [pk_un (by omega), pk_un (by omega), pk_un (by omega), pk_un (by omega), pk_us, pk_un (by omega), pk_un (by omega), pk_un (by omega), pk_us, hA _ (by omega), hA _ (by omega)]
              · rw [pk_un (by omega), pk_un (by omega), pk_un (by omega), pk_un (by omega), pk_us]; exact hM.1
              · rw [pk_un (by omega), pk_un (by omega), pk_un (by omega), pk_un (by omega), pk_un (by omega), pk_un (by omega)]; exact s6
            · rw [if_neg t1, if_neg t1]
              unfold layC
              rw [if_neg t1]
              by_cases t2 : thing = 2
              · have hk4 := hk t2
                obtain ⟨z, hz, ez⟩ := (hSh.2.1 _ hk4).2
                rw [n29, n30, if_pos t2, if_pos t2, if_pos t2, pk_us]
                have eo : ∀ x, x < 64 → (x < 10 ∨ 34 ≤ x) → cpR (σ 7) (upd (upd (upd (σ 8) (64 * j) thing) (64 * j + 34) (σ 7 (32 * k.toNatClampNeg + 24))) (64 * j + 35) (σ 7 (32 * k.toNatClampNeg + 25))) (32 * k.toNatClampNeg) (64 * j + 10) 24 (64 * j + x) = upd (upd (upd (σ 8) (64 * j) thing) (64 * j + 34) (σ 7 (32 * k.toNatClampNeg + 24))) (64 * j + 35) (σ 7 (32 * k.toNatClampNeg + 25)) (64 * j + x) := fun x _ hx => by unfold cpR; rw [if_neg (by omega)]
                have e0 := eo 0 (by omega) (by omega)
                rw [pk_un (by omega), pk_un (by omega)] at e0
                rw [show 64 * j + 0 = 64 * j from rfl, pk_us] at e0
                have g25 : σ 24 k.toNatClampNeg = σ 7 (32 * k.toNatClampNeg + 25) := (hSh.1 _ hk4 25 (by omega)).symm
                rw [e0, eo 2 (by omega) (by omega), eo 35 (by omega) (by omega), pk_us, pk_un (by omega), pk_un (by omega), pk_un (by omega)]
                refine ⟨rfl, fun z => absurd (t2.symm.trans z) (by decide), fun _ => ⟨g25, fun p hp => ?_⟩, fun z => absurd (t2.symm.trans z) (by decide), s5, ⟨z, hz, ez⟩, ⟨z, hz, by rw [g25]; exact ez⟩⟩
                unfold cpA cpR
                rw [if_pos (by omega), if_pos (by omega), show 24 * k.toNatClampNeg + (24 * j + p - 24 * j) = 24 * k.toNatClampNeg + p by omega, show 32 * k.toNatClampNeg + (64 * j + 10 + p - (64 * j + 10)) = 32 * k.toNatClampNeg + p by omega]
                have := hSh.1 _ hk4 p (by omega)
                unfold shR shC at this
                rw [if_pos hp] at this
                exact this.symm
              · rw [n29, n30, if_neg t2, if_neg t2, if_neg t2]
                by_cases t3 : thing = 3
                · rw [if_pos t3]
                  rw [show upd (upd (σ 8) (64 * j) thing) (64 * j + 1) k (64 * j) = thing by rw [pk_un (by omega), pk_us]]
                  refine ⟨rfl, fun z => absurd z t1, fun z => absurd z t2, fun _ => by rw [pk_us], by rw [pk_un (by omega), pk_un (by omega)]; exact s5, by rw [pk_un (by omega), pk_un (by omega)]; exact s6, s7⟩
                · rw [if_neg t3, pk_us]
                  exact ⟨rfl, fun z => absurd z t1, fun z => absurd z t2, fun z => absurd z t3, by rw [pk_un (by omega)]; exact s5, by rw [pk_un (by omega)]; exact s6, s7⟩
          · rw [pk_un ji, pk_un ji, pk_un ji, layC_out (by omega), layC_out (by omega), layC_out (by omega), layC_out (by omega), layC_out (by omega)]
            have m29 : s' 29 j = σ 29 j := by
              rw [n29]
              by_cases t2 : thing = 2
              · rw [if_pos t2, pk_un ji]
              · rw [if_neg t2]
            have m30 : ∀ p, p < 24 → s' 30 (24 * j + p) = σ 30 (24 * j + p) := fun p hp => by
              rw [n30]
              by_cases t2 : thing = 2
              · rw [if_pos t2]
                unfold cpA
                rw [if_neg (by omega)]
              · rw [if_neg t2]
            rw [m29]
            obtain ⟨s1, s2, s3, s4, s5, s6, s7⟩ := hSl j hj
            exact ⟨s1, s2, fun z => ⟨(s3 z).1, fun p hp => by rw [m30 p hp, layC_out (by omega)]; exact (s3 z).2 p hp⟩, s4, s5, s6, s7⟩
        · rw [h2 r (fun z => hr (by simp only [List.mem_cons, List.not_mem_nil, or_false] at z ⊢; omega)), h1 r (fun z => hr (by simp only [List.mem_cons, List.not_mem_nil, or_false] at z ⊢; omega))]
