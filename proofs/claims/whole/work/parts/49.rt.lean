/-! the reference: tokens -/
def TPR (σ : SG) (tp : Nat → Int32) (L : Nat) : Prop := L ≤ 96 ∧ σ 38 1 = nI L ∧ (∀ i, i < 96 → σ 32 i = tp i) ∧ ∀ i, i < 96 → ∃ x : Nat, x < 256 ∧ tp i = nI x
def tkR (k : Nat) : Nat := if k = 1 then 3 else if k = 2 then 1 else if k = 3 then 2 else k
theorem tkR_le : ∀ k, k ≤ 4 → tkR k ≤ 4 ∧ (tkR k = 0 ↔ k = 0) ∧ (tkR k = 1 ↔ k = 2) ∧ (tkR k = 2 ↔ k = 3) ∧ (tkR k = 3 ↔ k = 1) := by decide
/-- what a step of the reading leaves of the scalars -/
def FR (σ τ : SG) : Prop := same [38] σ τ ∧ ∀ i, (i < 2 ∨ 7 ≤ i) → τ 38 i = σ 38 i
theorem FR.rf {σ : SG} : FR σ σ := ⟨same.rf, fun _ _ => rfl⟩
theorem FR.su {σ τ : SG} {o : Nat} {v : Int32} (h : FR σ τ) (ho : 2 ≤ o ∧ o < 7) : FR σ (su τ 38 o v) := ⟨h.1.su (by simp), fun i hi => by rw [su_eq, pk_un (by omega)]; exact h.2 i hi⟩
theorem TPR.fr {σ τ : SG} {tp : Nat → Int32} {L : Nat} (h : TPR σ tp L) (f : FR σ τ) : TPR τ tp L := by
  unfold TPR
  rw [f.1 32 (by decide), f.2 1 (by omega)]
  exact h
theorem so_2 {v : Int32} : so v = 2 ↔ (97 ≤ v.toInt ∧ v.toInt ≤ 122) := by
  unfold so
  split
  next h => exact ⟨fun _ => h, fun _ => rfl⟩
  next h => exact ⟨fun z => by split at z <;> exact absurd z (by decide), fun z => absurd z h⟩
theorem so_3 {v : Int32} : so v = 3 ↔ (48 ≤ v.toInt ∧ v.toInt ≤ 57) := by
  unfold so
  split
  next h => exact ⟨fun z => absurd z (by decide), fun z => by omega⟩
  next h =>
    split
    next h2 => exact ⟨fun _ => h2, fun _ => rfl⟩
    next h2 => exact ⟨fun z => absurd z (by decide), fun z => absurd z h2⟩
set_option maxHeartbeats 4000000 in
set_option maxRecDepth 100000 in
theorem c_X8_isLetter {G : GM} {σ : SG} {tp : Nat → Int32} {L p : Nat} (hT : TPR σ tp L) (hp : p < 1000) : CI G yX8_isLetter cX8_isLetter 2 (some .boolean) 1 [rf G 109, .int (nI p)] σ (fun r s => r = bz (p < L ∧ so (tp p) = 2) ∧ s = σ) := by
  refine Con.of cd_X8_isLetter (Nat.le_of_ble_eq_true rfl) ?_
  intro X hX hZ
  have hX : Fx X G RX8 cX8_isLetter 2 1 := hX
  show RR X G 2 0 (ll [(0, rf G 109), (1, .int (nI p))]) [] σ
  have h96 := hT.1
  refine r_iload_n (i := 0) hX dX8_isLetter_0 rfl (RR.pc (b := 1) rfl ?_)
  refine r_aload_n hX dX8_isLetter_1 rfl ⟨_, rfl⟩ (RR.pc (b := 2) rfl ?_)
  refine r_geti hX dX8_isLetter_2 fl_X8_184 (by first | rfl | assumption) rfl (RR.pc (b := 5) rfl ?_)
  rw [hT.2.1]
  refine r_icmp_ge (tgt := 31) hX dX8_isLetter_5 rfl (fun h5 => ?_) (fun h5 => RR.pc (b := 8) rfl ?_)
  · refine r_iconst (v := 0) hX dX8_isLetter_31 (by decide) (RR.pc (b := 32) rfl ?_)
    exact r_zret hX hZ dX8_isLetter_32 (by first | rfl | exact nar_bz _) ⟨_, rfl, ⟨by first | exact (bz_t ⟨hpL, so_2.mpr h24⟩).symm | exact (bz_f (fun z => h24 (so_2.mp z.2))).symm | exact (bz_f (fun z => by rw [nI_leI (by omega) (by omega)] at h5; omega)).symm, rfl⟩⟩
  · have hpL : p < L := by rw [nI_leI (by omega) (by omega)] at h5; omega
    refine r_aload_n hX dX8_isLetter_8 rfl ⟨_, rfl⟩ (RR.pc (b := 9) rfl ?_)
    refine r_getr hX dX8_isLetter_9 fl_X8_46 (by first | rfl | assumption) rfl (RR.pc (b := 12) rfl ?_)
    refine r_iload_n (i := 0) hX dX8_isLetter_12 rfl (RR.pc (b := 13) rfl ?_)
    refine r_iald hX dX8_isLetter_13 (by first | rfl | assumption) rfl (by omega) (by first | decide | omega) (by first | exact Nat.zero_add _ | rfl) (RR.pc (b := 14) rfl ?_)
    rw [hT.2.2.1 p (by omega)]
    refine r_i2l hX dX8_isLetter_14 (RR.pc (b := 15) rfl ?_)
    refine r_ldc2 hX dX8_isLetter_15 k2_X8_188 (RR.pc (b := 18) rfl ?_)
    refine r_ldc2 hX dX8_isLetter_18 k2_X8_190 (RR.pc (b := 21) rfl ?_)
    refine r_callSie hX dX8_isLetter_21 ml_X8_65 cd_X8_isIn st_X8_isIn c_X8_isIn (by decide) rfl rfl (Nat.le_of_ble_eq_true rfl) (RR.pc (b := 24) rfl ?_)
    refine r_if_eq_b (tgt := 31) hX dX8_isLetter_24 rfl (fun h24 => ?_) (fun h24 => RR.pc (b := 27) rfl ?_)
    · simp only [Int32.toInt_toInt64, Int64.reduceToInt] at h24
      refine r_iconst (v := 0) hX dX8_isLetter_31 (by decide) (RR.pc (b := 32) rfl ?_)
      exact r_zret hX hZ dX8_isLetter_32 (by first | rfl | exact nar_bz _) ⟨_, rfl, ⟨by first | exact (bz_t ⟨hpL, so_2.mpr h24⟩).symm | exact (bz_f (fun z => h24 (so_2.mp z.2))).symm | exact (bz_f (fun z => by rw [nI_leI (by omega) (by omega)] at h5; omega)).symm, rfl⟩⟩
    · simp only [Int32.toInt_toInt64, Int64.reduceToInt] at h24
      refine r_iconst (v := 1) hX dX8_isLetter_27 (by decide) (RR.pc (b := 28) rfl ?_)
      refine r_goto (tgt := 32) hX dX8_isLetter_28 rfl ?_
      exact r_zret hX hZ dX8_isLetter_32 (by first | rfl | exact nar_bz _) ⟨_, rfl, ⟨by first | exact (bz_t ⟨hpL, so_2.mpr h24⟩).symm | exact (bz_f (fun z => h24 (so_2.mp z.2))).symm | exact (bz_f (fun z => by rw [nI_leI (by omega) (by omega)] at h5; omega)).symm, rfl⟩⟩
set_option maxHeartbeats 4000000 in
set_option maxRecDepth 100000 in
theorem c_X8_isDigit {G : GM} {σ : SG} {tp : Nat → Int32} {L p : Nat} (hT : TPR σ tp L) (hp : p < 1000) : CI G yX8_isDigit cX8_isDigit 2 (some .boolean) 1 [rf G 109, .int (nI p)] σ (fun r s => r = bz (p < L ∧ so (tp p) = 3) ∧ s = σ) := by
  refine Con.of cd_X8_isDigit (Nat.le_of_ble_eq_true rfl) ?_
  intro X hX hZ
  have hX : Fx X G RX8 cX8_isDigit 2 1 := hX
  show RR X G 2 0 (ll [(0, rf G 109), (1, .int (nI p))]) [] σ
  have h96 := hT.1
  refine r_iload_n (i := 0) hX dX8_isDigit_0 rfl (RR.pc (b := 1) rfl ?_)
  refine r_aload_n hX dX8_isDigit_1 rfl ⟨_, rfl⟩ (RR.pc (b := 2) rfl ?_)
  refine r_geti hX dX8_isDigit_2 fl_X8_184 (by first | rfl | assumption) rfl (RR.pc (b := 5) rfl ?_)
  rw [hT.2.1]
  refine r_icmp_ge (tgt := 31) hX dX8_isDigit_5 rfl (fun h5 => ?_) (fun h5 => RR.pc (b := 8) rfl ?_)
  · refine r_iconst (v := 0) hX dX8_isDigit_31 (by decide) (RR.pc (b := 32) rfl ?_)
    exact r_zret hX hZ dX8_isDigit_32 (by first | rfl | exact nar_bz _) ⟨_, rfl, ⟨by first | exact (bz_t ⟨hpL, so_3.mpr h24⟩).symm | exact (bz_f (fun z => h24 (so_3.mp z.2))).symm | exact (bz_f (fun z => by rw [nI_leI (by omega) (by omega)] at h5; omega)).symm, rfl⟩⟩
  · have hpL : p < L := by rw [nI_leI (by omega) (by omega)] at h5; omega
    refine r_aload_n hX dX8_isDigit_8 rfl ⟨_, rfl⟩ (RR.pc (b := 9) rfl ?_)
    refine r_getr hX dX8_isDigit_9 fl_X8_46 (by first | rfl | assumption) rfl (RR.pc (b := 12) rfl ?_)
    refine r_iload_n (i := 0) hX dX8_isDigit_12 rfl (RR.pc (b := 13) rfl ?_)
    refine r_iald hX dX8_isDigit_13 (by first | rfl | assumption) rfl (by omega) (by first | decide | omega) (by first | exact Nat.zero_add _ | rfl) (RR.pc (b := 14) rfl ?_)
    rw [hT.2.2.1 p (by omega)]
    refine r_i2l hX dX8_isDigit_14 (RR.pc (b := 15) rfl ?_)
    refine r_ldc2 hX dX8_isDigit_15 k2_X8_192 (RR.pc (b := 18) rfl ?_)
    refine r_ldc2 hX dX8_isDigit_18 k2_X8_194 (RR.pc (b := 21) rfl ?_)
    refine r_callSie hX dX8_isDigit_21 ml_X8_65 cd_X8_isIn st_X8_isIn c_X8_isIn (by decide) rfl rfl (Nat.le_of_ble_eq_true rfl) (RR.pc (b := 24) rfl ?_)
    refine r_if_eq_b (tgt := 31) hX dX8_isDigit_24 rfl (fun h24 => ?_) (fun h24 => RR.pc (b := 27) rfl ?_)
    · simp only [Int32.toInt_toInt64, Int64.reduceToInt] at h24
      refine r_iconst (v := 0) hX dX8_isDigit_31 (by decide) (RR.pc (b := 32) rfl ?_)
      exact r_zret hX hZ dX8_isDigit_32 (by first | rfl | exact nar_bz _) ⟨_, rfl, ⟨by first | exact (bz_t ⟨hpL, so_3.mpr h24⟩).symm | exact (bz_f (fun z => h24 (so_3.mp z.2))).symm | exact (bz_f (fun z => by rw [nI_leI (by omega) (by omega)] at h5; omega)).symm, rfl⟩⟩
    · simp only [Int32.toInt_toInt64, Int64.reduceToInt] at h24
      refine r_iconst (v := 1) hX dX8_isDigit_27 (by decide) (RR.pc (b := 28) rfl ?_)
      refine r_goto (tgt := 32) hX dX8_isDigit_28 rfl ?_
      exact r_zret hX hZ dX8_isDigit_32 (by first | rfl | exact nar_bz _) ⟨_, rfl, ⟨by first | exact (bz_t ⟨hpL, so_3.mpr h24⟩).symm | exact (bz_f (fun z => h24 (so_3.mp z.2))).symm | exact (bz_f (fun z => by rw [nI_leI (by omega) (by omega)] at h5; omega)).symm, rfl⟩⟩
/-- the reference's token -/
def RK (σ : SG) (tp : Nat → Int32) (k b e : Nat) : Prop := σ 38 2 = nI b ∧ σ 38 3 = nI e ∧ σ 38 4 = nI (tkR k) ∧ (k = 1 → σ 38 6 = tp b) ∧ (k = 2 → σ 38 6 = if e - b = 1 then tp b else 0) ∧ (k = 3 → σ 38 5 = numF tp b (e - b))
set_option maxHeartbeats 4000000 in
set_option maxRecDepth 100000 in
theorem c_X8_nextToken {G : GM} {σ : SG} {tp : Nat → Int32} {L k e : Nat} (hT : TPR σ tp L) (h1 : σ 38 3 = nI e) (h2 : σ 38 4 = nI (tkR k)) (he : e ≤ L) (hk4 : k ≤ 4) (he0 : k = 2 ∨ k = 3 → 0 < e) : CU G yX8_nextToken cX8_nextToken 3 none 2 [rf G 109] σ (fun s => RK s tp (tkK tp L k e (tkB tp L e)) (tkB tp L e) (tkE tp L (tkB tp L e)) ∧ FR σ s) := by
  refine Con.of cd_X8_nextToken (Nat.le_of_ble_eq_true rfl) ?_
  intro X hX hZ
  have hX : Fx X G RX8 cX8_nextToken 3 2 := hX
  show RR X G 3 0 (ll [(0, rf G 109)]) [] σ
  have h96 := hT.1
  obtain ⟨hb1, hb2⟩ := tkB_ge (tp := tp) he
  obtain ⟨q0, q1, q2, q3, q4⟩ := tkR_le k hk4
  generalize hb : tkB tp L e = b at hb1 hb2 hZ
  have t28 : ∀ w : Int32, (w = 0 ∧ ¬ (k = 2 ∨ k = 3)) ∨ (w = 1 ∧ (k = 2 ∨ k = 3)) → RR X G 3 28 (ll [(0, rf G 109)]) [.int w] σ := by
    intro w hw
    have t89 : ∀ (τ : SG) (w2 : Int32), (w2 = 0 ∧ ¬ ((k = 2 ∨ k = 3) ∧ b = e)) ∨ (w2 = 1 ∧ ((k = 2 ∨ k = 3) ∧ b = e)) → τ 38 3 = nI b → FR σ τ → RR X G 3 89 (ll [(0, rf G 109)]) [.int w2] τ := by
      intro τ w2 hw2 r3 hs
      have hTt := hT.fr hs
      refine r_istore_n hX dX8_nextToken_89 (by decide) (RR.pc (b := 90) rfl ?_)
      refine r_aload_n hX dX8_nextToken_90 rfl ⟨_, rfl⟩ (RR.pc (b := 91) rfl ?_)
      refine r_aload_n hX dX8_nextToken_91 rfl ⟨_, rfl⟩ (RR.pc (b := 92) rfl ?_)
      refine r_geti hX dX8_nextToken_92 fl_X8_196 (by first | rfl | assumption) rfl (RR.pc (b := 95) rfl ?_)
      rw [r3]
      refine r_puti hX dX8_nextToken_95 fl_X8_202 (by first | rfl | assumption) rfl ft_8_15 (RR.pc (b := 98) rfl ?_)
      refine r_aload_n hX dX8_nextToken_98 rfl ⟨_, rfl⟩ (RR.pc (b := 99) rfl ?_)
      refine r_geti hX dX8_nextToken_99 fl_X8_202 (by first | rfl | assumption) rfl (RR.pc (b := 102) rfl ?_)
      rw [su_eq, pk_us]
      refine r_aload_n hX dX8_nextToken_102 rfl ⟨_, rfl⟩ (RR.pc (b := 103) rfl ?_)
      refine r_geti hX dX8_nextToken_103 fl_X8_184 (by first | rfl | assumption) rfl (RR.pc (b := 106) rfl ?_)
      rw [su_eq, pk_un (show (1 : Nat) ≠ 2 by decide), hTt.2.1]
      have hs1 : FR σ (su τ 38 2 (nI b)) := hs.su (by omega)
      have hT1 := hT.fr hs1
      have s2 : (su τ 38 2 (nI b)) 38 2 = nI b := by rw [su_eq, pk_us]
      have s3 : (su τ 38 2 (nI b)) 38 3 = nI b := by rw [su_eq, pk_un (by decide)]; exact r3
      generalize su τ 38 2 (nI b) = τ1 at hs1 hT1 s2 s3
      refine r_icmp_ne (tgt := 117) hX dX8_nextToken_106 rfl (fun h106 => ?_) (fun h106 => RR.pc (b := 109) rfl ?_)
      · have hbL : b < L := by
          have : ¬ b = L := fun z => h106 (by rw [z])
          omega
        have sv := so_123 (tp b)
        refine r_aload_n hX dX8_nextToken_117 rfl ⟨_, rfl⟩ (RR.pc (b := 118) rfl ?_)
        refine r_aload_n hX dX8_nextToken_118 rfl ⟨_, rfl⟩ (RR.pc (b := 119) rfl ?_)
        refine r_geti hX dX8_nextToken_119 fl_X8_202 (by first | rfl | assumption) rfl (RR.pc (b := 122) rfl ?_)
        rw [s2]
        refine r_callVie hX dX8_nextToken_122 ml_X8_205 cd_X8_isLetter iv_X8_isLetter (c_X8_isLetter (p := b) hT1 (by omega)) (by decide) (by first | rfl | assumption) rfl rfl rfl rfl (Nat.le_of_ble_eq_true rfl) (RR.pc (b := 125) rfl ?_)
        by_cases c2 : so (tp b) = 2
        · have eE : tkE tp L b = rn tp (like (tp b)) L (b + 1) := by unfold tkE; rw [if_pos hbL, if_neg (by omega)]
          have eK : tkK tp L k e b = if ((k = 2 ∨ k = 3) ∧ b = e) then 4 else 2 := by
            unfold tkK
            rw [if_pos hbL, if_neg (by omega), c2]
            by_cases z : (k = 2 ∨ k = 3) ∧ b = e
            · rw [if_pos (Or.inl z), if_pos z]
            · rw [if_neg (fun y => y.elim z (fun u => absurd u.1 (by decide))), if_neg z]
          obtain ⟨g1, g2, -⟩ := rn_ge (tp := tp) (P := like (tp b)) (L := L) (p := b + 1)
          rw [← eE] at g1 g2
          have g3 := g2 (by omega)
          refine r_if_eq_b (tgt := 198) hX dX8_nextToken_125 rfl (fun h => absurd ⟨hbL, c2⟩ h) (fun _ => RR.pc (b := 128) rfl ?_)
          have t152 : ∀ τ : SG, τ 38 2 = nI b → τ 38 3 = nI (tkE tp L b) → FR σ τ → RR X G 3 152 (ll [(0, rf G 109), (1, .int w2)]) [] τ := by
            intro τ r2 r3 hs
            have hTt := hT.fr hs
            have fin : ∀ (a c : Int32), a = nI (tkR (tkK tp L k e b)) → c = (if tkE tp L b - b = 1 then tp b else 0) → RK (su (su τ 38 4 a) 38 6 c) tp (tkK tp L k e b) b (tkE tp L b) ∧ FR σ (su (su τ 38 4 a) 38 6 c) := by
              intro a c ha hc
              subst ha
              subst hc
              refine ⟨⟨by rw [su_eq, su_eq, pk_un (by decide), pk_un (by decide)]; exact r2, by rw [su_eq, su_eq, pk_un (by decide), pk_un (by decide)]; exact r3, by rw [su_eq, su_eq, pk_un (by decide), pk_us], fun z => ?_, fun _ => by rw [su_eq, pk_us], fun z => ?_⟩, (hs.su (by omega)).su (by omega)⟩
              · rw [eK] at z; split at z <;> exact absurd z (by decide)
              · rw [eK] at z; split at z <;> exact absurd z (by decide)
            refine r_aload_n hX dX8_nextToken_152 rfl ⟨_, rfl⟩ (RR.pc (b := 153) rfl ?_)
            refine r_iload_n (i := 0) hX dX8_nextToken_153 rfl (RR.pc (b := 154) rfl ?_)
            refine r_if_eq (tgt := 161) hX dX8_nextToken_154 rfl (fun h154 => ?_) (fun h154 => RR.pc (b := 157) rfl ?_)
            · refine r_iconst (v := 1) hX dX8_nextToken_161 (by decide) (RR.pc (b := 162) rfl ?_)
              refine r_puti hX dX8_nextToken_162 fl_X8_199 (by first | rfl | assumption) rfl ft_8_17 (RR.pc (b := 165) rfl ?_)
              refine r_aload_n hX dX8_nextToken_165 rfl ⟨_, rfl⟩ (RR.pc (b := 166) rfl ?_)
              refine r_aload_n hX dX8_nextToken_166 rfl ⟨_, rfl⟩ (RR.pc (b := 167) rfl ?_)
              refine r_geti hX dX8_nextToken_167 fl_X8_196 (by first | rfl | assumption) rfl (RR.pc (b := 170) rfl ?_)
              rw [su_eq, pk_un (by decide), r3]
              refine r_aload_n hX dX8_nextToken_170 rfl ⟨_, rfl⟩ (RR.pc (b := 171) rfl ?_)
              refine r_geti hX dX8_nextToken_171 fl_X8_202 (by first | rfl | assumption) rfl (RR.pc (b := 174) rfl ?_)
              rw [su_eq, pk_un (by decide), r2]
              refine r_isub hX dX8_nextToken_174 (RR.pc (b := 175) rfl ?_)
              rw [pk_sub (by omega)]
              refine r_iconst (v := 1) hX dX8_nextToken_175 (by decide) (RR.pc (b := 176) rfl ?_)
              refine r_icmp_ne (tgt := 191) hX dX8_nextToken_176 rfl (fun h176 => ?_) (fun h176 => RR.pc (b := 179) rfl ?_)
              · refine r_iconst (v := 0) hX dX8_nextToken_191 (by decide) (RR.pc (b := 192) rfl ?_)
                refine r_puti hX dX8_nextToken_192 fl_X8_208 (by first | rfl | assumption) rfl ft_8_19 (RR.pc (b := 195) rfl ?_)
                refine r_goto (tgt := 339) hX dX8_nextToken_195 rfl ?_
                exact r_vret hX hZ dX8_nextToken_339 ⟨rfl, (by have ew : w2 = 0 ↔ ¬ ((k = 2 ∨ k = 3) ∧ b = e) := ⟨fun z => hw2.elim (fun y => y.2) (fun y => absurd (y.1.symm.trans z) (by decide)), fun z => hw2.elim (fun y => y.1) (fun y => absurd y.2 z)⟩; refine fin _ _ ?_ ?_; (rw [eK]; first | (rw [if_neg (ew.mp h154)]; rfl) | (rw [if_pos (Decidable.not_not.mp (fun y => h154 (ew.mpr y)))]; rfl)); (first | (rw [if_neg (fun z => h176 (by rw [z]; rfl))]) | (rw [if_pos ((nI_eq (b := 1) (by omega) (by omega)).mp h176)])))⟩
              · refine r_aload_n hX dX8_nextToken_179 rfl ⟨_, rfl⟩ (RR.pc (b := 180) rfl ?_)
                refine r_getr hX dX8_nextToken_180 fl_X8_46 (by first | rfl | assumption) rfl (RR.pc (b := 183) rfl ?_)
                refine r_aload_n hX dX8_nextToken_183 rfl ⟨_, rfl⟩ (RR.pc (b := 184) rfl ?_)
                refine r_geti hX dX8_nextToken_184 fl_X8_202 (by first | rfl | assumption) rfl (RR.pc (b := 187) rfl ?_)
                rw [su_eq, pk_un (by decide), r2]
                refine r_iald hX dX8_nextToken_187 (by first | rfl | assumption) rfl (by omega) (by first | decide | omega) (by first | exact Nat.zero_add _ | rfl) (RR.pc (b := 188) rfl ?_)
                rw [su_ne (by decide), hTt.2.2.1 b (by omega)]
                refine r_goto (tgt := 192) hX dX8_nextToken_188 rfl ?_
                refine r_puti hX dX8_nextToken_192 fl_X8_208 (by first | rfl | assumption) rfl ft_8_19 (RR.pc (b := 195) rfl ?_)
                refine r_goto (tgt := 339) hX dX8_nextToken_195 rfl ?_
                exact r_vret hX hZ dX8_nextToken_339 ⟨rfl, (by have ew : w2 = 0 ↔ ¬ ((k = 2 ∨ k = 3) ∧ b = e) := ⟨fun z => hw2.elim (fun y => y.2) (fun y => absurd (y.1.symm.trans z) (by decide)), fun z => hw2.elim (fun y => y.1) (fun y => absurd y.2 z)⟩; refine fin _ _ ?_ ?_; (rw [eK]; first | (rw [if_neg (ew.mp h154)]; rfl) | (rw [if_pos (Decidable.not_not.mp (fun y => h154 (ew.mpr y)))]; rfl)); (first | (rw [if_neg (fun z => h176 (by rw [z]; rfl))]) | (rw [if_pos ((nI_eq (b := 1) (by omega) (by omega)).mp h176)])))⟩
            · refine r_iconst (v := 4) hX dX8_nextToken_157 (by decide) (RR.pc (b := 158) rfl ?_)
              refine r_goto (tgt := 162) hX dX8_nextToken_158 rfl ?_
              refine r_puti hX dX8_nextToken_162 fl_X8_199 (by first | rfl | assumption) rfl ft_8_17 (RR.pc (b := 165) rfl ?_)
              refine r_aload_n hX dX8_nextToken_165 rfl ⟨_, rfl⟩ (RR.pc (b := 166) rfl ?_)
              refine r_aload_n hX dX8_nextToken_166 rfl ⟨_, rfl⟩ (RR.pc (b := 167) rfl ?_)
              refine r_geti hX dX8_nextToken_167 fl_X8_196 (by first | rfl | assumption) rfl (RR.pc (b := 170) rfl ?_)
              rw [su_eq, pk_un (by decide), r3]
              refine r_aload_n hX dX8_nextToken_170 rfl ⟨_, rfl⟩ (RR.pc (b := 171) rfl ?_)
              refine r_geti hX dX8_nextToken_171 fl_X8_202 (by first | rfl | assumption) rfl (RR.pc (b := 174) rfl ?_)
              rw [su_eq, pk_un (by decide), r2]
              refine r_isub hX dX8_nextToken_174 (RR.pc (b := 175) rfl ?_)
              rw [pk_sub (by omega)]
              refine r_iconst (v := 1) hX dX8_nextToken_175 (by decide) (RR.pc (b := 176) rfl ?_)
              refine r_icmp_ne (tgt := 191) hX dX8_nextToken_176 rfl (fun h176 => ?_) (fun h176 => RR.pc (b := 179) rfl ?_)
              · refine r_iconst (v := 0) hX dX8_nextToken_191 (by decide) (RR.pc (b := 192) rfl ?_)
                refine r_puti hX dX8_nextToken_192 fl_X8_208 (by first | rfl | assumption) rfl ft_8_19 (RR.pc (b := 195) rfl ?_)
                refine r_goto (tgt := 339) hX dX8_nextToken_195 rfl ?_
                exact r_vret hX hZ dX8_nextToken_339 ⟨rfl, (by have ew : w2 = 0 ↔ ¬ ((k = 2 ∨ k = 3) ∧ b = e) := ⟨fun z => hw2.elim (fun y => y.2) (fun y => absurd (y.1.symm.trans z) (by decide)), fun z => hw2.elim (fun y => y.1) (fun y => absurd y.2 z)⟩; refine fin _ _ ?_ ?_; (rw [eK]; first | (rw [if_neg (ew.mp h154)]; rfl) | (rw [if_pos (Decidable.not_not.mp (fun y => h154 (ew.mpr y)))]; rfl)); (first | (rw [if_neg (fun z => h176 (by rw [z]; rfl))]) | (rw [if_pos ((nI_eq (b := 1) (by omega) (by omega)).mp h176)])))⟩
              · refine r_aload_n hX dX8_nextToken_179 rfl ⟨_, rfl⟩ (RR.pc (b := 180) rfl ?_)
                refine r_getr hX dX8_nextToken_180 fl_X8_46 (by first | rfl | assumption) rfl (RR.pc (b := 183) rfl ?_)
                refine r_aload_n hX dX8_nextToken_183 rfl ⟨_, rfl⟩ (RR.pc (b := 184) rfl ?_)
                refine r_geti hX dX8_nextToken_184 fl_X8_202 (by first | rfl | assumption) rfl (RR.pc (b := 187) rfl ?_)
                rw [su_eq, pk_un (by decide), r2]
                refine r_iald hX dX8_nextToken_187 (by first | rfl | assumption) rfl (by omega) (by first | decide | omega) (by first | exact Nat.zero_add _ | rfl) (RR.pc (b := 188) rfl ?_)
                rw [su_ne (by decide), hTt.2.2.1 b (by omega)]
                refine r_goto (tgt := 192) hX dX8_nextToken_188 rfl ?_
                refine r_puti hX dX8_nextToken_192 fl_X8_208 (by first | rfl | assumption) rfl ft_8_19 (RR.pc (b := 195) rfl ?_)
                refine r_goto (tgt := 339) hX dX8_nextToken_195 rfl ?_
                exact r_vret hX hZ dX8_nextToken_339 ⟨rfl, (by have ew : w2 = 0 ↔ ¬ ((k = 2 ∨ k = 3) ∧ b = e) := ⟨fun z => hw2.elim (fun y => y.2) (fun y => absurd (y.1.symm.trans z) (by decide)), fun z => hw2.elim (fun y => y.1) (fun y => absurd y.2 z)⟩; refine fin _ _ ?_ ?_; (rw [eK]; first | (rw [if_neg (ew.mp h154)]; rfl) | (rw [if_pos (Decidable.not_not.mp (fun y => h154 (ew.mpr y)))]; rfl)); (first | (rw [if_neg (fun z => h176 (by rw [z]; rfl))]) | (rw [if_pos ((nI_eq (b := 1) (by omega) (by omega)).mp h176)])))⟩
          have loop := loopK L (fun p => b ≤ p → tkE tp L b = rn tp (like (tp b)) L p → ∀ τ : SG, τ 38 2 = nI b → τ 38 3 = nI p → FR σ τ → RR X G 3 128 (ll [(0, rf G 109), (1, .int w2)]) [] τ) (by
            intro p hp ih hbp hE τ r2 r3 hs
            have hTt := hT.fr hs
            refine r_aload_n hX dX8_nextToken_128 rfl ⟨_, rfl⟩ (RR.pc (b := 129) rfl ?_)
            refine r_aload_n hX dX8_nextToken_129 rfl ⟨_, rfl⟩ (RR.pc (b := 130) rfl ?_)
            refine r_geti hX dX8_nextToken_130 fl_X8_196 (by first | rfl | assumption) rfl (RR.pc (b := 133) rfl ?_)
            rw [r3]
            refine r_callVie hX dX8_nextToken_133 ml_X8_205 cd_X8_isLetter iv_X8_isLetter (c_X8_isLetter (p := p) hTt (by omega)) (by decide) (by first | rfl | assumption) rfl rfl rfl rfl (Nat.le_of_ble_eq_true rfl) (RR.pc (b := 136) rfl ?_)
            refine r_if_eq_b (tgt := 152) hX dX8_nextToken_136 rfl (fun h136 => ?_) (fun h136 => RR.pc (b := 139) rfl ?_)
            · rw [rn_no (fun z => h136 ⟨z.1, by have := z.2; unfold like at this; rw [of_decide_eq_true this]; exact c2⟩)] at hE
              exact RR.cut (t152 τ r2 (by rw [hE]; exact r3) hs) (List.forall_mem_cons.mpr ⟨rfl, List.forall_mem_cons.mpr ⟨rfl, fun _ h => absurd h List.not_mem_nil⟩⟩)
            · rw [rn_go h136.1 (by unfold like; exact decide_eq_true (by rw [h136.2, c2]))] at hE
              refine r_aload_n hX dX8_nextToken_139 rfl ⟨_, rfl⟩ (RR.pc (b := 140) rfl ?_)
              refine r_dup hX dX8_nextToken_140 rfl (RR.pc (b := 141) rfl ?_)
              refine r_geti hX dX8_nextToken_141 fl_X8_196 (by first | rfl | assumption) rfl (RR.pc (b := 144) rfl ?_)
              rw [r3]
              refine r_iconst (v := 1) hX dX8_nextToken_144 (by decide) (RR.pc (b := 145) rfl ?_)
              refine r_iadd hX dX8_nextToken_145 (RR.pc (b := 146) rfl ?_)
              rw [nI_1]
              refine r_puti hX dX8_nextToken_146 fl_X8_196 (by first | rfl | assumption) rfl ft_8_16 (RR.pc (b := 149) rfl ?_)
              refine r_goto (tgt := 128) hX dX8_nextToken_149 rfl ?_
              exact RR.cut (ih h136.1 (by omega) hE _ (by rw [su_eq, pk_un (by decide)]; exact r2) (by rw [su_eq, pk_us]) (hs.su (by omega))) (List.forall_mem_cons.mpr ⟨rfl, List.forall_mem_cons.mpr ⟨rfl, fun _ h => absurd h List.not_mem_nil⟩⟩)
            )
          exact RR.cut (loop b hb2 (Nat.le_refl _) (by rw [eE, rn_go (p := b) hbL (by unfold like; exact decide_eq_true rfl)]) _ s2 s3 hs1) (List.forall_mem_cons.mpr ⟨rfl, List.forall_mem_cons.mpr ⟨rfl, fun _ h => absurd h List.not_mem_nil⟩⟩)
        · refine r_if_eq_b (tgt := 198) hX dX8_nextToken_125 rfl (fun _ => ?_) (fun h => absurd h.2 c2)
          refine r_aload_n hX dX8_nextToken_198 rfl ⟨_, rfl⟩ (RR.pc (b := 199) rfl ?_)
          refine r_aload_n hX dX8_nextToken_199 rfl ⟨_, rfl⟩ (RR.pc (b := 200) rfl ?_)
          refine r_geti hX dX8_nextToken_200 fl_X8_202 (by first | rfl | assumption) rfl (RR.pc (b := 203) rfl ?_)
          rw [s2]
          refine r_callVie hX dX8_nextToken_203 ml_X8_211 cd_X8_isDigit iv_X8_isDigit (c_X8_isDigit (p := b) hT1 (by omega)) (by decide) (by first | rfl | assumption) rfl rfl rfl rfl (Nat.le_of_ble_eq_true rfl) (RR.pc (b := 206) rfl ?_)
          by_cases c3 : so (tp b) = 3
          · have eE : tkE tp L b = rn tp (like (tp b)) L (b + 1) := by unfold tkE; rw [if_pos hbL, if_neg (by omega)]
            have eK : tkK tp L k e b = if ((k = 2 ∨ k = 3) ∧ b = e) ∨ 4 < tkE tp L b - b then 4 else 3 := by
              unfold tkK
              rw [if_pos hbL, if_neg (by omega), c3]
              by_cases z : ((k = 2 ∨ k = 3) ∧ b = e) ∨ 4 < tkE tp L b - b
              · rw [if_pos (z.elim Or.inl (fun y => Or.inr ⟨rfl, y⟩)), if_pos z]
              · rw [if_neg (fun y => z (y.elim Or.inl (fun u => Or.inr u.2))), if_neg z]
            obtain ⟨g1, g2, -⟩ := rn_ge (tp := tp) (P := like (tp b)) (L := L) (p := b + 1)
            rw [← eE] at g1 g2
            have g3 := g2 (by omega)
            refine r_if_eq_b (tgt := 311) hX dX8_nextToken_206 rfl (fun h => absurd ⟨hbL, c3⟩ h) (fun _ => RR.pc (b := 209) rfl ?_)
            have t282 : ∀ τ : SG, τ 38 2 = nI b → τ 38 3 = nI (tkE tp L b) → τ 38 5 = numF tp b (min 4 (tkE tp L b - b)) → FR σ τ → RR X G 3 282 (ll [(0, rf G 109), (1, .int w2)]) [] τ := by
              intro τ r2 r3 r5 hs
              have fin : ∀ a : Int32, a = nI (tkR (tkK tp L k e b)) → RK (su τ 38 4 a) tp (tkK tp L k e b) b (tkE tp L b) ∧ FR σ (su τ 38 4 a) := by
                intro a ha
                subst ha
                refine ⟨⟨by rw [su_eq, pk_un (by decide)]; exact r2, by rw [su_eq, pk_un (by decide)]; exact r3, by rw [su_eq, pk_us], fun z => ?_, fun z => ?_, fun z => ?_⟩, hs.su (by omega)⟩
                · rw [eK] at z; split at z <;> exact absurd z (by decide)
                · rw [eK] at z; split at z <;> exact absurd z (by decide)
                · rw [eK] at z
                  split at z
                  · exact absurd z (by decide)
                  next y =>
                    rw [su_eq, pk_un (by decide), r5, show min 4 (tkE tp L b - b) = tkE tp L b - b from by
                      have : ¬ 4 < tkE tp L b - b := fun u => y (Or.inr u)
                      omega]
              refine r_aload_n hX dX8_nextToken_282 rfl ⟨_, rfl⟩ (RR.pc (b := 283) rfl ?_)
              refine r_iload_n (i := 0) hX dX8_nextToken_283 rfl (RR.pc (b := 284) rfl ?_)
              refine r_if_ne (tgt := 300) hX dX8_nextToken_284 rfl (fun h284 => ?_) (fun h284 => RR.pc (b := 287) rfl ?_)
              · refine r_iconst (v := 4) hX dX8_nextToken_300 (by decide) (RR.pc (b := 301) rfl ?_)
                refine r_goto (tgt := 305) hX dX8_nextToken_301 rfl ?_
                refine r_puti hX dX8_nextToken_305 fl_X8_199 (by first | rfl | assumption) rfl ft_8_17 (RR.pc (b := 308) rfl ?_)
                refine r_goto (tgt := 339) hX dX8_nextToken_308 rfl ?_
                exact r_vret hX hZ dX8_nextToken_339 ⟨rfl, (by have ew : w2 = 0 ↔ ¬ ((k = 2 ∨ k = 3) ∧ b = e) := ⟨fun z => hw2.elim (fun y => y.2) (fun y => absurd (y.1.symm.trans z) (by decide)), fun z => hw2.elim (fun y => y.1) (fun y => absurd y.2 z)⟩; refine fin _ ?_; rw [eK]; first | (rw [if_pos (Or.inl (Decidable.not_not.mp (fun y => h284 (ew.mpr y))))]; rfl) | (rw [show (4 : Int32) = nI 4 from rfl, nI_leI (by omega) (by omega)] at h297; first | (rw [if_pos (Or.inr (by omega))]; rfl) | (rw [if_neg (fun z => z.elim (ew.mp h284) (fun y => by omega))]; rfl)))⟩
              · refine r_aload_n hX dX8_nextToken_287 rfl ⟨_, rfl⟩ (RR.pc (b := 288) rfl ?_)
                refine r_geti hX dX8_nextToken_288 fl_X8_196 (by first | rfl | assumption) rfl (RR.pc (b := 291) rfl ?_)
                rw [r3]
                refine r_aload_n hX dX8_nextToken_291 rfl ⟨_, rfl⟩ (RR.pc (b := 292) rfl ?_)
                refine r_geti hX dX8_nextToken_292 fl_X8_202 (by first | rfl | assumption) rfl (RR.pc (b := 295) rfl ?_)
                rw [r2]
                refine r_isub hX dX8_nextToken_295 (RR.pc (b := 296) rfl ?_)
                rw [pk_sub (by omega)]
                refine r_iconst (v := 4) hX dX8_nextToken_296 (by decide) (RR.pc (b := 297) rfl ?_)
                refine r_icmp_le (tgt := 304) hX dX8_nextToken_297 rfl (fun h297 => ?_) (fun h297 => RR.pc (b := 300) rfl ?_)
                · refine r_iconst (v := 2) hX dX8_nextToken_304 (by decide) (RR.pc (b := 305) rfl ?_)
                  refine r_puti hX dX8_nextToken_305 fl_X8_199 (by first | rfl | assumption) rfl ft_8_17 (RR.pc (b := 308) rfl ?_)
                  refine r_goto (tgt := 339) hX dX8_nextToken_308 rfl ?_
                  exact r_vret hX hZ dX8_nextToken_339 ⟨rfl, (by have ew : w2 = 0 ↔ ¬ ((k = 2 ∨ k = 3) ∧ b = e) := ⟨fun z => hw2.elim (fun y => y.2) (fun y => absurd (y.1.symm.trans z) (by decide)), fun z => hw2.elim (fun y => y.1) (fun y => absurd y.2 z)⟩; refine fin _ ?_; rw [eK]; first | (rw [if_pos (Or.inl (Decidable.not_not.mp (fun y => h284 (ew.mpr y))))]; rfl) | (rw [show (4 : Int32) = nI 4 from rfl, nI_leI (by omega) (by omega)] at h297; first | (rw [if_pos (Or.inr (by omega))]; rfl) | (rw [if_neg (fun z => z.elim (ew.mp h284) (fun y => by omega))]; rfl)))⟩
                · refine r_iconst (v := 4) hX dX8_nextToken_300 (by decide) (RR.pc (b := 301) rfl ?_)
                  refine r_goto (tgt := 305) hX dX8_nextToken_301 rfl ?_
                  refine r_puti hX dX8_nextToken_305 fl_X8_199 (by first | rfl | assumption) rfl ft_8_17 (RR.pc (b := 308) rfl ?_)
                  refine r_goto (tgt := 339) hX dX8_nextToken_308 rfl ?_
                  exact r_vret hX hZ dX8_nextToken_339 ⟨rfl, (by have ew : w2 = 0 ↔ ¬ ((k = 2 ∨ k = 3) ∧ b = e) := ⟨fun z => hw2.elim (fun y => y.2) (fun y => absurd (y.1.symm.trans z) (by decide)), fun z => hw2.elim (fun y => y.1) (fun y => absurd y.2 z)⟩; refine fin _ ?_; rw [eK]; first | (rw [if_pos (Or.inl (Decidable.not_not.mp (fun y => h284 (ew.mpr y))))]; rfl) | (rw [show (4 : Int32) = nI 4 from rfl, nI_leI (by omega) (by omega)] at h297; first | (rw [if_pos (Or.inr (by omega))]; rfl) | (rw [if_neg (fun z => z.elim (ew.mp h284) (fun y => by omega))]; rfl)))⟩
            have loop := loopK L (fun p => b ≤ p → tkE tp L b = rn tp (like (tp b)) L p → ∀ τ : SG, τ 38 2 = nI b → τ 38 3 = nI p → τ 38 5 = numF tp b (min 4 (p - b)) → FR σ τ → RR X G 3 214 (ll [(0, rf G 109), (1, .int w2)]) [] τ) (by
              intro p hp ih hbp hE τ r2 r3 r5 hs
              have hTt := hT.fr hs
              refine r_aload_n hX dX8_nextToken_214 rfl ⟨_, rfl⟩ (RR.pc (b := 215) rfl ?_)
              refine r_aload_n hX dX8_nextToken_215 rfl ⟨_, rfl⟩ (RR.pc (b := 216) rfl ?_)
              refine r_geti hX dX8_nextToken_216 fl_X8_196 (by first | rfl | assumption) rfl (RR.pc (b := 219) rfl ?_)
              rw [r3]
              refine r_callVie hX dX8_nextToken_219 ml_X8_211 cd_X8_isDigit iv_X8_isDigit (c_X8_isDigit (p := p) hTt (by omega)) (by decide) (by first | rfl | assumption) rfl rfl rfl rfl (Nat.le_of_ble_eq_true rfl) (RR.pc (b := 222) rfl ?_)
              refine r_if_eq_b (tgt := 282) hX dX8_nextToken_222 rfl (fun h222 => ?_) (fun h222 => RR.pc (b := 225) rfl ?_)
              · rw [rn_no (fun z => h222 ⟨z.1, by have := z.2; unfold like at this; rw [of_decide_eq_true this]; exact c3⟩)] at hE
                exact RR.cut (t282 τ r2 (by rw [hE]; exact r3) (by rw [hE]; exact r5) hs) (List.forall_mem_cons.mpr ⟨rfl, List.forall_mem_cons.mpr ⟨rfl, fun _ h => absurd h List.not_mem_nil⟩⟩)
              · rw [rn_go h222.1 (by unfold like; exact decide_eq_true (by rw [h222.2, c3]))] at hE
                have t266 : ∀ v : Int32, v = numF tp b (min 4 (p + 1 - b)) → RR X G 3 266 (ll [(0, rf G 109), (1, .int w2)]) [.int v, rf G 109] τ := by
                  intro v hv
                  refine r_puti hX dX8_nextToken_266 fl_X8_214 (by first | rfl | assumption) rfl ft_8_18 (RR.pc (b := 269) rfl ?_)
                  refine r_aload_n hX dX8_nextToken_269 rfl ⟨_, rfl⟩ (RR.pc (b := 270) rfl ?_)
                  refine r_dup hX dX8_nextToken_270 rfl (RR.pc (b := 271) rfl ?_)
                  refine r_geti hX dX8_nextToken_271 fl_X8_196 (by first | rfl | assumption) rfl (RR.pc (b := 274) rfl ?_)
                  rw [su_eq, pk_un (by decide), r3]
                  refine r_iconst (v := 1) hX dX8_nextToken_274 (by decide) (RR.pc (b := 275) rfl ?_)
                  refine r_iadd hX dX8_nextToken_275 (RR.pc (b := 276) rfl ?_)
                  rw [nI_1]
                  refine r_puti hX dX8_nextToken_276 fl_X8_196 (by first | rfl | assumption) rfl ft_8_16 (RR.pc (b := 279) rfl ?_)
                  refine r_goto (tgt := 214) hX dX8_nextToken_279 rfl ?_
                  exact RR.cut (ih h222.1 (by omega) hE _ (by rw [su_eq, su_eq, pk_un (by decide), pk_un (by decide)]; exact r2) (by rw [su_eq, pk_us]) (by rw [su_eq, su_eq, pk_un (by decide), pk_us]; exact hv) ((hs.su (by omega)).su (by omega))) (List.forall_mem_cons.mpr ⟨rfl, List.forall_mem_cons.mpr ⟨rfl, fun _ h => absurd h List.not_mem_nil⟩⟩)
                refine r_aload_n hX dX8_nextToken_225 rfl ⟨_, rfl⟩ (RR.pc (b := 226) rfl ?_)
                refine r_aload_n hX dX8_nextToken_226 rfl ⟨_, rfl⟩ (RR.pc (b := 227) rfl ?_)
                refine r_geti hX dX8_nextToken_227 fl_X8_196 (by first | rfl | assumption) rfl (RR.pc (b := 230) rfl ?_)
                rw [r3]
                refine r_aload_n hX dX8_nextToken_230 rfl ⟨_, rfl⟩ (RR.pc (b := 231) rfl ?_)
                refine r_geti hX dX8_nextToken_231 fl_X8_202 (by first | rfl | assumption) rfl (RR.pc (b := 234) rfl ?_)
                rw [r2]
                refine r_isub hX dX8_nextToken_234 (RR.pc (b := 235) rfl ?_)
                rw [pk_sub (by omega)]
                refine r_iconst (v := 4) hX dX8_nextToken_235 (by decide) (RR.pc (b := 236) rfl ?_)
                refine r_icmp_ge (tgt := 262) hX dX8_nextToken_236 rfl (fun h236 => ?_) (fun h236 => RR.pc (b := 239) rfl ?_)
                · refine r_aload_n hX dX8_nextToken_262 rfl ⟨_, rfl⟩ (RR.pc (b := 263) rfl ?_)
                  skip
                  refine r_geti hX dX8_nextToken_263 fl_X8_214 (by first | rfl | assumption) rfl (RR.pc (b := 266) rfl ?_)
                  first | (have c4 : p - b < 4 := (by rw [show (4 : Int32) = nI 4 from rfl, nI_leI (by omega) (by omega)] at h236; omega); exact RR.cut (t266 _ (by rw [show min 4 (p + 1 - b) = (p - b) + 1 by omega, show min 4 (p - b) = p - b by omega, numF, Int32.mul_comm, show b + (p - b) = p by omega])) (List.forall_mem_cons.mpr ⟨rfl, List.forall_mem_cons.mpr ⟨rfl, fun _ h => absurd h List.not_mem_nil⟩⟩)) | (have c4 : ¬ p - b < 4 := (by rw [show (4 : Int32) = nI 4 from rfl, nI_leI (by omega) (by omega)] at h236; omega); exact RR.cut (t266 _ (by rw [r5, show min 4 (p + 1 - b) = 4 by omega, show min 4 (p - b) = 4 by omega])) (List.forall_mem_cons.mpr ⟨rfl, List.forall_mem_cons.mpr ⟨rfl, fun _ h => absurd h List.not_mem_nil⟩⟩))
                · refine r_bipush (v := 10) hX dX8_nextToken_239 (by decide) (RR.pc (b := 241) rfl ?_)
                  refine r_aload_n hX dX8_nextToken_241 rfl ⟨_, rfl⟩ (RR.pc (b := 242) rfl ?_)
                  refine r_geti hX dX8_nextToken_242 fl_X8_214 (by first | rfl | assumption) rfl (RR.pc (b := 245) rfl ?_)
                  rw [r5]
                  refine r_imul hX dX8_nextToken_245 (RR.pc (b := 246) rfl ?_)
                  refine r_aload_n hX dX8_nextToken_246 rfl ⟨_, rfl⟩ (RR.pc (b := 247) rfl ?_)
                  refine r_getr hX dX8_nextToken_247 fl_X8_46 (by first | rfl | assumption) rfl (RR.pc (b := 250) rfl ?_)
                  refine r_aload_n hX dX8_nextToken_250 rfl ⟨_, rfl⟩ (RR.pc (b := 251) rfl ?_)
                  refine r_geti hX dX8_nextToken_251 fl_X8_196 (by first | rfl | assumption) rfl (RR.pc (b := 254) rfl ?_)
                  rw [r3]
                  refine r_iald hX dX8_nextToken_254 (by first | rfl | assumption) rfl (by omega) (by first | decide | omega) (by first | exact Nat.zero_add _ | rfl) (RR.pc (b := 255) rfl ?_)
                  rw [hTt.2.2.1 p (by omega)]
                  refine r_iadd hX dX8_nextToken_255 (RR.pc (b := 256) rfl ?_)
                  refine r_bipush (v := 48) hX dX8_nextToken_256 (by decide) (RR.pc (b := 258) rfl ?_)
                  refine r_isub hX dX8_nextToken_258 (RR.pc (b := 259) rfl ?_)
                  refine r_goto (tgt := 266) hX dX8_nextToken_259 rfl ?_
                  first | (have c4 : p - b < 4 := (by rw [show (4 : Int32) = nI 4 from rfl, nI_leI (by omega) (by omega)] at h236; omega); exact RR.cut (t266 _ (by rw [show min 4 (p + 1 - b) = (p - b) + 1 by omega, show min 4 (p - b) = p - b by omega, numF, Int32.mul_comm, show b + (p - b) = p by omega])) (List.forall_mem_cons.mpr ⟨rfl, List.forall_mem_cons.mpr ⟨rfl, fun _ h => absurd h List.not_mem_nil⟩⟩)) | (have c4 : ¬ p - b < 4 := (by rw [show (4 : Int32) = nI 4 from rfl, nI_leI (by omega) (by omega)] at h236; omega); exact RR.cut (t266 _ (by rw [r5, show min 4 (p + 1 - b) = 4 by omega, show min 4 (p - b) = 4 by omega])) (List.forall_mem_cons.mpr ⟨rfl, List.forall_mem_cons.mpr ⟨rfl, fun _ h => absurd h List.not_mem_nil⟩⟩))
              )
            refine r_aload_n hX dX8_nextToken_209 rfl ⟨_, rfl⟩ (RR.pc (b := 210) rfl ?_)
            refine r_iconst (v := 0) hX dX8_nextToken_210 (by decide) (RR.pc (b := 211) rfl ?_)
            refine r_puti hX dX8_nextToken_211 fl_X8_214 (by first | rfl | assumption) rfl ft_8_18 (RR.pc (b := 214) rfl ?_)
            exact RR.cut (loop b hb2 (Nat.le_refl _) (by rw [eE, rn_go (p := b) hbL (by unfold like; exact decide_eq_true rfl)]) _ (by rw [su_eq, pk_un (by decide)]; exact s2) (by rw [su_eq, pk_un (by decide)]; exact s3) (by rw [su_eq, pk_us, Nat.sub_self]; rfl) (hs1.su (by omega))) (List.forall_mem_cons.mpr ⟨rfl, List.forall_mem_cons.mpr ⟨rfl, fun _ h => absurd h List.not_mem_nil⟩⟩)
          · have c1 : so (tp b) = 1 := by omega
            have eE : tkE tp L b = b + 1 := by unfold tkE; rw [if_pos hbL, if_pos c1]
            have eK : tkK tp L k e b = 1 := by unfold tkK; rw [if_pos hbL, if_pos c1]
            refine r_if_eq_b (tgt := 311) hX dX8_nextToken_206 rfl (fun _ => ?_) (fun h => absurd h.2 c3)
            refine r_aload_n hX dX8_nextToken_311 rfl ⟨_, rfl⟩ (RR.pc (b := 312) rfl ?_)
            refine r_iconst (v := 3) hX dX8_nextToken_312 (by decide) (RR.pc (b := 313) rfl ?_)
            refine r_puti hX dX8_nextToken_313 fl_X8_199 (by first | rfl | assumption) rfl ft_8_17 (RR.pc (b := 316) rfl ?_)
            refine r_aload_n hX dX8_nextToken_316 rfl ⟨_, rfl⟩ (RR.pc (b := 317) rfl ?_)
            refine r_aload_n hX dX8_nextToken_317 rfl ⟨_, rfl⟩ (RR.pc (b := 318) rfl ?_)
            refine r_getr hX dX8_nextToken_318 fl_X8_46 (by first | rfl | assumption) rfl (RR.pc (b := 321) rfl ?_)
            refine r_aload_n hX dX8_nextToken_321 rfl ⟨_, rfl⟩ (RR.pc (b := 322) rfl ?_)
            refine r_geti hX dX8_nextToken_322 fl_X8_202 (by first | rfl | assumption) rfl (RR.pc (b := 325) rfl ?_)
            rw [su_eq, pk_un (by decide), s2]
            refine r_iald hX dX8_nextToken_325 (by first | rfl | assumption) rfl (by omega) (by first | decide | omega) (by first | exact Nat.zero_add _ | rfl) (RR.pc (b := 326) rfl ?_)
            rw [su_ne (by decide), hT1.2.2.1 b (by omega)]
            refine r_puti hX dX8_nextToken_326 fl_X8_208 (by first | rfl | assumption) rfl ft_8_19 (RR.pc (b := 329) rfl ?_)
            refine r_aload_n hX dX8_nextToken_329 rfl ⟨_, rfl⟩ (RR.pc (b := 330) rfl ?_)
            refine r_dup hX dX8_nextToken_330 rfl (RR.pc (b := 331) rfl ?_)
            refine r_geti hX dX8_nextToken_331 fl_X8_196 (by first | rfl | assumption) rfl (RR.pc (b := 334) rfl ?_)
            rw [su_eq, su_eq, pk_un (by decide), pk_un (by decide), s3]
            refine r_iconst (v := 1) hX dX8_nextToken_334 (by decide) (RR.pc (b := 335) rfl ?_)
            refine r_iadd hX dX8_nextToken_335 (RR.pc (b := 336) rfl ?_)
            rw [nI_1]
            refine r_puti hX dX8_nextToken_336 fl_X8_196 (by first | rfl | assumption) rfl ft_8_16 (RR.pc (b := 339) rfl ?_)
            exact r_vret hX hZ dX8_nextToken_339 ⟨rfl, ⟨by rw [eE, eK]; exact ⟨by rw [su_eq, su_eq, su_eq, pk_un (by decide), pk_un (by decide), pk_un (by decide)]; exact s2, by rw [su_eq, pk_us], by rw [su_eq, su_eq, su_eq, pk_un (by decide), pk_un (by decide), pk_us]; rfl, fun _ => by rw [su_eq, su_eq, pk_un (by decide), pk_us], fun z => absurd z (by decide), fun z => absurd z (by decide)⟩, ((hs1.su (by omega)).su (by omega)).su (by omega)⟩⟩
      · have hbL : b = L := (nI_eq (by omega) (by omega)).mp h106
        have eE : tkE tp L b = b := by unfold tkE; rw [if_neg (by omega)]
        have eK : tkK tp L k e b = 0 := by unfold tkK; rw [if_neg (by omega)]
        refine r_aload_n hX dX8_nextToken_109 rfl ⟨_, rfl⟩ (RR.pc (b := 110) rfl ?_)
        refine r_iconst (v := 0) hX dX8_nextToken_110 (by decide) (RR.pc (b := 111) rfl ?_)
        refine r_puti hX dX8_nextToken_111 fl_X8_199 (by first | rfl | assumption) rfl ft_8_17 (RR.pc (b := 114) rfl ?_)
        refine r_goto (tgt := 339) hX dX8_nextToken_114 rfl ?_
        exact r_vret hX hZ dX8_nextToken_339 ⟨rfl, ⟨by rw [eE, eK]; exact ⟨by rw [su_eq, pk_un (by decide)]; exact s2, by rw [su_eq, pk_un (by decide)]; exact s3, by rw [su_eq, pk_us]; rfl, fun z => absurd z (by decide), fun z => absurd z (by decide), fun z => absurd z (by decide)⟩, hs1.su (by omega)⟩⟩
    have t72 : ∀ τ : SG, τ 38 3 = nI b → FR σ τ → RR X G 3 72 (ll [(0, rf G 109), (1, .int w), (2, .int (nI e))]) [] τ := by
      intro τ r3 hs
      have k23 : ¬ w = 0 → (k = 2 ∨ k = 3) := fun z => hw.elim (fun y => absurd y.1 z) (fun y => y.2)
      have k0 : w = 0 → ¬ (k = 2 ∨ k = 3) := fun z => hw.elim (fun y => y.2) (fun y => absurd (y.1.symm.trans z) (by decide))
      refine r_iload_n (i := 0) hX dX8_nextToken_72 rfl (RR.pc (b := 73) rfl ?_)
      refine r_if_eq (tgt := 88) hX dX8_nextToken_73 rfl (fun h73 => ?_) (fun h73 => RR.pc (b := 76) rfl ?_)
      · refine r_iconst (v := 0) hX dX8_nextToken_88 (by decide) (RR.pc (b := 89) rfl ?_)
        first | exact RR.cut (t89 τ 1 (Or.inr ⟨rfl, k23 h73, ((nI_eq (by omega) (by omega)).mp h81).symm⟩) r3 hs) (List.forall_mem_cons.mpr ⟨rfl, fun _ h => absurd h List.not_mem_nil⟩) | exact RR.cut (t89 τ 0 (Or.inl ⟨rfl, fun z => h81 (by rw [z.2])⟩) r3 hs) (List.forall_mem_cons.mpr ⟨rfl, fun _ h => absurd h List.not_mem_nil⟩) | exact RR.cut (t89 τ 0 (Or.inl ⟨rfl, fun z => k0 h73 z.1⟩) r3 hs) (List.forall_mem_cons.mpr ⟨rfl, fun _ h => absurd h List.not_mem_nil⟩)
      · refine r_iload_n (i := 0) hX dX8_nextToken_76 rfl (RR.pc (b := 77) rfl ?_)
        refine r_aload_n hX dX8_nextToken_77 rfl ⟨_, rfl⟩ (RR.pc (b := 78) rfl ?_)
        refine r_geti hX dX8_nextToken_78 fl_X8_196 (by first | rfl | assumption) rfl (RR.pc (b := 81) rfl ?_)
        rw [r3]
        refine r_icmp_ne (tgt := 88) hX dX8_nextToken_81 rfl (fun h81 => ?_) (fun h81 => RR.pc (b := 84) rfl ?_)
        · refine r_iconst (v := 0) hX dX8_nextToken_88 (by decide) (RR.pc (b := 89) rfl ?_)
          first | exact RR.cut (t89 τ 1 (Or.inr ⟨rfl, k23 h73, ((nI_eq (by omega) (by omega)).mp h81).symm⟩) r3 hs) (List.forall_mem_cons.mpr ⟨rfl, fun _ h => absurd h List.not_mem_nil⟩) | exact RR.cut (t89 τ 0 (Or.inl ⟨rfl, fun z => h81 (by rw [z.2])⟩) r3 hs) (List.forall_mem_cons.mpr ⟨rfl, fun _ h => absurd h List.not_mem_nil⟩) | exact RR.cut (t89 τ 0 (Or.inl ⟨rfl, fun z => k0 h73 z.1⟩) r3 hs) (List.forall_mem_cons.mpr ⟨rfl, fun _ h => absurd h List.not_mem_nil⟩)
        · refine r_iconst (v := 1) hX dX8_nextToken_84 (by decide) (RR.pc (b := 85) rfl ?_)
          refine r_goto (tgt := 89) hX dX8_nextToken_85 rfl ?_
          first | exact RR.cut (t89 τ 1 (Or.inr ⟨rfl, k23 h73, ((nI_eq (by omega) (by omega)).mp h81).symm⟩) r3 hs) (List.forall_mem_cons.mpr ⟨rfl, fun _ h => absurd h List.not_mem_nil⟩) | exact RR.cut (t89 τ 0 (Or.inl ⟨rfl, fun z => h81 (by rw [z.2])⟩) r3 hs) (List.forall_mem_cons.mpr ⟨rfl, fun _ h => absurd h List.not_mem_nil⟩) | exact RR.cut (t89 τ 0 (Or.inl ⟨rfl, fun z => k0 h73 z.1⟩) r3 hs) (List.forall_mem_cons.mpr ⟨rfl, fun _ h => absurd h List.not_mem_nil⟩)
    have loop := loopK L (fun p => e ≤ p → b = rn tp blk L p → ∀ τ : SG, τ 38 3 = nI p → FR σ τ → RR X G 3 34 (ll [(0, rf G 109), (1, .int w), (2, .int (nI e))]) [] τ) (by
      intro p hp ih hep hbp τ r3 hs
      have hTt := hT.fr hs
      refine r_aload_n hX dX8_nextToken_34 rfl ⟨_, rfl⟩ (RR.pc (b := 35) rfl ?_)
      refine r_geti hX dX8_nextToken_35 fl_X8_196 (by first | rfl | assumption) rfl (RR.pc (b := 38) rfl ?_)
      rw [r3]
      refine r_aload_n hX dX8_nextToken_38 rfl ⟨_, rfl⟩ (RR.pc (b := 39) rfl ?_)
      refine r_geti hX dX8_nextToken_39 fl_X8_184 (by first | rfl | assumption) rfl (RR.pc (b := 42) rfl ?_)
      rw [hTt.2.1]
      refine r_icmp_ge (tgt := 72) hX dX8_nextToken_42 rfl (fun h42 => ?_) (fun h42 => RR.pc (b := 45) rfl ?_)
      · have hpL : p = L := by rw [nI_leI (by omega) (by omega)] at h42; omega
        rw [rn_no (by omega)] at hbp
        exact RR.cut (t72 τ (by rw [hbp]; exact r3) hs) (List.forall_mem_cons.mpr ⟨rfl, List.forall_mem_cons.mpr ⟨rfl, List.forall_mem_cons.mpr ⟨rfl, fun _ h => absurd h List.not_mem_nil⟩⟩⟩)
      · have hpL : p < L := by rw [nI_leI (by omega) (by omega)] at h42; omega
        refine r_aload_n hX dX8_nextToken_45 rfl ⟨_, rfl⟩ (RR.pc (b := 46) rfl ?_)
        refine r_getr hX dX8_nextToken_46 fl_X8_46 (by first | rfl | assumption) rfl (RR.pc (b := 49) rfl ?_)
        refine r_aload_n hX dX8_nextToken_49 rfl ⟨_, rfl⟩ (RR.pc (b := 50) rfl ?_)
        refine r_geti hX dX8_nextToken_50 fl_X8_196 (by first | rfl | assumption) rfl (RR.pc (b := 53) rfl ?_)
        rw [r3]
        refine r_iald hX dX8_nextToken_53 (by first | rfl | assumption) rfl (by omega) (by first | decide | omega) (by first | exact Nat.zero_add _ | rfl) (RR.pc (b := 54) rfl ?_)
        refine r_bipush (v := 32) hX dX8_nextToken_54 (by decide) (RR.pc (b := 56) rfl ?_)
        rw [hTt.2.2.1 p (by omega)]
        refine r_icmp_ne (tgt := 72) hX dX8_nextToken_56 rfl (fun h56 => ?_) (fun h56 => RR.pc (b := 59) rfl ?_)
        · rw [rn_no (fun z => h56 (by have := z.2; unfold blk at this; exact of_decide_eq_true this))] at hbp
          exact RR.cut (t72 τ (by rw [hbp]; exact r3) hs) (List.forall_mem_cons.mpr ⟨rfl, List.forall_mem_cons.mpr ⟨rfl, List.forall_mem_cons.mpr ⟨rfl, fun _ h => absurd h List.not_mem_nil⟩⟩⟩)
        · rw [rn_go hpL (by unfold blk; exact decide_eq_true h56)] at hbp
          refine r_aload_n hX dX8_nextToken_59 rfl ⟨_, rfl⟩ (RR.pc (b := 60) rfl ?_)
          refine r_dup hX dX8_nextToken_60 rfl (RR.pc (b := 61) rfl ?_)
          refine r_geti hX dX8_nextToken_61 fl_X8_196 (by first | rfl | assumption) rfl (RR.pc (b := 64) rfl ?_)
          rw [r3]
          refine r_iconst (v := 1) hX dX8_nextToken_64 (by decide) (RR.pc (b := 65) rfl ?_)
          refine r_iadd hX dX8_nextToken_65 (RR.pc (b := 66) rfl ?_)
          rw [nI_1]
          refine r_puti hX dX8_nextToken_66 fl_X8_196 (by first | rfl | assumption) rfl ft_8_16 (RR.pc (b := 69) rfl ?_)
          refine r_goto (tgt := 34) hX dX8_nextToken_69 rfl ?_
          exact RR.cut (ih hpL (by omega) hbp _ (by rw [su_eq, pk_us]) (hs.su (by omega))) (List.forall_mem_cons.mpr ⟨rfl, List.forall_mem_cons.mpr ⟨rfl, List.forall_mem_cons.mpr ⟨rfl, fun _ h => absurd h List.not_mem_nil⟩⟩⟩)
      )
    refine r_istore_n hX dX8_nextToken_28 (by decide) (RR.pc (b := 29) rfl ?_)
    refine r_aload_n hX dX8_nextToken_29 rfl ⟨_, rfl⟩ (RR.pc (b := 30) rfl ?_)
    refine r_geti hX dX8_nextToken_30 fl_X8_196 (by first | rfl | assumption) rfl (RR.pc (b := 33) rfl ?_)
    rw [h1]
    refine r_istore_n hX dX8_nextToken_33 (by decide) (RR.pc (b := 34) rfl ?_)
    exact RR.cut (loop e he (Nat.le_refl _) hb.symm _ h1 FR.rf) (List.forall_mem_cons.mpr ⟨rfl, List.forall_mem_cons.mpr ⟨rfl, List.forall_mem_cons.mpr ⟨rfl, fun _ h => absurd h List.not_mem_nil⟩⟩⟩)
  refine r_aload_n hX dX8_nextToken_0 rfl ⟨_, rfl⟩ (RR.pc (b := 1) rfl ?_)
  refine r_geti hX dX8_nextToken_1 fl_X8_196 (by first | rfl | assumption) rfl (RR.pc (b := 4) rfl ?_)
  rw [h1]
  refine r_if_le (tgt := 27) hX dX8_nextToken_4 rfl (fun h4 => ?_) (fun h4 => RR.pc (b := 7) rfl ?_)
  · refine r_iconst (v := 0) hX dX8_nextToken_27 (by decide) (RR.pc (b := 28) rfl ?_)
    first | exact RR.cut (t28 1 (Or.inr ⟨rfl, Or.inl (q2.mp ((nI_eq (b := 1) (by omega) (by omega)).mp h12))⟩)) (List.forall_mem_cons.mpr ⟨rfl, fun _ h => absurd h List.not_mem_nil⟩) | exact RR.cut (t28 1 (Or.inr ⟨rfl, Or.inr (q3.mp ((nI_eq (b := 2) (by omega) (by omega)).mp h20))⟩)) (List.forall_mem_cons.mpr ⟨rfl, fun _ h => absurd h List.not_mem_nil⟩) | exact RR.cut (t28 0 (Or.inl ⟨rfl, fun z => z.elim (fun y => h12 (by rw [q2.mpr y]; rfl)) (fun y => h20 (by rw [q3.mpr y]; rfl))⟩)) (List.forall_mem_cons.mpr ⟨rfl, fun _ h => absurd h List.not_mem_nil⟩) | exact RR.cut (t28 0 (Or.inl ⟨rfl, fun z => absurd h4 (nI_nle (he0 z) (by omega))⟩)) (List.forall_mem_cons.mpr ⟨rfl, fun _ h => absurd h List.not_mem_nil⟩)
  · refine r_aload_n hX dX8_nextToken_7 rfl ⟨_, rfl⟩ (RR.pc (b := 8) rfl ?_)
    refine r_geti hX dX8_nextToken_8 fl_X8_199 (by first | rfl | assumption) rfl (RR.pc (b := 11) rfl ?_)
    rw [h2]
    refine r_iconst (v := 1) hX dX8_nextToken_11 (by decide) (RR.pc (b := 12) rfl ?_)
    refine r_icmp_eq (tgt := 23) hX dX8_nextToken_12 rfl (fun h12 => ?_) (fun h12 => RR.pc (b := 15) rfl ?_)
    · refine r_iconst (v := 1) hX dX8_nextToken_23 (by decide) (RR.pc (b := 24) rfl ?_)
      refine r_goto (tgt := 28) hX dX8_nextToken_24 rfl ?_
      first | exact RR.cut (t28 1 (Or.inr ⟨rfl, Or.inl (q2.mp ((nI_eq (b := 1) (by omega) (by omega)).mp h12))⟩)) (List.forall_mem_cons.mpr ⟨rfl, fun _ h => absurd h List.not_mem_nil⟩) | exact RR.cut (t28 1 (Or.inr ⟨rfl, Or.inr (q3.mp ((nI_eq (b := 2) (by omega) (by omega)).mp h20))⟩)) (List.forall_mem_cons.mpr ⟨rfl, fun _ h => absurd h List.not_mem_nil⟩) | exact RR.cut (t28 0 (Or.inl ⟨rfl, fun z => z.elim (fun y => h12 (by rw [q2.mpr y]; rfl)) (fun y => h20 (by rw [q3.mpr y]; rfl))⟩)) (List.forall_mem_cons.mpr ⟨rfl, fun _ h => absurd h List.not_mem_nil⟩) | exact RR.cut (t28 0 (Or.inl ⟨rfl, fun z => absurd h4 (nI_nle (he0 z) (by omega))⟩)) (List.forall_mem_cons.mpr ⟨rfl, fun _ h => absurd h List.not_mem_nil⟩)
    · refine r_aload_n hX dX8_nextToken_15 rfl ⟨_, rfl⟩ (RR.pc (b := 16) rfl ?_)
      refine r_geti hX dX8_nextToken_16 fl_X8_199 (by first | rfl | assumption) rfl (RR.pc (b := 19) rfl ?_)
      rw [h2]
      refine r_iconst (v := 2) hX dX8_nextToken_19 (by decide) (RR.pc (b := 20) rfl ?_)
      refine r_icmp_ne (tgt := 27) hX dX8_nextToken_20 rfl (fun h20 => ?_) (fun h20 => RR.pc (b := 23) rfl ?_)
      · refine r_iconst (v := 0) hX dX8_nextToken_27 (by decide) (RR.pc (b := 28) rfl ?_)
        first | exact RR.cut (t28 1 (Or.inr ⟨rfl, Or.inl (q2.mp ((nI_eq (b := 1) (by omega) (by omega)).mp h12))⟩)) (List.forall_mem_cons.mpr ⟨rfl, fun _ h => absurd h List.not_mem_nil⟩) | exact RR.cut (t28 1 (Or.inr ⟨rfl, Or.inr (q3.mp ((nI_eq (b := 2) (by omega) (by omega)).mp h20))⟩)) (List.forall_mem_cons.mpr ⟨rfl, fun _ h => absurd h List.not_mem_nil⟩) | exact RR.cut (t28 0 (Or.inl ⟨rfl, fun z => z.elim (fun y => h12 (by rw [q2.mpr y]; rfl)) (fun y => h20 (by rw [q3.mpr y]; rfl))⟩)) (List.forall_mem_cons.mpr ⟨rfl, fun _ h => absurd h List.not_mem_nil⟩) | exact RR.cut (t28 0 (Or.inl ⟨rfl, fun z => absurd h4 (nI_nle (he0 z) (by omega))⟩)) (List.forall_mem_cons.mpr ⟨rfl, fun _ h => absurd h List.not_mem_nil⟩)
      · refine r_iconst (v := 1) hX dX8_nextToken_23 (by decide) (RR.pc (b := 24) rfl ?_)
        refine r_goto (tgt := 28) hX dX8_nextToken_24 rfl ?_
        first | exact RR.cut (t28 1 (Or.inr ⟨rfl, Or.inl (q2.mp ((nI_eq (b := 1) (by omega) (by omega)).mp h12))⟩)) (List.forall_mem_cons.mpr ⟨rfl, fun _ h => absurd h List.not_mem_nil⟩) | exact RR.cut (t28 1 (Or.inr ⟨rfl, Or.inr (q3.mp ((nI_eq (b := 2) (by omega) (by omega)).mp h20))⟩)) (List.forall_mem_cons.mpr ⟨rfl, fun _ h => absurd h List.not_mem_nil⟩) | exact RR.cut (t28 0 (Or.inl ⟨rfl, fun z => z.elim (fun y => h12 (by rw [q2.mpr y]; rfl)) (fun y => h20 (by rw [q3.mpr y]; rfl))⟩)) (List.forall_mem_cons.mpr ⟨rfl, fun _ h => absurd h List.not_mem_nil⟩) | exact RR.cut (t28 0 (Or.inl ⟨rfl, fun z => absurd h4 (nI_nle (he0 z) (by omega))⟩)) (List.forall_mem_cons.mpr ⟨rfl, fun _ h => absurd h List.not_mem_nil⟩)
