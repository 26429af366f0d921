/-! the class: tokens -/
def TP (σ : SG) (tp : Nat → Int32) (L : Nat) : Prop := L ≤ 96 ∧ σ 5 96 = nI L ∧ (∀ i, i < 96 → σ 5 i = tp i) ∧ ∀ i, i < 96 → ∃ x : Nat, x < 256 ∧ tp i = nI x
theorem TP.same {σ s : SG} {tp : Nat → Int32} {L : Nat} (h : TP σ tp L) (e : s 5 = σ 5) : TP s tp L := by
  unfold TP
  rw [e]
  exact h
set_option maxHeartbeats 4000000 in
set_option maxRecDepth 100000 in
theorem c_X3_byteAt {G : GM} {σ : SG} {tp : Nat → Int32} {L p : Nat} (hT : TP σ tp L) (hp : p < 1000) : CI G yX3_byteAt cX3_byteAt 2 (some .int) 0 [rf G 31, .int (nI p)] σ (fun r s => r = (if p < L then tp p else -1) ∧ s = σ) := by
  refine Con.of cd_X3_byteAt (Nat.le_of_ble_eq_true rfl) ?_
  intro X hX hZ
  have hX : Fx X G RX3 cX3_byteAt 2 0 := hX
  show RR X G 2 0 (ll [(0, rf G 31), (1, .int (nI p))]) [] σ
  have h96 := hT.1
  refine r_iload_n (i := 0) hX dX3_byteAt_0 rfl (RR.pc (b := 1) rfl ?_)
  refine r_if_lt (tgt := 21) hX dX3_byteAt_1 rfl (fun h1 => absurd h1 (nI_pos (by omega))) (fun h1 => RR.pc (b := 4) rfl ?_)
  refine r_iload_n (i := 0) hX dX3_byteAt_4 rfl (RR.pc (b := 5) rfl ?_)
  refine r_aload_n hX dX3_byteAt_5 rfl ⟨_, rfl⟩ (RR.pc (b := 6) rfl ?_)
  refine r_geti hX dX3_byteAt_6 fl_X3_15 (by first | rfl | assumption) rfl (RR.pc (b := 9) rfl ?_)
  rw [hT.2.1]
  refine r_icmp_ge (tgt := 21) hX dX3_byteAt_9 rfl (fun h9 => ?_) (fun h9 => RR.pc (b := 12) rfl ?_)
  · refine r_iconst (v := -1) hX dX3_byteAt_21 (by decide) (RR.pc (b := 22) rfl ?_)
    exact r_iret hX hZ dX3_byteAt_22 ⟨_, rfl, ⟨by first | (rw [if_pos hpL]) | (rw [if_neg (by rw [nI_leI (by omega) (by omega)] at h9; omega)]), rfl⟩⟩
  · have hpL : p < L := by rw [nI_leI (by omega) (by omega)] at h9; omega
    refine r_aload_n hX dX3_byteAt_12 rfl ⟨_, rfl⟩ (RR.pc (b := 13) rfl ?_)
    refine r_getr hX dX3_byteAt_13 fl_X3_9 (by first | rfl | assumption) rfl (RR.pc (b := 16) rfl ?_)
    refine r_iload_n (i := 0) hX dX3_byteAt_16 rfl (RR.pc (b := 17) rfl ?_)
    refine r_iald hX dX3_byteAt_17 (by first | rfl | assumption) rfl (by omega) (by first | decide | omega) (by first | exact Nat.zero_add _ | rfl) (RR.pc (b := 18) rfl ?_)
    rw [hT.2.2.1 p (by omega)]
    refine r_goto (tgt := 22) hX dX3_byteAt_18 rfl ?_
    exact r_iret hX hZ dX3_byteAt_22 ⟨_, rfl, ⟨by first | (rw [if_pos hpL]) | (rw [if_neg (by rw [nI_leI (by omega) (by omega)] at h9; omega)]), rfl⟩⟩
set_option maxHeartbeats 4000000 in
set_option maxRecDepth 100000 in
theorem c_X5_sortOf {G : GM} {σ : SG} {v : Int32} : CI G yX5_sortOf cX5_sortOf 1 (some .int) 1 [.int v] σ (fun r s => r = (if v < 0 then 0 else nI (so v)) ∧ s = σ) := by
  refine Con.of cd_X5_sortOf (Nat.le_of_ble_eq_true rfl) ?_
  intro X hX hZ
  have hX : Fx X G RX5 cX5_sortOf 1 1 := hX
  show RR X G 1 0 (ll [(0, .int v)]) [] σ
  refine r_iload_n (i := 0) hX dX5_sortOf_0 rfl (RR.pc (b := 1) rfl ?_)
  refine r_if_ge (tgt := 6) hX dX5_sortOf_1 rfl (fun h1 => ?_) (fun h1 => RR.pc (b := 4) rfl ?_)
  · refine r_iload_n (i := 0) hX dX5_sortOf_6 rfl (RR.pc (b := 7) rfl ?_)
    refine r_bipush (v := 97) hX dX5_sortOf_7 (by decide) (RR.pc (b := 9) rfl ?_)
    refine r_bipush (v := 122) hX dX5_sortOf_9 (by decide) (RR.pc (b := 11) rfl ?_)
    refine r_callSNie hX dX5_sortOf_11 (List.mem_of_getElem? (i := 2) rfl) cd_X7_within st_X7_within c_X7_within (by decide) rfl rfl (Nat.le_of_ble_eq_true rfl) (RR.pc (b := 14) rfl ?_)
    refine r_if_eq_b (tgt := 19) hX dX5_sortOf_14 rfl (fun h14 => ?_) (fun h14 => RR.pc (b := 17) rfl ?_)
    · try simp only [Int32.reduceToInt] at h14
      refine r_iload_n (i := 0) hX dX5_sortOf_19 rfl (RR.pc (b := 20) rfl ?_)
      refine r_bipush (v := 48) hX dX5_sortOf_20 (by decide) (RR.pc (b := 22) rfl ?_)
      refine r_bipush (v := 57) hX dX5_sortOf_22 (by decide) (RR.pc (b := 24) rfl ?_)
      refine r_callSNie hX dX5_sortOf_24 (List.mem_of_getElem? (i := 2) rfl) cd_X7_within st_X7_within c_X7_within (by decide) rfl rfl (Nat.le_of_ble_eq_true rfl) (RR.pc (b := 27) rfl ?_)
      refine r_if_eq_b (tgt := 34) hX dX5_sortOf_27 rfl (fun h27 => ?_) (fun h27 => RR.pc (b := 30) rfl ?_)
      · try simp only [Int32.reduceToInt] at h27
        refine r_iconst (v := 1) hX dX5_sortOf_34 (by decide) (RR.pc (b := 35) rfl ?_)
        exact r_iret hX hZ dX5_sortOf_35 ⟨_, rfl, ⟨by rw [if_neg (Int32.not_lt.mpr h1), so, if_neg h14]; first | (rw [if_pos h27]; rfl) | (rw [if_neg h27]; rfl), rfl⟩⟩
      · try simp only [Int32.reduceToInt] at h27
        refine r_iconst (v := 3) hX dX5_sortOf_30 (by decide) (RR.pc (b := 31) rfl ?_)
        refine r_goto (tgt := 35) hX dX5_sortOf_31 rfl ?_
        exact r_iret hX hZ dX5_sortOf_35 ⟨_, rfl, ⟨by rw [if_neg (Int32.not_lt.mpr h1), so, if_neg h14]; first | (rw [if_pos h27]; rfl) | (rw [if_neg h27]; rfl), rfl⟩⟩
    · try simp only [Int32.reduceToInt] at h14
      refine r_iconst (v := 2) hX dX5_sortOf_17 (by decide) (RR.pc (b := 18) rfl ?_)
      exact r_iret hX hZ dX5_sortOf_18 ⟨_, rfl, ⟨by rw [if_neg (Int32.not_lt.mpr h1), so, if_pos h14]; rfl, rfl⟩⟩
  · refine r_iconst (v := 0) hX dX5_sortOf_4 (by decide) (RR.pc (b := 5) rfl ?_)
    exact r_iret hX hZ dX5_sortOf_5 ⟨_, rfl, ⟨by rw [if_pos (Int32.not_le.mp h1)], rfl⟩⟩
theorem so_lt {v : Int32} : so v ≤ 3 ∧ 1 ≤ so v := by
  rcases so_123 v with e | e | e <;> rw [e] <;> decide
def RS (σ : SG) (k b e : Nat) : Prop := σ 6 0 = nI b ∧ σ 6 1 = nI e ∧ σ 6 2 = nI k
set_option maxHeartbeats 4000000 in
set_option maxRecDepth 100000 in
theorem c_X5_stepOn {G : GM} {σ : SG} {tp : Nat → Int32} {L k e : Nat} (hT : TP σ tp L) (h1 : σ 6 1 = nI e) (h2 : σ 6 2 = nI k) (he : e ≤ L) (hk4 : k ≤ 4) : CU G yX5_stepOn cX5_stepOn 4 none 2 [rf G 33] σ (fun s => RS s (tkK tp L k e (tkB tp L e)) (tkB tp L e) (tkE tp L (tkB tp L e)) ∧ same [6] σ s) := by
  refine Con.of cd_X5_stepOn (Nat.le_of_ble_eq_true rfl) ?_
  intro X hX hZ
  have hX : Fx X G RX5 cX5_stepOn 4 2 := hX
  show RR X G 4 0 (ll [(0, rf G 33)]) [] σ
  have h96 := hT.1
  obtain ⟨hb1, hb2⟩ := tkB_ge (tp := tp) he
  generalize hb : tkB tp L e = b at hb1 hb2 hZ
  have bt : ∀ i, i < L → ¬ tp i < 0 := fun i hi => by obtain ⟨x, hx, ex⟩ := hT.2.2.2 i (by omega); rw [ex]; exact nI_pos (by omega)
  have t21 : ∀ w : Int32, (w = 0 ∧ ¬ (k = 2 ∨ k = 3)) ∨ (w = 1 ∧ (k = 2 ∨ k = 3)) → RR X G 4 21 (ll [(0, rf G 33)]) [.int w] σ := by
    intro w hw
    have t188 : ∀ τ : SG, b < L → ¬ so (tp b) = 1 → RS τ (so (tp b)) b (tkE tp L b) → same [6] σ τ → RR X G 4 188 (ll [(0, rf G 33), (1, .int w), (2, .int (nI e))]) [] τ := by
      intro τ hbL hs1 hR hs
      obtain ⟨r0, r1, r2⟩ := hR
      obtain ⟨g1, g2, -⟩ := rn_ge (tp := tp) (P := like (tp b)) (L := L) (p := b + 1)
      have eE : tkE tp L b = rn tp (like (tp b)) L (b + 1) := by unfold tkE; rw [if_pos hbL, if_neg hs1]
      rw [← eE] at g1 g2
      have g3 := g2 (by omega)
      have eK : tkK tp L k e b = if ((k = 2 ∨ k = 3) ∧ b = e) ∨ (so (tp b) = 3 ∧ 4 < tkE tp L b - b) then 4 else so (tp b) := by unfold tkK; rw [if_pos hbL, if_neg hs1]
      have s3 := so_lt (v := tp b)
      have fin4 : (((k = 2 ∨ k = 3) ∧ b = e) ∨ (so (tp b) = 3 ∧ 4 < tkE tp L b - b)) → RS (su τ 6 2 4) (tkK tp L k e b) b (tkE tp L b) ∧ same [6] σ (su τ 6 2 4) := by
        intro c
        rw [eK, if_pos c]
        exact ⟨⟨by rw [su_eq, pk_un (by decide)]; exact r0, by rw [su_eq, pk_un (by decide)]; exact r1, by rw [su_eq, pk_us]; rfl⟩, hs.su (by simp)⟩
      have finK : ¬ (((k = 2 ∨ k = 3) ∧ b = e) ∨ (so (tp b) = 3 ∧ 4 < tkE tp L b - b)) → RS τ (tkK tp L k e b) b (tkE tp L b) ∧ same [6] σ τ := by
        intro c
        rw [eK, if_neg c]
        exact ⟨⟨r0, r1, r2⟩, hs⟩
      have k23 : ¬ w = 0 → (k = 2 ∨ k = 3) := fun z => hw.elim (fun y => absurd y.1 z) (fun y => y.2)
      have k0 : w = 0 → ¬ (k = 2 ∨ k = 3) := fun z => hw.elim (fun y => y.2) (fun y => absurd (y.1.symm.trans z) (by decide))
      refine r_iload_n (i := 0) hX dX5_stepOn_188 rfl (RR.pc (b := 189) rfl ?_)
      refine r_if_eq (tgt := 204) hX dX5_stepOn_189 rfl (fun h189 => ?_) (fun h189 => RR.pc (b := 192) rfl ?_)
      · refine r_iconst (v := 0) hX dX5_stepOn_204 (by decide) (RR.pc (b := 205) rfl ?_)
        refine r_istore_n hX dX5_stepOn_205 (by decide) (RR.pc (b := 206) rfl ?_)
        refine r_iload_n (i := 0) hX dX5_stepOn_206 rfl (RR.pc (b := 207) rfl ?_)
        refine r_if_ne (tgt := 231) hX dX5_stepOn_207 rfl (fun h207 => ?_) (fun h207 => RR.pc (b := 210) rfl ?_)
        · refine r_aload_n hX dX5_stepOn_231 rfl ⟨_, rfl⟩ (RR.pc (b := 232) rfl ?_)
          refine r_iconst (v := 4) hX dX5_stepOn_232 (by decide) (RR.pc (b := 233) rfl ?_)
          refine r_puti hX dX5_stepOn_233 fl_X5_23 (by first | rfl | assumption) rfl ft_5_4 (RR.pc (b := 236) rfl ?_)
          exact r_vret hX hZ dX5_stepOn_236 ⟨rfl, (by first | exact absurd h207 (by decide) | exact absurd rfl h207 | exact fin4 (Or.inl ⟨k23 h189, (nI_eq (by omega) (by omega)).mp h197⟩) | exact fin4 (Or.inr ⟨(nI_eq (b := 3) (by omega) (by omega)).mp h215, by rw [show (4 : Int32) = nI 4 from rfl, nI_leI (by omega) (by omega)] at h228; omega⟩) | (refine finK (fun c => c.elim (fun z => ?_) (fun z => ?_)); (first | exact k0 h189 z.1 | exact h197 (by rw [z.2])); (first | exact h215 (by rw [z.1]; rfl) | (rw [show (4 : Int32) = nI 4 from rfl, nI_leI (by omega) (by omega)] at h228; omega))))⟩
        · refine r_aload_n hX dX5_stepOn_210 rfl ⟨_, rfl⟩ (RR.pc (b := 211) rfl ?_)
          refine r_geti hX dX5_stepOn_211 fl_X5_23 (by first | rfl | assumption) rfl (RR.pc (b := 214) rfl ?_)
          rw [r2]
          refine r_iconst (v := 3) hX dX5_stepOn_214 (by decide) (RR.pc (b := 215) rfl ?_)
          refine r_icmp_ne (tgt := 236) hX dX5_stepOn_215 rfl (fun h215 => ?_) (fun h215 => RR.pc (b := 218) rfl ?_)
          · exact r_vret hX hZ dX5_stepOn_236 ⟨rfl, (by first | exact absurd h207 (by decide) | exact absurd rfl h207 | exact fin4 (Or.inl ⟨k23 h189, (nI_eq (by omega) (by omega)).mp h197⟩) | exact fin4 (Or.inr ⟨(nI_eq (b := 3) (by omega) (by omega)).mp h215, by rw [show (4 : Int32) = nI 4 from rfl, nI_leI (by omega) (by omega)] at h228; omega⟩) | (refine finK (fun c => c.elim (fun z => ?_) (fun z => ?_)); (first | exact k0 h189 z.1 | exact h197 (by rw [z.2])); (first | exact h215 (by rw [z.1]; rfl) | (rw [show (4 : Int32) = nI 4 from rfl, nI_leI (by omega) (by omega)] at h228; omega))))⟩
          · refine r_aload_n hX dX5_stepOn_218 rfl ⟨_, rfl⟩ (RR.pc (b := 219) rfl ?_)
            refine r_geti hX dX5_stepOn_219 fl_X5_19 (by first | rfl | assumption) rfl (RR.pc (b := 222) rfl ?_)
            rw [r1]
            refine r_aload_n hX dX5_stepOn_222 rfl ⟨_, rfl⟩ (RR.pc (b := 223) rfl ?_)
            refine r_geti hX dX5_stepOn_223 fl_X5_61 (by first | rfl | assumption) rfl (RR.pc (b := 226) rfl ?_)
            rw [r0]
            refine r_isub hX dX5_stepOn_226 (RR.pc (b := 227) rfl ?_)
            rw [pk_sub (by omega)]
            refine r_iconst (v := 4) hX dX5_stepOn_227 (by decide) (RR.pc (b := 228) rfl ?_)
            refine r_icmp_le (tgt := 236) hX dX5_stepOn_228 rfl (fun h228 => ?_) (fun h228 => RR.pc (b := 231) rfl ?_)
            · exact r_vret hX hZ dX5_stepOn_236 ⟨rfl, (by first | exact absurd h207 (by decide) | exact absurd rfl h207 | exact fin4 (Or.inl ⟨k23 h189, (nI_eq (by omega) (by omega)).mp h197⟩) | exact fin4 (Or.inr ⟨(nI_eq (b := 3) (by omega) (by omega)).mp h215, by rw [show (4 : Int32) = nI 4 from rfl, nI_leI (by omega) (by omega)] at h228; omega⟩) | (refine finK (fun c => c.elim (fun z => ?_) (fun z => ?_)); (first | exact k0 h189 z.1 | exact h197 (by rw [z.2])); (first | exact h215 (by rw [z.1]; rfl) | (rw [show (4 : Int32) = nI 4 from rfl, nI_leI (by omega) (by omega)] at h228; omega))))⟩
            · refine r_aload_n hX dX5_stepOn_231 rfl ⟨_, rfl⟩ (RR.pc (b := 232) rfl ?_)
              refine r_iconst (v := 4) hX dX5_stepOn_232 (by decide) (RR.pc (b := 233) rfl ?_)
              refine r_puti hX dX5_stepOn_233 fl_X5_23 (by first | rfl | assumption) rfl ft_5_4 (RR.pc (b := 236) rfl ?_)
              exact r_vret hX hZ dX5_stepOn_236 ⟨rfl, (by first | exact absurd h207 (by decide) | exact absurd rfl h207 | exact fin4 (Or.inl ⟨k23 h189, (nI_eq (by omega) (by omega)).mp h197⟩) | exact fin4 (Or.inr ⟨(nI_eq (b := 3) (by omega) (by omega)).mp h215, by rw [show (4 : Int32) = nI 4 from rfl, nI_leI (by omega) (by omega)] at h228; omega⟩) | (refine finK (fun c => c.elim (fun z => ?_) (fun z => ?_)); (first | exact k0 h189 z.1 | exact h197 (by rw [z.2])); (first | exact h215 (by rw [z.1]; rfl) | (rw [show (4 : Int32) = nI 4 from rfl, nI_leI (by omega) (by omega)] at h228; omega))))⟩
      · refine r_aload_n hX dX5_stepOn_192 rfl ⟨_, rfl⟩ (RR.pc (b := 193) rfl ?_)
        refine r_geti hX dX5_stepOn_193 fl_X5_61 (by first | rfl | assumption) rfl (RR.pc (b := 196) rfl ?_)
        rw [r0]
        refine r_iload_n (i := 0) hX dX5_stepOn_196 rfl (RR.pc (b := 197) rfl ?_)
        refine r_icmp_ne (tgt := 204) hX dX5_stepOn_197 rfl (fun h197 => ?_) (fun h197 => RR.pc (b := 200) rfl ?_)
        · refine r_iconst (v := 0) hX dX5_stepOn_204 (by decide) (RR.pc (b := 205) rfl ?_)
          refine r_istore_n hX dX5_stepOn_205 (by decide) (RR.pc (b := 206) rfl ?_)
          refine r_iload_n (i := 0) hX dX5_stepOn_206 rfl (RR.pc (b := 207) rfl ?_)
          refine r_if_ne (tgt := 231) hX dX5_stepOn_207 rfl (fun h207 => ?_) (fun h207 => RR.pc (b := 210) rfl ?_)
          · refine r_aload_n hX dX5_stepOn_231 rfl ⟨_, rfl⟩ (RR.pc (b := 232) rfl ?_)
            refine r_iconst (v := 4) hX dX5_stepOn_232 (by decide) (RR.pc (b := 233) rfl ?_)
            refine r_puti hX dX5_stepOn_233 fl_X5_23 (by first | rfl | assumption) rfl ft_5_4 (RR.pc (b := 236) rfl ?_)
            exact r_vret hX hZ dX5_stepOn_236 ⟨rfl, (by first | exact absurd h207 (by decide) | exact absurd rfl h207 | exact fin4 (Or.inl ⟨k23 h189, (nI_eq (by omega) (by omega)).mp h197⟩) | exact fin4 (Or.inr ⟨(nI_eq (b := 3) (by omega) (by omega)).mp h215, by rw [show (4 : Int32) = nI 4 from rfl, nI_leI (by omega) (by omega)] at h228; omega⟩) | (refine finK (fun c => c.elim (fun z => ?_) (fun z => ?_)); (first | exact k0 h189 z.1 | exact h197 (by rw [z.2])); (first | exact h215 (by rw [z.1]; rfl) | (rw [show (4 : Int32) = nI 4 from rfl, nI_leI (by omega) (by omega)] at h228; omega))))⟩
          · refine r_aload_n hX dX5_stepOn_210 rfl ⟨_, rfl⟩ (RR.pc (b := 211) rfl ?_)
            refine r_geti hX dX5_stepOn_211 fl_X5_23 (by first | rfl | assumption) rfl (RR.pc (b := 214) rfl ?_)
            rw [r2]
            refine r_iconst (v := 3) hX dX5_stepOn_214 (by decide) (RR.pc (b := 215) rfl ?_)
            refine r_icmp_ne (tgt := 236) hX dX5_stepOn_215 rfl (fun h215 => ?_) (fun h215 => RR.pc (b := 218) rfl ?_)
            · exact r_vret hX hZ dX5_stepOn_236 ⟨rfl, (by first | exact absurd h207 (by decide) | exact absurd rfl h207 | exact fin4 (Or.inl ⟨k23 h189, (nI_eq (by omega) (by omega)).mp h197⟩) | exact fin4 (Or.inr ⟨(nI_eq (b := 3) (by omega) (by omega)).mp h215, by rw [show (4 : Int32) = nI 4 from rfl, nI_leI (by omega) (by omega)] at h228; omega⟩) | (refine finK (fun c => c.elim (fun z => ?_) (fun z => ?_)); (first | exact k0 h189 z.1 | exact h197 (by rw [z.2])); (first | exact h215 (by rw [z.1]; rfl) | (rw [show (4 : Int32) = nI 4 from rfl, nI_leI (by omega) (by omega)] at h228; omega))))⟩
            · refine r_aload_n hX dX5_stepOn_218 rfl ⟨_, rfl⟩ (RR.pc (b := 219) rfl ?_)
              refine r_geti hX dX5_stepOn_219 fl_X5_19 (by first | rfl | assumption) rfl (RR.pc (b := 222) rfl ?_)
              rw [r1]
              refine r_aload_n hX dX5_stepOn_222 rfl ⟨_, rfl⟩ (RR.pc (b := 223) rfl ?_)
              refine r_geti hX dX5_stepOn_223 fl_X5_61 (by first | rfl | assumption) rfl (RR.pc (b := 226) rfl ?_)
              rw [r0]
              refine r_isub hX dX5_stepOn_226 (RR.pc (b := 227) rfl ?_)
              rw [pk_sub (by omega)]
              refine r_iconst (v := 4) hX dX5_stepOn_227 (by decide) (RR.pc (b := 228) rfl ?_)
              refine r_icmp_le (tgt := 236) hX dX5_stepOn_228 rfl (fun h228 => ?_) (fun h228 => RR.pc (b := 231) rfl ?_)
              · exact r_vret hX hZ dX5_stepOn_236 ⟨rfl, (by first | exact absurd h207 (by decide) | exact absurd rfl h207 | exact fin4 (Or.inl ⟨k23 h189, (nI_eq (by omega) (by omega)).mp h197⟩) | exact fin4 (Or.inr ⟨(nI_eq (b := 3) (by omega) (by omega)).mp h215, by rw [show (4 : Int32) = nI 4 from rfl, nI_leI (by omega) (by omega)] at h228; omega⟩) | (refine finK (fun c => c.elim (fun z => ?_) (fun z => ?_)); (first | exact k0 h189 z.1 | exact h197 (by rw [z.2])); (first | exact h215 (by rw [z.1]; rfl) | (rw [show (4 : Int32) = nI 4 from rfl, nI_leI (by omega) (by omega)] at h228; omega))))⟩
              · refine r_aload_n hX dX5_stepOn_231 rfl ⟨_, rfl⟩ (RR.pc (b := 232) rfl ?_)
                refine r_iconst (v := 4) hX dX5_stepOn_232 (by decide) (RR.pc (b := 233) rfl ?_)
                refine r_puti hX dX5_stepOn_233 fl_X5_23 (by first | rfl | assumption) rfl ft_5_4 (RR.pc (b := 236) rfl ?_)
                exact r_vret hX hZ dX5_stepOn_236 ⟨rfl, (by first | exact absurd h207 (by decide) | exact absurd rfl h207 | exact fin4 (Or.inl ⟨k23 h189, (nI_eq (by omega) (by omega)).mp h197⟩) | exact fin4 (Or.inr ⟨(nI_eq (b := 3) (by omega) (by omega)).mp h215, by rw [show (4 : Int32) = nI 4 from rfl, nI_leI (by omega) (by omega)] at h228; omega⟩) | (refine finK (fun c => c.elim (fun z => ?_) (fun z => ?_)); (first | exact k0 h189 z.1 | exact h197 (by rw [z.2])); (first | exact h215 (by rw [z.1]; rfl) | (rw [show (4 : Int32) = nI 4 from rfl, nI_leI (by omega) (by omega)] at h228; omega))))⟩
        · refine r_iconst (v := 1) hX dX5_stepOn_200 (by decide) (RR.pc (b := 201) rfl ?_)
          refine r_goto (tgt := 205) hX dX5_stepOn_201 rfl ?_
          refine r_istore_n hX dX5_stepOn_205 (by decide) (RR.pc (b := 206) rfl ?_)
          refine r_iload_n (i := 0) hX dX5_stepOn_206 rfl (RR.pc (b := 207) rfl ?_)
          refine r_if_ne (tgt := 231) hX dX5_stepOn_207 rfl (fun h207 => ?_) (fun h207 => RR.pc (b := 210) rfl ?_)
          · refine r_aload_n hX dX5_stepOn_231 rfl ⟨_, rfl⟩ (RR.pc (b := 232) rfl ?_)
            refine r_iconst (v := 4) hX dX5_stepOn_232 (by decide) (RR.pc (b := 233) rfl ?_)
            refine r_puti hX dX5_stepOn_233 fl_X5_23 (by first | rfl | assumption) rfl ft_5_4 (RR.pc (b := 236) rfl ?_)
            exact r_vret hX hZ dX5_stepOn_236 ⟨rfl, (by first | exact absurd h207 (by decide) | exact absurd rfl h207 | exact fin4 (Or.inl ⟨k23 h189, (nI_eq (by omega) (by omega)).mp h197⟩) | exact fin4 (Or.inr ⟨(nI_eq (b := 3) (by omega) (by omega)).mp h215, by rw [show (4 : Int32) = nI 4 from rfl, nI_leI (by omega) (by omega)] at h228; omega⟩) | (refine finK (fun c => c.elim (fun z => ?_) (fun z => ?_)); (first | exact k0 h189 z.1 | exact h197 (by rw [z.2])); (first | exact h215 (by rw [z.1]; rfl) | (rw [show (4 : Int32) = nI 4 from rfl, nI_leI (by omega) (by omega)] at h228; omega))))⟩
          · refine r_aload_n hX dX5_stepOn_210 rfl ⟨_, rfl⟩ (RR.pc (b := 211) rfl ?_)
            refine r_geti hX dX5_stepOn_211 fl_X5_23 (by first | rfl | assumption) rfl (RR.pc (b := 214) rfl ?_)
            rw [r2]
            refine r_iconst (v := 3) hX dX5_stepOn_214 (by decide) (RR.pc (b := 215) rfl ?_)
            refine r_icmp_ne (tgt := 236) hX dX5_stepOn_215 rfl (fun h215 => ?_) (fun h215 => RR.pc (b := 218) rfl ?_)
            · exact r_vret hX hZ dX5_stepOn_236 ⟨rfl, (by first | exact absurd h207 (by decide) | exact absurd rfl h207 | exact fin4 (Or.inl ⟨k23 h189, (nI_eq (by omega) (by omega)).mp h197⟩) | exact fin4 (Or.inr ⟨(nI_eq (b := 3) (by omega) (by omega)).mp h215, by rw [show (4 : Int32) = nI 4 from rfl, nI_leI (by omega) (by omega)] at h228; omega⟩) | (refine finK (fun c => c.elim (fun z => ?_) (fun z => ?_)); (first | exact k0 h189 z.1 | exact h197 (by rw [z.2])); (first | exact h215 (by rw [z.1]; rfl) | (rw [show (4 : Int32) = nI 4 from rfl, nI_leI (by omega) (by omega)] at h228; omega))))⟩
            · refine r_aload_n hX dX5_stepOn_218 rfl ⟨_, rfl⟩ (RR.pc (b := 219) rfl ?_)
              refine r_geti hX dX5_stepOn_219 fl_X5_19 (by first | rfl | assumption) rfl (RR.pc (b := 222) rfl ?_)
              rw [r1]
              refine r_aload_n hX dX5_stepOn_222 rfl ⟨_, rfl⟩ (RR.pc (b := 223) rfl ?_)
              refine r_geti hX dX5_stepOn_223 fl_X5_61 (by first | rfl | assumption) rfl (RR.pc (b := 226) rfl ?_)
              rw [r0]
              refine r_isub hX dX5_stepOn_226 (RR.pc (b := 227) rfl ?_)
              rw [pk_sub (by omega)]
              refine r_iconst (v := 4) hX dX5_stepOn_227 (by decide) (RR.pc (b := 228) rfl ?_)
              refine r_icmp_le (tgt := 236) hX dX5_stepOn_228 rfl (fun h228 => ?_) (fun h228 => RR.pc (b := 231) rfl ?_)
              · exact r_vret hX hZ dX5_stepOn_236 ⟨rfl, (by first | exact absurd h207 (by decide) | exact absurd rfl h207 | exact fin4 (Or.inl ⟨k23 h189, (nI_eq (by omega) (by omega)).mp h197⟩) | exact fin4 (Or.inr ⟨(nI_eq (b := 3) (by omega) (by omega)).mp h215, by rw [show (4 : Int32) = nI 4 from rfl, nI_leI (by omega) (by omega)] at h228; omega⟩) | (refine finK (fun c => c.elim (fun z => ?_) (fun z => ?_)); (first | exact k0 h189 z.1 | exact h197 (by rw [z.2])); (first | exact h215 (by rw [z.1]; rfl) | (rw [show (4 : Int32) = nI 4 from rfl, nI_leI (by omega) (by omega)] at h228; omega))))⟩
              · refine r_aload_n hX dX5_stepOn_231 rfl ⟨_, rfl⟩ (RR.pc (b := 232) rfl ?_)
                refine r_iconst (v := 4) hX dX5_stepOn_232 (by decide) (RR.pc (b := 233) rfl ?_)
                refine r_puti hX dX5_stepOn_233 fl_X5_23 (by first | rfl | assumption) rfl ft_5_4 (RR.pc (b := 236) rfl ?_)
                exact r_vret hX hZ dX5_stepOn_236 ⟨rfl, (by first | exact absurd h207 (by decide) | exact absurd rfl h207 | exact fin4 (Or.inl ⟨k23 h189, (nI_eq (by omega) (by omega)).mp h197⟩) | exact fin4 (Or.inr ⟨(nI_eq (b := 3) (by omega) (by omega)).mp h215, by rw [show (4 : Int32) = nI 4 from rfl, nI_leI (by omega) (by omega)] at h228; omega⟩) | (refine finK (fun c => c.elim (fun z => ?_) (fun z => ?_)); (first | exact k0 h189 z.1 | exact h197 (by rw [z.2])); (first | exact h215 (by rw [z.1]; rfl) | (rw [show (4 : Int32) = nI 4 from rfl, nI_leI (by omega) (by omega)] at h228; omega))))⟩
    have t75 : ∀ τ : SG, τ 6 0 = nI b → same [6] σ τ → RR X G 4 75 (ll [(0, rf G 33), (1, .int w), (2, .int (nI e))]) [] τ := by
      intro τ r0 hs
      have hTt : TP τ tp L := hT.same (hs 5 (by decide))
      refine r_aload_n hX dX5_stepOn_75 rfl ⟨_, rfl⟩ (RR.pc (b := 76) rfl ?_)
      refine r_aload_n hX dX5_stepOn_76 rfl ⟨_, rfl⟩ (RR.pc (b := 77) rfl ?_)
      refine r_getr hX dX5_stepOn_77 fl_X5_9 (by first | rfl | assumption) rfl (RR.pc (b := 80) rfl ?_)
      refine r_aload_n hX dX5_stepOn_80 rfl ⟨_, rfl⟩ (RR.pc (b := 81) rfl ?_)
      refine r_geti hX dX5_stepOn_81 fl_X5_61 (by first | rfl | assumption) rfl (RR.pc (b := 84) rfl ?_)
      rw [r0]
      refine r_callVie hX dX5_stepOn_84 ml_X5_64 cd_X3_byteAt iv_X3_byteAt (c_X3_byteAt (p := b) hTt (by omega)) (by decide) (by first | rfl | assumption) rfl rfl rfl rfl (Nat.le_of_ble_eq_true rfl) (RR.pc (b := 87) rfl ?_)
      refine r_callSie hX dX5_stepOn_87 ml_X5_112 cd_X5_sortOf st_X5_sortOf c_X5_sortOf (by decide) rfl rfl (Nat.le_of_ble_eq_true rfl) (RR.pc (b := 90) rfl ?_)
      by_cases hbL : b < L
      · rw [if_pos hbL, if_neg (bt b hbL)]
        have s3 := so_lt (v := tp b)
        refine r_puti hX dX5_stepOn_90 fl_X5_23 (by first | rfl | assumption) rfl ft_5_4 (RR.pc (b := 93) rfl ?_)
        refine r_aload_n hX dX5_stepOn_93 rfl ⟨_, rfl⟩ (RR.pc (b := 94) rfl ?_)
        refine r_aload_n hX dX5_stepOn_94 rfl ⟨_, rfl⟩ (RR.pc (b := 95) rfl ?_)
        refine r_geti hX dX5_stepOn_95 fl_X5_61 (by first | rfl | assumption) rfl (RR.pc (b := 98) rfl ?_)
        rw [su_eq, pk_un (by decide), r0]
        refine r_aload_n hX dX5_stepOn_98 rfl ⟨_, rfl⟩ (RR.pc (b := 99) rfl ?_)
        refine r_getr hX dX5_stepOn_99 fl_X5_9 (by first | rfl | assumption) rfl (RR.pc (b := 102) rfl ?_)
        refine r_geti hX dX5_stepOn_102 fl_X5_109 (by first | rfl | assumption) rfl (RR.pc (b := 105) rfl ?_)
        rw [su_ne (by decide), hTt.2.1]
        refine r_icmp_ge (tgt := 117) hX dX5_stepOn_105 rfl (fun h105 => absurd h105 (nI_ge hbL (by omega))) (fun h105 => RR.pc (b := 108) rfl ?_)
        refine r_aload_n hX dX5_stepOn_108 rfl ⟨_, rfl⟩ (RR.pc (b := 109) rfl ?_)
        refine r_geti hX dX5_stepOn_109 fl_X5_61 (by first | rfl | assumption) rfl (RR.pc (b := 112) rfl ?_)
        rw [su_eq, pk_un (by decide), r0]
        refine r_iconst (v := 1) hX dX5_stepOn_112 (by decide) (RR.pc (b := 113) rfl ?_)
        refine r_iadd hX dX5_stepOn_113 (RR.pc (b := 114) rfl ?_)
        refine r_goto (tgt := 121) hX dX5_stepOn_114 rfl ?_
        rw [nI_1]
        refine r_puti hX dX5_stepOn_121 fl_X5_19 (by first | rfl | assumption) rfl ft_5_3 (RR.pc (b := 124) rfl ?_)
        refine r_aload_n hX dX5_stepOn_124 rfl ⟨_, rfl⟩ (RR.pc (b := 125) rfl ?_)
        refine r_geti hX dX5_stepOn_125 fl_X5_23 (by first | rfl | assumption) rfl (RR.pc (b := 128) rfl ?_)
        rw [su_eq, su_eq, pk_un (by decide), pk_us]
        refine r_iconst (v := 1) hX dX5_stepOn_128 (by decide) (RR.pc (b := 129) rfl ?_)
        by_cases hs1 : so (tp b) = 1
        · have eE : tkE tp L b = b + 1 := by unfold tkE; rw [if_pos hbL, if_pos hs1]
          have eK : tkK tp L k e b = 1 := by unfold tkK; rw [if_pos hbL, if_pos hs1]
          rw [hs1]
          refine r_icmp_eq (tgt := 139) hX dX5_stepOn_129 rfl (fun _ => ?_) (fun h => absurd rfl h)
          exact r_vret hX hZ dX5_stepOn_139 ⟨rfl, ⟨by rw [eE, eK]; exact ⟨by rw [su_eq, su_eq, pk_un (by decide), pk_un (by decide)]; exact r0, by rw [su_eq, pk_us], by rw [su_eq, su_eq, pk_un (by decide), pk_us]⟩, (hs.su (by simp)).su (by simp)⟩⟩
        · refine r_icmp_eq (tgt := 139) hX dX5_stepOn_129 rfl (fun h => absurd ((nI_eq (b := 1) (by omega) (by omega)).mp h) hs1) (fun _ => RR.pc (b := 132) rfl ?_)
          refine r_aload_n hX dX5_stepOn_132 rfl ⟨_, rfl⟩ (RR.pc (b := 133) rfl ?_)
          refine r_geti hX dX5_stepOn_133 fl_X5_23 (by first | rfl | assumption) rfl (RR.pc (b := 136) rfl ?_)
          rw [su_eq, su_eq, pk_un (by decide), pk_us]
          refine r_if_ne (tgt := 140) hX dX5_stepOn_136 rfl (fun _ => ?_) (fun h => absurd h (nI_ne0 (by omega) (by omega)))
          have eE : tkE tp L b = rn tp (like (tp b)) L (b + 1) := by unfold tkE; rw [if_pos hbL, if_neg hs1]
          have loop := loopK L (fun p => b < p → tkE tp L b = rn tp (like (tp b)) L p → ∀ τ : SG, RS τ (so (tp b)) b p → same [6] σ τ → RR X G 4 140 (ll [(0, rf G 33), (1, .int w), (2, .int (nI e))]) [] τ) (by
            intro p hp ih hbp hE τ hR hs
            obtain ⟨r0, r1, r2⟩ := hR
            have hTt : TP τ tp L := hT.same (hs 5 (by decide))
            refine r_aload_n hX dX5_stepOn_140 rfl ⟨_, rfl⟩ (RR.pc (b := 141) rfl ?_)
            refine r_geti hX dX5_stepOn_141 fl_X5_19 (by first | rfl | assumption) rfl (RR.pc (b := 144) rfl ?_)
            rw [r1]
            refine r_aload_n hX dX5_stepOn_144 rfl ⟨_, rfl⟩ (RR.pc (b := 145) rfl ?_)
            refine r_getr hX dX5_stepOn_145 fl_X5_9 (by first | rfl | assumption) rfl (RR.pc (b := 148) rfl ?_)
            refine r_geti hX dX5_stepOn_148 fl_X5_109 (by first | rfl | assumption) rfl (RR.pc (b := 151) rfl ?_)
            rw [hTt.2.1]
            refine r_icmp_ge (tgt := 188) hX dX5_stepOn_151 rfl (fun h151 => ?_) (fun h151 => RR.pc (b := 154) rfl ?_)
            · have hpL : p = L := by rw [nI_leI (by omega) (by omega)] at h151; omega
              rw [rn_no (by omega)] at hE
              exact RR.cut (t188 τ hbL hs1 ⟨r0, by rw [hE]; exact r1, r2⟩ hs) (List.forall_mem_cons.mpr ⟨rfl, List.forall_mem_cons.mpr ⟨rfl, List.forall_mem_cons.mpr ⟨rfl, fun _ h => absurd h List.not_mem_nil⟩⟩⟩)
            · have hpL : p < L := by rw [nI_leI (by omega) (by omega)] at h151; omega
              have s4 := so_lt (v := tp p)
              refine r_aload_n hX dX5_stepOn_154 rfl ⟨_, rfl⟩ (RR.pc (b := 155) rfl ?_)
              refine r_getr hX dX5_stepOn_155 fl_X5_9 (by first | rfl | assumption) rfl (RR.pc (b := 158) rfl ?_)
              refine r_aload_n hX dX5_stepOn_158 rfl ⟨_, rfl⟩ (RR.pc (b := 159) rfl ?_)
              refine r_geti hX dX5_stepOn_159 fl_X5_19 (by first | rfl | assumption) rfl (RR.pc (b := 162) rfl ?_)
              rw [r1]
              refine r_callVie hX dX5_stepOn_162 ml_X5_64 cd_X3_byteAt iv_X3_byteAt (c_X3_byteAt (p := p) hTt (by omega)) (by decide) (by first | rfl | assumption) rfl rfl rfl rfl (Nat.le_of_ble_eq_true rfl) (RR.pc (b := 165) rfl ?_)
              refine r_callSie hX dX5_stepOn_165 ml_X5_112 cd_X5_sortOf st_X5_sortOf c_X5_sortOf (by decide) rfl rfl (Nat.le_of_ble_eq_true rfl) (RR.pc (b := 168) rfl ?_)
              refine r_aload_n hX dX5_stepOn_168 rfl ⟨_, rfl⟩ (RR.pc (b := 169) rfl ?_)
              refine r_geti hX dX5_stepOn_169 fl_X5_23 (by first | rfl | assumption) rfl (RR.pc (b := 172) rfl ?_)
              rw [if_pos hpL, if_neg (bt p hpL), r2]
              refine r_icmp_ne (tgt := 188) hX dX5_stepOn_172 rfl (fun h172 => ?_) (fun h172 => RR.pc (b := 175) rfl ?_)
              · rw [rn_no (fun z => h172 (by have := z.2; unfold like at this; rw [of_decide_eq_true this]))] at hE
                exact RR.cut (t188 τ hbL hs1 ⟨r0, by rw [hE]; exact r1, r2⟩ hs) (List.forall_mem_cons.mpr ⟨rfl, List.forall_mem_cons.mpr ⟨rfl, List.forall_mem_cons.mpr ⟨rfl, fun _ h => absurd h List.not_mem_nil⟩⟩⟩)
              · rw [rn_go hpL (by unfold like; exact decide_eq_true ((nI_eq (by omega) (by omega)).mp h172))] at hE
                refine r_aload_n hX dX5_stepOn_175 rfl ⟨_, rfl⟩ (RR.pc (b := 176) rfl ?_)
                refine r_dup hX dX5_stepOn_176 rfl (RR.pc (b := 177) rfl ?_)
                refine r_geti hX dX5_stepOn_177 fl_X5_19 (by first | rfl | assumption) rfl (RR.pc (b := 180) rfl ?_)
                rw [r1]
                refine r_iconst (v := 1) hX dX5_stepOn_180 (by decide) (RR.pc (b := 181) rfl ?_)
                refine r_iadd hX dX5_stepOn_181 (RR.pc (b := 182) rfl ?_)
                rw [nI_1]
                refine r_puti hX dX5_stepOn_182 fl_X5_19 (by first | rfl | assumption) rfl ft_5_3 (RR.pc (b := 185) rfl ?_)
                refine r_goto (tgt := 140) hX dX5_stepOn_185 rfl ?_
                exact RR.cut (ih hpL (by omega) hE _ ⟨by rw [su_eq, pk_un (by decide)]; exact r0, by rw [su_eq, pk_us], by rw [su_eq, pk_un (by decide)]; exact r2⟩ (hs.su (by simp))) (List.forall_mem_cons.mpr ⟨rfl, List.forall_mem_cons.mpr ⟨rfl, List.forall_mem_cons.mpr ⟨rfl, fun _ h => absurd h List.not_mem_nil⟩⟩⟩)
            )
          exact RR.cut (loop (b + 1) (by omega) (by omega) eE _ ⟨by rw [su_eq, su_eq, pk_un (by decide), pk_un (by decide)]; exact r0, by rw [su_eq, pk_us], by rw [su_eq, su_eq, pk_un (by decide), pk_us]⟩ ((hs.su (by simp)).su (by simp))) (List.forall_mem_cons.mpr ⟨rfl, List.forall_mem_cons.mpr ⟨rfl, List.forall_mem_cons.mpr ⟨rfl, fun _ h => absurd h List.not_mem_nil⟩⟩⟩)
      · rw [if_neg hbL, if_pos (show (-1 : Int32) < 0 by decide)]
        have eE : tkE tp L b = b := by unfold tkE; rw [if_neg hbL]
        have eK : tkK tp L k e b = 0 := by unfold tkK; rw [if_neg hbL]
        refine r_puti hX dX5_stepOn_90 fl_X5_23 (by first | rfl | assumption) rfl ft_5_4 (RR.pc (b := 93) rfl ?_)
        refine r_aload_n hX dX5_stepOn_93 rfl ⟨_, rfl⟩ (RR.pc (b := 94) rfl ?_)
        refine r_aload_n hX dX5_stepOn_94 rfl ⟨_, rfl⟩ (RR.pc (b := 95) rfl ?_)
        refine r_geti hX dX5_stepOn_95 fl_X5_61 (by first | rfl | assumption) rfl (RR.pc (b := 98) rfl ?_)
        rw [su_eq, pk_un (by decide), r0]
        refine r_aload_n hX dX5_stepOn_98 rfl ⟨_, rfl⟩ (RR.pc (b := 99) rfl ?_)
        refine r_getr hX dX5_stepOn_99 fl_X5_9 (by first | rfl | assumption) rfl (RR.pc (b := 102) rfl ?_)
        refine r_geti hX dX5_stepOn_102 fl_X5_109 (by first | rfl | assumption) rfl (RR.pc (b := 105) rfl ?_)
        rw [su_ne (by decide), hTt.2.1]
        refine r_icmp_ge (tgt := 117) hX dX5_stepOn_105 rfl (fun h105 => ?_) (fun h105 => absurd (nI_le (by omega) (by omega)) h105)
        refine r_aload_n hX dX5_stepOn_117 rfl ⟨_, rfl⟩ (RR.pc (b := 118) rfl ?_)
        refine r_geti hX dX5_stepOn_118 fl_X5_61 (by first | rfl | assumption) rfl (RR.pc (b := 121) rfl ?_)
        rw [su_eq, pk_un (show (0 : Nat) ≠ 2 by decide), r0]
        refine r_puti hX dX5_stepOn_121 fl_X5_19 (by first | rfl | assumption) rfl ft_5_3 (RR.pc (b := 124) rfl ?_)
        refine r_aload_n hX dX5_stepOn_124 rfl ⟨_, rfl⟩ (RR.pc (b := 125) rfl ?_)
        refine r_geti hX dX5_stepOn_125 fl_X5_23 (by first | rfl | assumption) rfl (RR.pc (b := 128) rfl ?_)
        rw [su_eq, su_eq, pk_un (by decide), pk_us]
        refine r_iconst (v := 1) hX dX5_stepOn_128 (by decide) (RR.pc (b := 129) rfl ?_)
        refine r_icmp_eq (tgt := 139) hX dX5_stepOn_129 rfl (fun h129 => absurd h129 (by decide)) (fun h129 => RR.pc (b := 132) rfl ?_)
        refine r_aload_n hX dX5_stepOn_132 rfl ⟨_, rfl⟩ (RR.pc (b := 133) rfl ?_)
        refine r_geti hX dX5_stepOn_133 fl_X5_23 (by first | rfl | assumption) rfl (RR.pc (b := 136) rfl ?_)
        rw [su_eq, su_eq, pk_un (by decide), pk_us]
        refine r_if_ne (tgt := 140) hX dX5_stepOn_136 rfl (fun h136 => absurd rfl h136) (fun h136 => RR.pc (b := 139) rfl ?_)
        exact r_vret hX hZ dX5_stepOn_139 ⟨rfl, ⟨by rw [eE, eK]; exact ⟨by rw [su_eq, su_eq, pk_un (by decide), pk_un (by decide)]; exact r0, by rw [su_eq, pk_us], by rw [su_eq, su_eq, pk_un (by decide), pk_us]; rfl⟩, (hs.su (by simp)).su (by simp)⟩⟩
    have loop := loopK L (fun p => e ≤ p → b = rn tp blk L p → ∀ τ : SG, τ 6 0 = nI p → same [6] σ τ → RR X G 4 32 (ll [(0, rf G 33), (1, .int w), (2, .int (nI e))]) [] τ) (by
      intro p hp ih hep hbp τ r0 hs
      have hTt : TP τ tp L := hT.same (hs 5 (by decide))
      refine r_aload_n hX dX5_stepOn_32 rfl ⟨_, rfl⟩ (RR.pc (b := 33) rfl ?_)
      refine r_geti hX dX5_stepOn_33 fl_X5_61 (by first | rfl | assumption) rfl (RR.pc (b := 36) rfl ?_)
      rw [r0]
      refine r_aload_n hX dX5_stepOn_36 rfl ⟨_, rfl⟩ (RR.pc (b := 37) rfl ?_)
      refine r_getr hX dX5_stepOn_37 fl_X5_9 (by first | rfl | assumption) rfl (RR.pc (b := 40) rfl ?_)
      refine r_geti hX dX5_stepOn_40 fl_X5_109 (by first | rfl | assumption) rfl (RR.pc (b := 43) rfl ?_)
      rw [hTt.2.1]
      refine r_icmp_ge (tgt := 75) hX dX5_stepOn_43 rfl (fun h43 => ?_) (fun h43 => RR.pc (b := 46) rfl ?_)
      · have hpL : p = L := by rw [nI_leI (by omega) (by omega)] at h43; omega
        rw [rn_no (by omega)] at hbp
        exact RR.cut (t75 τ (by rw [hbp]; exact r0) hs) (List.forall_mem_cons.mpr ⟨rfl, List.forall_mem_cons.mpr ⟨rfl, List.forall_mem_cons.mpr ⟨rfl, fun _ h => absurd h List.not_mem_nil⟩⟩⟩)
      · have hpL : p < L := by rw [nI_leI (by omega) (by omega)] at h43; omega
        refine r_aload_n hX dX5_stepOn_46 rfl ⟨_, rfl⟩ (RR.pc (b := 47) rfl ?_)
        refine r_getr hX dX5_stepOn_47 fl_X5_9 (by first | rfl | assumption) rfl (RR.pc (b := 50) rfl ?_)
        refine r_aload_n hX dX5_stepOn_50 rfl ⟨_, rfl⟩ (RR.pc (b := 51) rfl ?_)
        refine r_geti hX dX5_stepOn_51 fl_X5_61 (by first | rfl | assumption) rfl (RR.pc (b := 54) rfl ?_)
        rw [r0]
        refine r_callVie hX dX5_stepOn_54 ml_X5_64 cd_X3_byteAt iv_X3_byteAt (c_X3_byteAt (p := p) hTt (by omega)) (by decide) (by first | rfl | assumption) rfl rfl rfl rfl (Nat.le_of_ble_eq_true rfl) (RR.pc (b := 57) rfl ?_)
        refine r_bipush (v := 32) hX dX5_stepOn_57 (by decide) (RR.pc (b := 59) rfl ?_)
        rw [if_pos hpL]
        refine r_icmp_ne (tgt := 75) hX dX5_stepOn_59 rfl (fun h59 => ?_) (fun h59 => RR.pc (b := 62) rfl ?_)
        · rw [rn_no (fun z => h59 (by have := z.2; unfold blk at this; exact of_decide_eq_true this))] at hbp
          exact RR.cut (t75 τ (by rw [hbp]; exact r0) hs) (List.forall_mem_cons.mpr ⟨rfl, List.forall_mem_cons.mpr ⟨rfl, List.forall_mem_cons.mpr ⟨rfl, fun _ h => absurd h List.not_mem_nil⟩⟩⟩)
        · rw [rn_go hpL (by unfold blk; exact decide_eq_true h59)] at hbp
          refine r_aload_n hX dX5_stepOn_62 rfl ⟨_, rfl⟩ (RR.pc (b := 63) rfl ?_)
          refine r_dup hX dX5_stepOn_63 rfl (RR.pc (b := 64) rfl ?_)
          refine r_geti hX dX5_stepOn_64 fl_X5_61 (by first | rfl | assumption) rfl (RR.pc (b := 67) rfl ?_)
          rw [r0]
          refine r_iconst (v := 1) hX dX5_stepOn_67 (by decide) (RR.pc (b := 68) rfl ?_)
          refine r_iadd hX dX5_stepOn_68 (RR.pc (b := 69) rfl ?_)
          rw [nI_1]
          refine r_puti hX dX5_stepOn_69 fl_X5_61 (by first | rfl | assumption) rfl ft_5_1 (RR.pc (b := 72) rfl ?_)
          refine r_goto (tgt := 32) hX dX5_stepOn_72 rfl ?_
          exact RR.cut (ih hpL (by omega) hbp _ (by rw [su_eq, pk_us]) (hs.su (by simp))) (List.forall_mem_cons.mpr ⟨rfl, List.forall_mem_cons.mpr ⟨rfl, List.forall_mem_cons.mpr ⟨rfl, fun _ h => absurd h List.not_mem_nil⟩⟩⟩)
      )
    refine r_istore_n hX dX5_stepOn_21 (by decide) (RR.pc (b := 22) rfl ?_)
    refine r_aload_n hX dX5_stepOn_22 rfl ⟨_, rfl⟩ (RR.pc (b := 23) rfl ?_)
    refine r_geti hX dX5_stepOn_23 fl_X5_19 (by first | rfl | assumption) rfl (RR.pc (b := 26) rfl ?_)
    rw [h1]
    refine r_istore_n hX dX5_stepOn_26 (by decide) (RR.pc (b := 27) rfl ?_)
    refine r_aload_n hX dX5_stepOn_27 rfl ⟨_, rfl⟩ (RR.pc (b := 28) rfl ?_)
    refine r_iload_n (i := 0) hX dX5_stepOn_28 rfl (RR.pc (b := 29) rfl ?_)
    refine r_puti hX dX5_stepOn_29 fl_X5_61 (by first | rfl | assumption) rfl ft_5_1 (RR.pc (b := 32) rfl ?_)
    exact RR.cut (loop e he (Nat.le_refl _) hb.symm _ (by rw [su_eq, pk_us]) (same.rf.su (by simp))) (List.forall_mem_cons.mpr ⟨rfl, List.forall_mem_cons.mpr ⟨rfl, List.forall_mem_cons.mpr ⟨rfl, fun _ h => absurd h List.not_mem_nil⟩⟩⟩)
  refine r_aload_n hX dX5_stepOn_0 rfl ⟨_, rfl⟩ (RR.pc (b := 1) rfl ?_)
  refine r_geti hX dX5_stepOn_1 fl_X5_23 (by first | rfl | assumption) rfl (RR.pc (b := 4) rfl ?_)
  rw [h2]
  refine r_iconst (v := 2) hX dX5_stepOn_4 (by decide) (RR.pc (b := 5) rfl ?_)
  refine r_icmp_eq (tgt := 16) hX dX5_stepOn_5 rfl (fun h5 => ?_) (fun h5 => RR.pc (b := 8) rfl ?_)
  · refine r_iconst (v := 1) hX dX5_stepOn_16 (by decide) (RR.pc (b := 17) rfl ?_)
    refine r_goto (tgt := 21) hX dX5_stepOn_17 rfl ?_
    first | exact RR.cut (t21 1 (Or.inr ⟨rfl, Or.inl ((nI_eq (b := 2) (by omega) (by omega)).mp h5)⟩)) (List.forall_mem_cons.mpr ⟨rfl, fun _ h => absurd h List.not_mem_nil⟩) | exact RR.cut (t21 1 (Or.inr ⟨rfl, Or.inr ((nI_eq (b := 3) (by omega) (by omega)).mp h13)⟩)) (List.forall_mem_cons.mpr ⟨rfl, fun _ h => absurd h List.not_mem_nil⟩) | exact RR.cut (t21 0 (Or.inl ⟨rfl, fun z => z.elim (fun y => h5 (by rw [y]; rfl)) (fun y => h13 (by rw [y]; rfl))⟩)) (List.forall_mem_cons.mpr ⟨rfl, fun _ h => absurd h List.not_mem_nil⟩)
  · refine r_aload_n hX dX5_stepOn_8 rfl ⟨_, rfl⟩ (RR.pc (b := 9) rfl ?_)
    refine r_geti hX dX5_stepOn_9 fl_X5_23 (by first | rfl | assumption) rfl (RR.pc (b := 12) rfl ?_)
    rw [h2]
    refine r_iconst (v := 3) hX dX5_stepOn_12 (by decide) (RR.pc (b := 13) rfl ?_)
    refine r_icmp_ne (tgt := 20) hX dX5_stepOn_13 rfl (fun h13 => ?_) (fun h13 => RR.pc (b := 16) rfl ?_)
    · refine r_iconst (v := 0) hX dX5_stepOn_20 (by decide) (RR.pc (b := 21) rfl ?_)
      first | exact RR.cut (t21 1 (Or.inr ⟨rfl, Or.inl ((nI_eq (b := 2) (by omega) (by omega)).mp h5)⟩)) (List.forall_mem_cons.mpr ⟨rfl, fun _ h => absurd h List.not_mem_nil⟩) | exact RR.cut (t21 1 (Or.inr ⟨rfl, Or.inr ((nI_eq (b := 3) (by omega) (by omega)).mp h13)⟩)) (List.forall_mem_cons.mpr ⟨rfl, fun _ h => absurd h List.not_mem_nil⟩) | exact RR.cut (t21 0 (Or.inl ⟨rfl, fun z => z.elim (fun y => h5 (by rw [y]; rfl)) (fun y => h13 (by rw [y]; rfl))⟩)) (List.forall_mem_cons.mpr ⟨rfl, fun _ h => absurd h List.not_mem_nil⟩)
    · refine r_iconst (v := 1) hX dX5_stepOn_16 (by decide) (RR.pc (b := 17) rfl ?_)
      refine r_goto (tgt := 21) hX dX5_stepOn_17 rfl ?_
      first | exact RR.cut (t21 1 (Or.inr ⟨rfl, Or.inl ((nI_eq (b := 2) (by omega) (by omega)).mp h5)⟩)) (List.forall_mem_cons.mpr ⟨rfl, fun _ h => absurd h List.not_mem_nil⟩) | exact RR.cut (t21 1 (Or.inr ⟨rfl, Or.inr ((nI_eq (b := 3) (by omega) (by omega)).mp h13)⟩)) (List.forall_mem_cons.mpr ⟨rfl, fun _ h => absurd h List.not_mem_nil⟩) | exact RR.cut (t21 0 (Or.inl ⟨rfl, fun z => z.elim (fun y => h5 (by rw [y]; rfl)) (fun y => h13 (by rw [y]; rfl))⟩)) (List.forall_mem_cons.mpr ⟨rfl, fun _ h => absurd h List.not_mem_nil⟩)
