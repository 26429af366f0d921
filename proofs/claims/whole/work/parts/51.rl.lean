/-! the reference: levels, pieces -/
def LvR (G : GM) (tp : Nat → Int32) (L : Nat) (key : Int32) (a c : Nat) (y : MethodName) (cc : ByteArray) (nL f : Nat) : Prop := ∀ (o n : Nat) (st : St) (σ : SG), o ≤ 8 → n ≤ 8 → VS tp L st → st.2.2.2.2.length ≤ st.2.1 → 13 * (L - st.2.1) + (6 - c) < f → PSR tp L a o n σ st → CI G y cc nL (some .boolean) (dpt o n + (5 - c)) [rf G 109, .int key] σ (PQR tp L a o n σ (ps tp L key f c o n st))
def LpR (G : GM) (tp : Nat → Int32) (L : Nat) (key : Int32) (a c : Nat) (cc : ByteArray) (nL f : Nat) : Prop := ∀ (X : CX) (o n : Nat) (st : St) (σ σ0 : SG), Fx X G RX8 cc nL (dpt o n + (5 - c)) → MZ X G (some .boolean) (fun v s => ∃ r, v = some (.int r) ∧ PQR tp L a o n σ0 (ps tp L key f (c + 6) o n st) r s) → o ≤ 8 → n ≤ 8 → VS tp L st → st.2.2.2.2.length ≤ st.2.1 → 13 * (L - st.2.1) < f → PSR tp L a o n σ st → PFR a σ0 σ → RR X G nL 10 (ll [(0, rf G 109), (1, .int key)]) [] σ
theorem PSR.dp {tp : Nat → Int32} {L a o n v : Nat} {σ : SG} {st : St} (h : PSR tp L a o n σ st) : PSR tp L a v n (su σ 38 7 (nI v)) st := by
  have := h.on (p := 7) (v := v) (Or.inl rfl)
  rwa [if_pos rfl, if_neg (by decide)] at this
theorem PSR.tn {tp : Nat → Int32} {L a o n v : Nat} {σ : SG} {st : St} (h : PSR tp L a o n σ st) : PSR tp L a o v (su σ 38 8 (nI v)) st := by
  have := h.on (p := 8) (v := v) (Or.inr rfl)
  rwa [if_pos rfl, if_neg (by decide)] at this
theorem nmK_ne0 {key v : Int32} (h : v ∈ nmK key) : ¬ v = 0 := by
  unfold nmK at h
  intro e
  subst e
  split at h
  · exact absurd h (by decide)
  · split at h
    · exact absurd h (by decide)
    · exact absurd h (by decide)
set_option maxHeartbeats 4000000 in
set_option maxRecDepth 100000 in
theorem ptR_step {G : GM} {tp : Nat → Int32} {L : Nat} {key : Int32} {a f o n : Nat} {st : St} {σ : SG} (iE : LvR G tp L key a 0 yX8_either cX8_either 2 f) (iP : LvR G tp L key a 5 yX8_part0 cX8_part0 2 f) (ha : a ≤ 2971) (ho : o ≤ 8) (hn : n ≤ 8) (hV : VS tp L st) (hl : st.2.2.2.2.length ≤ st.2.1) (hm : 13 * (L - st.2.1) + (6 - 5) < f + 1) (h : PSR tp L a o n σ st) : CI G yX8_part0 cX8_part0 2 (some .boolean) (dpt o n + (5 - 5)) [rf G 109, .int key] σ (PQR tp L a o n σ (ps tp L key (f + 1) 5 o n st)) := by
  refine Con.of cd_X8_part0 (Nat.le_of_ble_eq_true rfl) ?_
  intro X hX hZ
  have hX : Fx X G RX8 cX8_part0 2 (dpt o n + (5 - 5)) := hX
  show RR X G 2 0 (ll [(0, rf G 109), (1, .int key)]) [] σ
  have h96 := h.1.1
  have hdq : 10 ≤ dpt o n := by unfold dpt; omega
  have heL := hV.2.1
  have hk4 := hV.2.2.1
  have hb := hV.2.2.2.2.1
  obtain ⟨q0, q1, q2, q3, q4⟩ := tkR_le st.1 hk4
  obtain ⟨g1, g2⟩ := nx_VS (tp := tp) (L := L) (st := st) hV.2.1
  have g3 := g1.1
  rw [ps_pc] at hZ
  have t145 : ¬ st.1 = 3 → (st.1 = 2 → ¬ (st.2.2.1 - st.2.1 = 1 ∧ tp st.2.1 ∈ nmK key)) → (st.1 = 1 ∧ tp st.2.1 = 33 → ¬ n < 8) → RR X G 2 145 (ll [(0, rf G 109), (1, .int key)]) [] σ := by
    intro k3 k2n k33
    by_cases hc : st.1 = 1 ∧ tp st.2.1 = 40
    · have hb1 := hb (by omega)
      have no33 : ¬ (st.1 = 1 ∧ tp st.2.1 = 33) := fun z => absurd (z.2.symm.trans hc.2) (by decide)
      rw [if_neg k3, if_neg (by omega), if_neg no33, if_pos hc] at hZ
      by_cases o8 : o < 8
      · rw [if_pos o8] at hZ
        have hdp : dpt (o + 1) n + (5 - 0) + 1 ≤ dpt o n + (5 - 5) := by unfold dpt; omega
        have hok := ps_ok (tp := tp) (L := L) (key := key) f 0 (o + 1) n (nx tp L st)
        have iE1 := fun s => iE (o + 1) n (nx tp L st) s (by omega) hn g1 (by show st.2.2.2.2.length ≤ _; omega) (by omega)
        generalize ps tp L key f 0 (o + 1) n (nx tp L st) = R at hZ hok iE1
        refine r_aload_n hX dX8_part0_145 rfl ⟨_, rfl⟩ (RR.pc (b := 146) rfl ?_)
        refine r_bipush (v := 40) hX dX8_part0_146 (by decide) (RR.pc (b := 148) rfl ?_)
        refine r_callVie hX dX8_part0_148 ml_X8_230 cd_X8_isSign iv_X8_isSign (c_X8_isSign h.2.1 hk4) (by omega) (by first | rfl | assumption) rfl rfl rfl rfl (Nat.le_of_ble_eq_true rfl) (RR.pc (b := 151) rfl ?_)
        refine r_if_eq_b (tgt := 163) hX dX8_part0_151 rfl (fun h151 => absurd hc h151) (fun h151 => RR.pc (b := 154) rfl ?_)
        refine r_aload_n hX dX8_part0_154 rfl ⟨_, rfl⟩ (RR.pc (b := 155) rfl ?_)
        refine r_geti hX dX8_part0_155 fl_X8_261 (by first | rfl | assumption) rfl (RR.pc (b := 158) rfl ?_)
        rw [h.2.2.1]
        refine r_bipush (v := 8) hX dX8_part0_158 (by decide) (RR.pc (b := 160) rfl ?_)
        refine r_icmp_ne (tgt := 165) hX dX8_part0_160 rfl (fun h160 => ?_) (fun h160 => absurd h160 (fun z => by have := (nI_eq (b := 8) (by omega) (by omega)).mp z; omega))
        refine r_aload_n hX dX8_part0_165 rfl ⟨_, rfl⟩ (RR.pc (b := 166) rfl ?_)
        refine r_dup hX dX8_part0_166 rfl (RR.pc (b := 167) rfl ?_)
        refine r_geti hX dX8_part0_167 fl_X8_261 (by first | rfl | assumption) rfl (RR.pc (b := 170) rfl ?_)
        rw [h.2.2.1]
        refine r_iconst (v := 1) hX dX8_part0_170 (by decide) (RR.pc (b := 171) rfl ?_)
        refine r_iadd hX dX8_part0_171 (RR.pc (b := 172) rfl ?_)
        rw [nI_1]
        refine r_puti hX dX8_part0_172 fl_X8_261 (by first | rfl | assumption) rfl ft_8_20 (RR.pc (b := 175) rfl ?_)
        refine r_aload_n hX dX8_part0_175 rfl ⟨_, rfl⟩ (RR.pc (b := 176) rfl ?_)
        refine r_callVv hX dX8_part0_176 ml_X8_233 cd_X8_nextToken iv_X8_nextToken (c_nxt (o := o + 1) (st := st) h.dp hV) (by omega) (by first | rfl | assumption) rfl rfl rfl rfl (Nat.le_of_ble_eq_true rfl) (fun s_176 e_176 => RR.pc (b := 179) rfl ?_)
        obtain ⟨hp, hpf⟩ := e_176
        refine r_aload_n hX dX8_part0_179 rfl ⟨_, rfl⟩ (RR.pc (b := 180) rfl ?_)
        refine r_iload_n (i := 0) hX dX8_part0_180 rfl (RR.pc (b := 181) rfl ?_)
        refine r_callVi hX dX8_part0_181 ml_X8_264 cd_X8_either iv_X8_either (iE1 _ hp) (by omega) (by first | rfl | assumption) rfl rfl rfl rfl (Nat.le_of_ble_eq_true rfl) (fun r_181 s_181 e_181 => RR.pc (b := 184) rfl ?_)
        obtain ⟨rfl, hq, hpf2, hyes⟩ := e_181
        refine r_if_eq_b (tgt := 196) hX dX8_part0_184 rfl (fun h184 => ?_) (fun h184 => RR.pc (b := 187) rfl ?_)
        · refine r_iconst (v := 0) hX dX8_part0_196 (by decide) (RR.pc (b := 197) rfl ?_)
          exact r_zret hX hZ dX8_part0_197 (by first | rfl | exact nar_bz _) ⟨_, rfl, (by first | (rw [if_neg h184]; exact ⟨rfl, hq, ((PFR.s38 (by decide) (by decide) (by decide)).tr hpf).tr hpf2, fun z => absurd z (by simp)⟩) | (rw [if_pos h184, if_neg h193]; exact ⟨rfl, hq, ((PFR.s38 (by decide) (by decide) (by decide)).tr hpf).tr hpf2, fun z => absurd z (by simp)⟩))⟩
        · have hp2 := hyes h184
          have hok1 := hok R.2 (by omega) g1 (by rw [← h184])
          refine r_aload_n hX dX8_part0_187 rfl ⟨_, rfl⟩ (RR.pc (b := 188) rfl ?_)
          refine r_bipush (v := 41) hX dX8_part0_188 (by decide) (RR.pc (b := 190) rfl ?_)
          refine r_callVie hX dX8_part0_190 ml_X8_230 cd_X8_isSign iv_X8_isSign (c_X8_isSign hp2.2.1 hok1.1.2.2.1) (by omega) (by first | rfl | assumption) rfl rfl rfl rfl (Nat.le_of_ble_eq_true rfl) (RR.pc (b := 193) rfl ?_)
          refine r_if_ne_b (tgt := 198) hX dX8_part0_193 rfl (fun h193 => ?_) (fun h193 => RR.pc (b := 196) rfl ?_)
          · refine r_aload_n hX dX8_part0_198 rfl ⟨_, rfl⟩ (RR.pc (b := 199) rfl ?_)
            refine r_dup hX dX8_part0_199 rfl (RR.pc (b := 200) rfl ?_)
            refine r_geti hX dX8_part0_200 fl_X8_261 (by first | rfl | assumption) rfl (RR.pc (b := 203) rfl ?_)
            rw [hp2.2.2.1]
            refine r_iconst (v := 1) hX dX8_part0_203 (by decide) (RR.pc (b := 204) rfl ?_)
            refine r_isub hX dX8_part0_204 (RR.pc (b := 205) rfl ?_)
            rw [nI_pred]
            refine r_puti hX dX8_part0_205 fl_X8_261 (by first | rfl | assumption) rfl ft_8_20 (RR.pc (b := 208) rfl ?_)
            refine r_aload_n hX dX8_part0_208 rfl ⟨_, rfl⟩ (RR.pc (b := 209) rfl ?_)
            refine r_callVv hX dX8_part0_209 ml_X8_233 cd_X8_nextToken iv_X8_nextToken (c_nxt (o := o) (st := R.2) hp2.dp hok1.1) (by omega) (by first | rfl | assumption) rfl rfl rfl rfl (Nat.le_of_ble_eq_true rfl) (fun s_209 e_209 => RR.pc (b := 212) rfl ?_)
            obtain ⟨hp3, hpf3⟩ := e_209
            refine r_iconst (v := 1) hX dX8_part0_212 (by decide) (RR.pc (b := 213) rfl ?_)
            exact r_zret hX hZ dX8_part0_213 (by first | rfl | exact nar_bz _) ⟨_, rfl, (by rw [if_pos h184, if_pos h193]; exact ⟨rfl, hp3.2.1.1, (((PFR.s38 (by decide) (by decide) (by decide)).tr hpf).tr hpf2).tr ((PFR.s38 (by decide) (by decide) (by decide)).tr hpf3), fun _ => hp3⟩)⟩
          · refine r_iconst (v := 0) hX dX8_part0_196 (by decide) (RR.pc (b := 197) rfl ?_)
            exact r_zret hX hZ dX8_part0_197 (by first | rfl | exact nar_bz _) ⟨_, rfl, (by first | (rw [if_neg h184]; exact ⟨rfl, hq, ((PFR.s38 (by decide) (by decide) (by decide)).tr hpf).tr hpf2, fun z => absurd z (by simp)⟩) | (rw [if_pos h184, if_neg h193]; exact ⟨rfl, hq, ((PFR.s38 (by decide) (by decide) (by decide)).tr hpf).tr hpf2, fun z => absurd z (by simp)⟩))⟩
      · rw [if_neg o8] at hZ
        refine r_aload_n hX dX8_part0_145 rfl ⟨_, rfl⟩ (RR.pc (b := 146) rfl ?_)
        refine r_bipush (v := 40) hX dX8_part0_146 (by decide) (RR.pc (b := 148) rfl ?_)
        refine r_callVie hX dX8_part0_148 ml_X8_230 cd_X8_isSign iv_X8_isSign (c_X8_isSign h.2.1 hk4) (by omega) (by first | rfl | assumption) rfl rfl rfl rfl (Nat.le_of_ble_eq_true rfl) (RR.pc (b := 151) rfl ?_)
        refine r_if_eq_b (tgt := 163) hX dX8_part0_151 rfl (fun h151 => absurd hc h151) (fun h151 => RR.pc (b := 154) rfl ?_)
        refine r_aload_n hX dX8_part0_154 rfl ⟨_, rfl⟩ (RR.pc (b := 155) rfl ?_)
        refine r_geti hX dX8_part0_155 fl_X8_261 (by first | rfl | assumption) rfl (RR.pc (b := 158) rfl ?_)
        rw [h.2.2.1, show o = 8 by omega]
        refine r_bipush (v := 8) hX dX8_part0_158 (by decide) (RR.pc (b := 160) rfl ?_)
        refine r_icmp_ne (tgt := 165) hX dX8_part0_160 rfl (fun h160 => absurd rfl h160) (fun h160 => RR.pc (b := 163) rfl ?_)
        refine r_iconst (v := 0) hX dX8_part0_163 (by decide) (RR.pc (b := 164) rfl ?_)
        exact r_zret hX hZ dX8_part0_164 (by first | rfl | exact nar_bz _) ⟨_, rfl, ⟨rfl, h.2.1.1, PFR.rf, fun z => absurd z (by simp)⟩⟩
    · have eF : (if st.1 = 3 then (true, nx tp L (addLf st (0, numF tp st.2.1 (st.2.2.1 - st.2.1)))) else if st.1 = 2 then (if st.2.2.1 - st.2.1 = 1 ∧ tp st.2.1 ∈ nmK key then (true, nx tp L (addLf st (1, tp st.2.1))) else (false, st)) else if st.1 = 1 ∧ tp st.2.1 = 33 then (if n < 8 then (if (ps tp L key f 5 o (n + 1) (nx tp L st)).1 = true then (true, addSg (ps tp L key f 5 o (n + 1) (nx tp L st)).2 33) else (false, (ps tp L key f 5 o (n + 1) (nx tp L st)).2)) else (false, st)) else if st.1 = 1 ∧ tp st.2.1 = 40 then (if o < 8 then (if (ps tp L key f 0 (o + 1) n (nx tp L st)).1 = true then (if (ps tp L key f 0 (o + 1) n (nx tp L st)).2.1 = 1 ∧ tp (ps tp L key f 0 (o + 1) n (nx tp L st)).2.2.1 = 41 then (true, nx tp L (ps tp L key f 0 (o + 1) n (nx tp L st)).2) else (false, (ps tp L key f 0 (o + 1) n (nx tp L st)).2)) else (false, (ps tp L key f 0 (o + 1) n (nx tp L st)).2)) else (false, st)) else (false, st)) = (false, st) := by
        rw [if_neg k3]
        by_cases k2 : st.1 = 2
        · rw [if_pos k2, if_neg (k2n k2)]
        · rw [if_neg k2]
          by_cases kk : st.1 = 1 ∧ tp st.2.1 = 33
          · rw [if_pos kk, if_neg (k33 kk)]
          · rw [if_neg kk, if_neg hc]
      rw [eF] at hZ
      refine r_aload_n hX dX8_part0_145 rfl ⟨_, rfl⟩ (RR.pc (b := 146) rfl ?_)
      refine r_bipush (v := 40) hX dX8_part0_146 (by decide) (RR.pc (b := 148) rfl ?_)
      refine r_callVie hX dX8_part0_148 ml_X8_230 cd_X8_isSign iv_X8_isSign (c_X8_isSign h.2.1 hk4) (by omega) (by first | rfl | assumption) rfl rfl rfl rfl (Nat.le_of_ble_eq_true rfl) (RR.pc (b := 151) rfl ?_)
      refine r_if_eq_b (tgt := 163) hX dX8_part0_151 rfl (fun h151 => ?_) (fun h151 => absurd h151 hc)
      refine r_iconst (v := 0) hX dX8_part0_163 (by decide) (RR.pc (b := 164) rfl ?_)
      exact r_zret hX hZ dX8_part0_164 (by first | rfl | exact nar_bz _) ⟨_, rfl, ⟨rfl, h.2.1.1, PFR.rf, fun z => absurd z (by simp)⟩⟩
  have t84 : ¬ st.1 = 3 → (st.1 = 2 → ¬ (st.2.2.1 - st.2.1 = 1 ∧ tp st.2.1 ∈ nmK key)) → RR X G 2 84 (ll [(0, rf G 109), (1, .int key)]) [] σ := by
    intro k3 k2n
    by_cases hc : (st.1 = 1 ∧ tp st.2.1 = 33) ∧ n < 8
    · have hb1 := hb (by omega)
      rw [if_neg k3, if_neg (by omega), if_pos hc.1, if_pos hc.2] at hZ
      have n8 := hc.2
      have hdp : dpt o (n + 1) + (5 - 5) + 1 ≤ dpt o n + (5 - 5) := by unfold dpt; omega
      have hok := ps_ok (tp := tp) (L := L) (key := key) f 5 o (n + 1) (nx tp L st)
      have iP1 := fun s => iP o (n + 1) (nx tp L st) s ho (by omega) g1 (by show st.2.2.2.2.length ≤ _; omega) (by omega)
      generalize ps tp L key f 5 o (n + 1) (nx tp L st) = R at hZ hok iP1
      refine r_aload_n hX dX8_part0_84 rfl ⟨_, rfl⟩ (RR.pc (b := 85) rfl ?_)
      refine r_bipush (v := 33) hX dX8_part0_85 (by decide) (RR.pc (b := 87) rfl ?_)
      refine r_callVie hX dX8_part0_87 ml_X8_230 cd_X8_isSign iv_X8_isSign (c_X8_isSign h.2.1 hk4) (by omega) (by first | rfl | assumption) rfl rfl rfl rfl (Nat.le_of_ble_eq_true rfl) (RR.pc (b := 90) rfl ?_)
      refine r_if_eq_b (tgt := 145) hX dX8_part0_90 rfl (fun h90 => absurd hc.1 h90) (fun h90 => RR.pc (b := 93) rfl ?_)
      refine r_aload_n hX dX8_part0_93 rfl ⟨_, rfl⟩ (RR.pc (b := 94) rfl ?_)
      refine r_geti hX dX8_part0_94 fl_X8_258 (by first | rfl | assumption) rfl (RR.pc (b := 97) rfl ?_)
      rw [h.2.2.2.1]
      refine r_bipush (v := 8) hX dX8_part0_97 (by decide) (RR.pc (b := 99) rfl ?_)
      refine r_icmp_ge (tgt := 145) hX dX8_part0_99 rfl (fun h99 => absurd h99 (nI_ge (b := 8) n8 (by omega))) (fun h99 => RR.pc (b := 102) rfl ?_)
      refine r_aload_n hX dX8_part0_102 rfl ⟨_, rfl⟩ (RR.pc (b := 103) rfl ?_)
      refine r_dup hX dX8_part0_103 rfl (RR.pc (b := 104) rfl ?_)
      refine r_geti hX dX8_part0_104 fl_X8_258 (by first | rfl | assumption) rfl (RR.pc (b := 107) rfl ?_)
      rw [h.2.2.2.1]
      refine r_iconst (v := 1) hX dX8_part0_107 (by decide) (RR.pc (b := 108) rfl ?_)
      refine r_iadd hX dX8_part0_108 (RR.pc (b := 109) rfl ?_)
      rw [nI_1]
      refine r_puti hX dX8_part0_109 fl_X8_258 (by first | rfl | assumption) rfl ft_8_21 (RR.pc (b := 112) rfl ?_)
      refine r_aload_n hX dX8_part0_112 rfl ⟨_, rfl⟩ (RR.pc (b := 113) rfl ?_)
      refine r_callVv hX dX8_part0_113 ml_X8_233 cd_X8_nextToken iv_X8_nextToken (c_nxt (n := n + 1) (st := st) h.tn hV) (by omega) (by first | rfl | assumption) rfl rfl rfl rfl (Nat.le_of_ble_eq_true rfl) (fun s_113 e_113 => RR.pc (b := 116) rfl ?_)
      obtain ⟨hp, hpf⟩ := e_113
      refine r_aload_n hX dX8_part0_116 rfl ⟨_, rfl⟩ (RR.pc (b := 117) rfl ?_)
      refine r_iload_n (i := 0) hX dX8_part0_117 rfl (RR.pc (b := 118) rfl ?_)
      refine r_callVi hX dX8_part0_118 ml_X8_249 cd_X8_part0 iv_X8_part0 (iP1 _ hp) (by omega) (by first | rfl | assumption) rfl rfl rfl rfl (Nat.le_of_ble_eq_true rfl) (fun r_118 s_118 e_118 => RR.pc (b := 121) rfl ?_)
      obtain ⟨rfl, hq, hpf2, hyes⟩ := e_118
      refine r_if_ne_b (tgt := 126) hX dX8_part0_121 rfl (fun h121 => ?_) (fun h121 => RR.pc (b := 124) rfl ?_)
      · have hp2 := hyes h121
        have hok1 := hok R.2 (by omega) g1 (by rw [← h121])
        have hl1 := hok1.2.len (by show st.2.2.2.2.length ≤ _; omega)
        have hl2 : R.2.2.2.2.2.length + (nx tp L st).2.1 ≤ st.2.2.2.2.length + R.2.2.1 := hl1.2
        have hv1 := hok1.1.1
        refine r_aload_n hX dX8_part0_126 rfl ⟨_, rfl⟩ (RR.pc (b := 127) rfl ?_)
        refine r_dup hX dX8_part0_127 rfl (RR.pc (b := 128) rfl ?_)
        refine r_geti hX dX8_part0_128 fl_X8_258 (by first | rfl | assumption) rfl (RR.pc (b := 131) rfl ?_)
        rw [hp2.2.2.2.1]
        refine r_iconst (v := 1) hX dX8_part0_131 (by decide) (RR.pc (b := 132) rfl ?_)
        refine r_isub hX dX8_part0_132 (RR.pc (b := 133) rfl ?_)
        rw [nI_pred]
        refine r_puti hX dX8_part0_133 fl_X8_258 (by first | rfl | assumption) rfl ft_8_21 (RR.pc (b := 136) rfl ?_)
        refine r_aload_n hX dX8_part0_136 rfl ⟨_, rfl⟩ (RR.pc (b := 137) rfl ?_)
        refine r_iconst (v := 2) hX dX8_part0_137 (by decide) (RR.pc (b := 138) rfl ?_)
        refine r_bipush (v := 33) hX dX8_part0_138 (by decide) (RR.pc (b := 140) rfl ?_)
        refine r_callVv hX dX8_part0_140 ml_X8_236 cd_X8_step iv_X8_step (c_stp (n := n) (st := R.2) hp2.tn (by omega) ha) (by omega) (by first | rfl | assumption) rfl rfl rfl rfl (Nat.le_of_ble_eq_true rfl) (fun s_140 e_140 => RR.pc (b := 143) rfl ?_)
        obtain ⟨hp3, hpf3⟩ := e_140
        refine r_iconst (v := 1) hX dX8_part0_143 (by decide) (RR.pc (b := 144) rfl ?_)
        exact r_zret hX hZ dX8_part0_144 (by first | rfl | exact nar_bz _) ⟨_, rfl, (by rw [if_pos h121]; exact ⟨rfl, hp3.2.1.1, (((PFR.s38 (by decide) (by decide) (by decide)).tr hpf).tr hpf2).tr ((PFR.s38 (by decide) (by decide) (by decide)).tr hpf3), fun _ => hp3⟩)⟩
      · refine r_iconst (v := 0) hX dX8_part0_124 (by decide) (RR.pc (b := 125) rfl ?_)
        exact r_zret hX hZ dX8_part0_125 (by first | rfl | exact nar_bz _) ⟨_, rfl, (by rw [if_neg h121]; exact ⟨rfl, hq, ((PFR.s38 (by decide) (by decide) (by decide)).tr hpf).tr hpf2, fun z => absurd z (by simp)⟩)⟩
    · skip
      refine r_aload_n hX dX8_part0_84 rfl ⟨_, rfl⟩ (RR.pc (b := 85) rfl ?_)
      refine r_bipush (v := 33) hX dX8_part0_85 (by decide) (RR.pc (b := 87) rfl ?_)
      refine r_callVie hX dX8_part0_87 ml_X8_230 cd_X8_isSign iv_X8_isSign (c_X8_isSign h.2.1 hk4) (by omega) (by first | rfl | assumption) rfl rfl rfl rfl (Nat.le_of_ble_eq_true rfl) (RR.pc (b := 90) rfl ?_)
      refine r_if_eq_b (tgt := 145) hX dX8_part0_90 rfl (fun h90 => ?_) (fun h90 => RR.pc (b := 93) rfl ?_)
      · exact RR.cut (t145 k3 k2n (fun z y => hc ⟨z, y⟩)) (List.forall_mem_cons.mpr ⟨rfl, List.forall_mem_cons.mpr ⟨rfl, fun _ h => absurd h List.not_mem_nil⟩⟩)
      · refine r_aload_n hX dX8_part0_93 rfl ⟨_, rfl⟩ (RR.pc (b := 94) rfl ?_)
        refine r_geti hX dX8_part0_94 fl_X8_258 (by first | rfl | assumption) rfl (RR.pc (b := 97) rfl ?_)
        rw [h.2.2.2.1]
        refine r_bipush (v := 8) hX dX8_part0_97 (by decide) (RR.pc (b := 99) rfl ?_)
        refine r_icmp_ge (tgt := 145) hX dX8_part0_99 rfl (fun h99 => ?_) (fun h99 => absurd (nI_le (a := 8) (by have : ¬ n < 8 := fun z => hc ⟨h90, z⟩; omega) (by omega)) h99)
        exact RR.cut (t145 k3 k2n (fun z y => hc ⟨z, y⟩)) (List.forall_mem_cons.mpr ⟨rfl, List.forall_mem_cons.mpr ⟨rfl, fun _ h => absurd h List.not_mem_nil⟩⟩)
  refine r_aload_n hX dX8_part0_0 rfl ⟨_, rfl⟩ (RR.pc (b := 1) rfl ?_)
  refine r_geti hX dX8_part0_1 fl_X8_199 (by first | rfl | assumption) rfl (RR.pc (b := 4) rfl ?_)
  rw [h.2.1.2.2.1]
  refine r_iconst (v := 2) hX dX8_part0_4 (by decide) (RR.pc (b := 5) rfl ?_)
  refine r_icmp_ne (tgt := 33) hX dX8_part0_5 rfl (fun h5 => ?_) (fun h5 => RR.pc (b := 8) rfl ?_)
  · have k3 : ¬ st.1 = 3 := fun z => h5 (by rw [q3.mpr z]; rfl)
    refine r_aload_n hX dX8_part0_33 rfl ⟨_, rfl⟩ (RR.pc (b := 34) rfl ?_)
    refine r_geti hX dX8_part0_34 fl_X8_199 (by first | rfl | assumption) rfl (RR.pc (b := 37) rfl ?_)
    rw [h.2.1.2.2.1]
    refine r_iconst (v := 1) hX dX8_part0_37 (by decide) (RR.pc (b := 38) rfl ?_)
    refine r_icmp_ne (tgt := 84) hX dX8_part0_38 rfl (fun h38 => ?_) (fun h38 => RR.pc (b := 41) rfl ?_)
    · first | exact RR.cut (t84 k3 (fun z => absurd (show nI (tkR st.1) = 1 by rw [q2.mpr z]; rfl) h38)) (List.forall_mem_cons.mpr ⟨rfl, List.forall_mem_cons.mpr ⟨rfl, fun _ h => absurd h List.not_mem_nil⟩⟩) | exact RR.cut (t84 k3 (fun _ z => by rw [if_pos z.1] at h45; exact nmK_ne0 z.2 h45)) (List.forall_mem_cons.mpr ⟨rfl, List.forall_mem_cons.mpr ⟨rfl, fun _ h => absurd h List.not_mem_nil⟩⟩) | exact RR.cut (t84 k3 (fun _ z => by rw [if_pos z.1] at h56; exact h56 z.2)) (List.forall_mem_cons.mpr ⟨rfl, List.forall_mem_cons.mpr ⟨rfl, fun _ h => absurd h List.not_mem_nil⟩⟩)
    · have k2 : st.1 = 2 := q2.mp ((nI_eq (b := 1) (by omega) (by omega)).mp h38)
      have hb2 := hb (by omega)
      have hlet := h.2.1.2.2.2.2.1 k2
      refine r_aload_n hX dX8_part0_41 rfl ⟨_, rfl⟩ (RR.pc (b := 42) rfl ?_)
      refine r_geti hX dX8_part0_42 fl_X8_208 (by first | rfl | assumption) rfl (RR.pc (b := 45) rfl ?_)
      rw [hlet]
      refine r_if_eq (tgt := 84) hX dX8_part0_45 rfl (fun h45 => ?_) (fun h45 => RR.pc (b := 48) rfl ?_)
      · first | exact RR.cut (t84 k3 (fun z => absurd (show nI (tkR st.1) = 1 by rw [q2.mpr z]; rfl) h38)) (List.forall_mem_cons.mpr ⟨rfl, List.forall_mem_cons.mpr ⟨rfl, fun _ h => absurd h List.not_mem_nil⟩⟩) | exact RR.cut (t84 k3 (fun _ z => by rw [if_pos z.1] at h45; exact nmK_ne0 z.2 h45)) (List.forall_mem_cons.mpr ⟨rfl, List.forall_mem_cons.mpr ⟨rfl, fun _ h => absurd h List.not_mem_nil⟩⟩) | exact RR.cut (t84 k3 (fun _ z => by rw [if_pos z.1] at h56; exact h56 z.2)) (List.forall_mem_cons.mpr ⟨rfl, List.forall_mem_cons.mpr ⟨rfl, fun _ h => absurd h List.not_mem_nil⟩⟩)
      · refine r_iload_n (i := 0) hX dX8_part0_48 rfl (RR.pc (b := 49) rfl ?_)
        refine r_aload_n hX dX8_part0_49 rfl ⟨_, rfl⟩ (RR.pc (b := 50) rfl ?_)
        refine r_geti hX dX8_part0_50 fl_X8_208 (by first | rfl | assumption) rfl (RR.pc (b := 53) rfl ?_)
        rw [hlet]
        refine r_callSie hX dX8_part0_53 ml_X8_255 cd_X8_isName st_X8_isName c_X8_isName (by omega) rfl rfl (Nat.le_of_ble_eq_true rfl) (RR.pc (b := 56) rfl ?_)
        refine r_if_eq_b (tgt := 84) hX dX8_part0_56 rfl (fun h56 => ?_) (fun h56 => RR.pc (b := 59) rfl ?_)
        · first | exact RR.cut (t84 k3 (fun z => absurd (show nI (tkR st.1) = 1 by rw [q2.mpr z]; rfl) h38)) (List.forall_mem_cons.mpr ⟨rfl, List.forall_mem_cons.mpr ⟨rfl, fun _ h => absurd h List.not_mem_nil⟩⟩) | exact RR.cut (t84 k3 (fun _ z => by rw [if_pos z.1] at h45; exact nmK_ne0 z.2 h45)) (List.forall_mem_cons.mpr ⟨rfl, List.forall_mem_cons.mpr ⟨rfl, fun _ h => absurd h List.not_mem_nil⟩⟩) | exact RR.cut (t84 k3 (fun _ z => by rw [if_pos z.1] at h56; exact h56 z.2)) (List.forall_mem_cons.mpr ⟨rfl, List.forall_mem_cons.mpr ⟨rfl, fun _ h => absurd h List.not_mem_nil⟩⟩)
        · have e1 : st.2.2.1 - st.2.1 = 1 := Decidable.byContradiction (fun z => by rw [if_neg z] at h45; exact h45 rfl)
          rw [if_pos e1] at h56 hlet
          refine r_aload_n hX dX8_part0_59 rfl ⟨_, rfl⟩ (RR.pc (b := 60) rfl ?_)
          refine r_iconst (v := 1) hX dX8_part0_60 (by decide) (RR.pc (b := 61) rfl ?_)
          refine r_aload_n hX dX8_part0_61 rfl ⟨_, rfl⟩ (RR.pc (b := 62) rfl ?_)
          refine r_geti hX dX8_part0_62 fl_X8_208 (by first | rfl | assumption) rfl (RR.pc (b := 65) rfl ?_)
          rw [hlet]
          refine r_callVv hX dX8_part0_65 ml_X8_236 cd_X8_step iv_X8_step (c_stp h (by omega) ha) (by omega) (by first | rfl | assumption) rfl rfl rfl rfl (Nat.le_of_ble_eq_true rfl) (fun s_65 e_65 => RR.pc (b := 68) rfl ?_)
          obtain ⟨hp, hpf⟩ := e_65
          refine r_aload_n hX dX8_part0_68 rfl ⟨_, rfl⟩ (RR.pc (b := 69) rfl ?_)
          refine r_dup hX dX8_part0_69 rfl (RR.pc (b := 70) rfl ?_)
          refine r_geti hX dX8_part0_70 fl_X8_252 (by first | rfl | assumption) rfl (RR.pc (b := 73) rfl ?_)
          rw [hp.2.2.2.2.2.2.1]
          refine r_iconst (v := 1) hX dX8_part0_73 (by decide) (RR.pc (b := 74) rfl ?_)
          refine r_iadd hX dX8_part0_74 (RR.pc (b := 75) rfl ?_)
          rw [nI_1]
          refine r_puti hX dX8_part0_75 fl_X8_252 (by first | rfl | assumption) rfl ft_8_24 (RR.pc (b := 78) rfl ?_)
          refine r_aload_n hX dX8_part0_78 rfl ⟨_, rfl⟩ (RR.pc (b := 79) rfl ?_)
          refine r_callVv hX dX8_part0_79 ml_X8_233 cd_X8_nextToken iv_X8_nextToken (c_nxt (st := addLf st (1, tp st.2.1)) hp.leaf hV) (by omega) (by first | rfl | assumption) rfl rfl rfl rfl (Nat.le_of_ble_eq_true rfl) (fun s_79 e_79 => RR.pc (b := 82) rfl ?_)
          obtain ⟨hp2, hpf2⟩ := e_79
          refine r_iconst (v := 1) hX dX8_part0_82 (by decide) (RR.pc (b := 83) rfl ?_)
          exact r_zret hX hZ dX8_part0_83 (by first | rfl | exact nar_bz _) ⟨_, rfl, (by rw [if_neg k3, if_pos k2, if_pos ⟨e1, h56⟩]; exact ⟨rfl, hp2.2.1.1, (hpf.tr (PFR.s38 (by decide) (by decide) (by decide))).tr hpf2, fun _ => hp2⟩)⟩
  · have k3 : st.1 = 3 := q3.mp ((nI_eq (b := 2) (by omega) (by omega)).mp h5)
    have hb3 := hb (by omega)
    refine r_aload_n hX dX8_part0_8 rfl ⟨_, rfl⟩ (RR.pc (b := 9) rfl ?_)
    refine r_iconst (v := 0) hX dX8_part0_9 (by decide) (RR.pc (b := 10) rfl ?_)
    refine r_aload_n hX dX8_part0_10 rfl ⟨_, rfl⟩ (RR.pc (b := 11) rfl ?_)
    refine r_geti hX dX8_part0_11 fl_X8_214 (by first | rfl | assumption) rfl (RR.pc (b := 14) rfl ?_)
    rw [h.2.1.2.2.2.2.2 k3]
    refine r_callVv hX dX8_part0_14 ml_X8_236 cd_X8_step iv_X8_step (c_stp h (by omega) ha) (by omega) (by first | rfl | assumption) rfl rfl rfl rfl (Nat.le_of_ble_eq_true rfl) (fun s_14 e_14 => RR.pc (b := 17) rfl ?_)
    obtain ⟨hp, hpf⟩ := e_14
    refine r_aload_n hX dX8_part0_17 rfl ⟨_, rfl⟩ (RR.pc (b := 18) rfl ?_)
    refine r_dup hX dX8_part0_18 rfl (RR.pc (b := 19) rfl ?_)
    refine r_geti hX dX8_part0_19 fl_X8_252 (by first | rfl | assumption) rfl (RR.pc (b := 22) rfl ?_)
    rw [hp.2.2.2.2.2.2.1]
    refine r_iconst (v := 1) hX dX8_part0_22 (by decide) (RR.pc (b := 23) rfl ?_)
    refine r_iadd hX dX8_part0_23 (RR.pc (b := 24) rfl ?_)
    rw [nI_1]
    refine r_puti hX dX8_part0_24 fl_X8_252 (by first | rfl | assumption) rfl ft_8_24 (RR.pc (b := 27) rfl ?_)
    refine r_aload_n hX dX8_part0_27 rfl ⟨_, rfl⟩ (RR.pc (b := 28) rfl ?_)
    refine r_callVv hX dX8_part0_28 ml_X8_233 cd_X8_nextToken iv_X8_nextToken (c_nxt (st := addLf st (0, numF tp st.2.1 (st.2.2.1 - st.2.1))) hp.leaf hV) (by omega) (by first | rfl | assumption) rfl rfl rfl rfl (Nat.le_of_ble_eq_true rfl) (fun s_28 e_28 => RR.pc (b := 31) rfl ?_)
    obtain ⟨hp2, hpf2⟩ := e_28
    refine r_iconst (v := 1) hX dX8_part0_31 (by decide) (RR.pc (b := 32) rfl ?_)
    exact r_zret hX hZ dX8_part0_32 (by first | rfl | exact nar_bz _) ⟨_, rfl, (by rw [if_pos k3]; exact ⟨rfl, hp2.2.1.1, (hpf.tr (PFR.s38 (by decide) (by decide) (by decide))).tr hpf2, fun _ => hp2⟩)⟩
set_option maxHeartbeats 4000000 in
set_option maxRecDepth 100000 in
theorem lvR_either {G : GM} {tp : Nat → Int32} {L : Nat} {key : Int32} {a f o n : Nat} {st : St} {σ : SG} (iS : LvR G tp L key a 1 yX8_both cX8_both 2 f) (iL : LpR G tp L key a 0 cX8_either 2 f) (ho : o ≤ 8) (hn : n ≤ 8) (hV : VS tp L st) (hl : st.2.2.2.2.length ≤ st.2.1) (hm : 13 * (L - st.2.1) + (6 - 0) < f + 1) (h : PSR tp L a o n σ st) : CI G yX8_either cX8_either 2 (some .boolean) (dpt o n + (5 - 0)) [rf G 109, .int key] σ (PQR tp L a o n σ (ps tp L key (f + 1) 0 o n st)) := by
  refine Con.of cd_X8_either (Nat.le_of_ble_eq_true rfl) ?_
  intro X hX hZ
  have hX : Fx X G RX8 cX8_either 2 (dpt o n + (5 - 0)) := hX
  show RR X G 2 0 (ll [(0, rf G 109), (1, .int key)]) [] σ
  have h96 := h.1.1
  have hdq : 10 ≤ dpt o n := by unfold dpt; omega
  have hok := ps_ok (tp := tp) (L := L) (key := key) f (0 + 1) o n st
  have eF := ps_lvF (tp := tp) (L := L) (key := key) (f := f) (c := 0) (o := o) (n := n) (st := st) (by decide)
  have eT := ps_lvT (tp := tp) (L := L) (key := key) (f := f) (c := 0) (o := o) (n := n) (st := st) (by decide)
  have iS1 := iS o n st σ ho hn hV hl (by omega) h
  generalize hR : ps tp L key f (0 + 1) o n st = R at hok eF eT
  rw [hR] at iS1
  refine r_aload_n hX dX8_either_0 rfl ⟨_, rfl⟩ (RR.pc (b := 1) rfl ?_)
  refine r_iload_n (i := 0) hX dX8_either_1 rfl (RR.pc (b := 2) rfl ?_)
  refine r_callVi hX dX8_either_2 ml_X8_227 cd_X8_both iv_X8_both iS1 (by omega) (by first | rfl | assumption) rfl rfl rfl rfl (Nat.le_of_ble_eq_true rfl) (fun r_2 s_2 e_2 => RR.pc (b := 5) rfl ?_)
  obtain ⟨rfl, hq, hpf, hyes⟩ := e_2
  refine r_if_ne_b (tgt := 10) hX dX8_either_5 rfl (fun h5 => ?_) (fun h5 => RR.pc (b := 8) rfl ?_)
  · rw [eT h5] at hZ
    have hok1 := hok R.2 (by omega) hV (by rw [← h5])
    have hb1 := hok1.2.2.1 (by omega)
    have hv1 := hok1.1.1
    exact RR.cut (iL X o n R.2 _ σ hX hZ ho hn hok1.1 (hok1.2.len hl).1 (by omega) (hyes h5) hpf) (List.forall_mem_cons.mpr ⟨rfl, List.forall_mem_cons.mpr ⟨rfl, fun _ h => absurd h List.not_mem_nil⟩⟩)
  · refine r_iconst (v := 0) hX dX8_either_8 (by decide) (RR.pc (b := 9) rfl ?_)
    exact r_zret hX hZ dX8_either_9 (by first | rfl | exact nar_bz _) ⟨_, rfl, (by rw [eF h5]; exact ⟨rfl, hq, hpf, fun z => absurd z (by simp)⟩)⟩
set_option maxHeartbeats 4000000 in
theorem lpR_either {G : GM} {tp : Nat → Int32} {L : Nat} {key : Int32} {a f : Nat} (ha : a ≤ 2971) (iS : LvR G tp L key a 1 yX8_both cX8_both 2 f) (iL : LpR G tp L key a 0 cX8_either 2 f) : LpR G tp L key a 0 cX8_either 2 (f + 1) := by
  intro X o n st σ σ0 hX hZ ho hn hV hl hm h hpf0
  have h96 := h.1.1
  have hdq : 10 ≤ dpt o n := by unfold dpt; omega
  have hk4 := hV.2.2.1
  obtain ⟨g1, g2⟩ := nx_VS (tp := tp) (L := L) (st := st) hV.2.1
  have g3 := g1.1
  have em : tp st.2.1 ∈ sgL 0 ↔ (tp st.2.1 = 124) := by
    show tp st.2.1 ∈ ([124] : List Int32) ↔ _
    simp only [List.mem_cons, List.not_mem_nil, or_false]
  by_cases hc : st.1 = 1 ∧ tp st.2.1 ∈ sgL 0
  · have hb := hV.2.2.2.2.1 (by omega)
    have hm1 := em.mp hc.2
    rw [ps_lp (c := 0) hc] at hZ
    have hok := ps_ok (tp := tp) (L := L) (key := key) f (0 + 1) o n (nx tp L st)
    have iS1 := fun s => iS o n (nx tp L st) s ho hn g1 (by show st.2.2.2.2.length ≤ _; omega) (by omega)
    generalize hR : ps tp L key f (0 + 1) o n (nx tp L st) = R at hok hZ
    rw [hR] at iS1
    have hlet := h.2.1.2.2.2.1 hc.1
    have go : RR X G 2 19 (ll [(0, rf G 109), (1, .int key)]) [] σ := by
      refine r_aload_n hX dX8_either_19 rfl ⟨_, rfl⟩ (RR.pc (b := 20) rfl ?_)
      refine r_callVv hX dX8_either_20 ml_X8_233 cd_X8_nextToken iv_X8_nextToken (c_nxt h hV) (by omega) (by first | rfl | assumption) rfl rfl rfl rfl (Nat.le_of_ble_eq_true rfl) (fun s_20 e_20 => RR.pc (b := 23) rfl ?_)
      obtain ⟨hp, hpf⟩ := e_20
      refine r_aload_n hX dX8_either_23 rfl ⟨_, rfl⟩ (RR.pc (b := 24) rfl ?_)
      refine r_iload_n (i := 0) hX dX8_either_24 rfl (RR.pc (b := 25) rfl ?_)
      refine r_callVi hX dX8_either_25 ml_X8_227 cd_X8_both iv_X8_both (iS1 _ hp) (by omega) (by first | rfl | assumption) rfl rfl rfl rfl (Nat.le_of_ble_eq_true rfl) (fun r_25 s_25 e_25 => RR.pc (b := 28) rfl ?_)
      obtain ⟨rfl, hq, hpf2, hyes⟩ := e_25
      refine r_if_ne_b (tgt := 33) hX dX8_either_28 rfl (fun h28 => ?_) (fun h28 => RR.pc (b := 31) rfl ?_)
      · rw [if_pos h28] at hZ
        have hp2 := hyes h28
        have hok1 := hok R.2 (by omega) g1 (by rw [← h28])
        have hb1 := hok1.2.2.1 (by omega)
        have hv1 := hok1.1.1
        have hl1 := hok1.2.len (by show st.2.2.2.2.length ≤ _; omega)
        have hl2 : R.2.2.2.2.2.length + (nx tp L st).2.1 ≤ st.2.2.2.2.length + R.2.2.1 := hl1.2
        refine r_aload_n hX dX8_either_33 rfl ⟨_, rfl⟩ (RR.pc (b := 34) rfl ?_)
        refine r_iconst (v := 2) hX dX8_either_34 (by decide) (RR.pc (b := 35) rfl ?_)
        refine r_bipush (v := 124) hX dX8_either_35 (by decide) (RR.pc (b := 37) rfl ?_)
        refine r_callVv hX dX8_either_37 ml_X8_236 cd_X8_step iv_X8_step (c_stp (w := 2) (v := 124) hp2 (by omega) ha) (by omega) (by first | rfl | assumption) rfl rfl rfl rfl (Nat.le_of_ble_eq_true rfl) (fun s_37 e_37 => RR.pc (b := 40) rfl ?_)
        obtain ⟨hp3, hpf3⟩ := e_37
        refine r_goto (tgt := 10) hX dX8_either_40 rfl ?_
        rw [if_neg (by decide), hm1] at hZ
        exact RR.cut (iL X o n (addSg R.2 124) _ σ0 hX hZ ho hn hok1.1 (by show (R.2.2.2.2.2 ++ [(2, 124)]).length ≤ R.2.2.1; rw [List.length_append]; simp only [List.length_cons, List.length_nil]; omega) (by show 13 * (L - R.2.2.1) < f; omega) hp3 (((hpf0.tr hpf).tr hpf2).tr hpf3)) (List.forall_mem_cons.mpr ⟨rfl, List.forall_mem_cons.mpr ⟨rfl, fun _ h => absurd h List.not_mem_nil⟩⟩)
      · refine r_iconst (v := 0) hX dX8_either_31 (by decide) (RR.pc (b := 32) rfl ?_)
        exact r_zret hX hZ dX8_either_32 (by first | rfl | exact nar_bz _) ⟨_, rfl, (by rw [if_neg h28]; exact ⟨rfl, hq, (hpf0.tr hpf).tr hpf2, fun z => absurd z (by simp)⟩)⟩
    refine r_aload_n hX dX8_either_10 rfl ⟨_, rfl⟩ (RR.pc (b := 11) rfl ?_)
    refine r_bipush (v := 124) hX dX8_either_11 (by decide) (RR.pc (b := 13) rfl ?_)
    refine r_callVie hX dX8_either_13 ml_X8_230 cd_X8_isSign iv_X8_isSign (c_X8_isSign h.2.1 hk4) (by omega) (by first | rfl | assumption) rfl rfl rfl rfl (Nat.le_of_ble_eq_true rfl) (RR.pc (b := 16) rfl ?_)
    refine r_if_eq_b (tgt := 43) hX dX8_either_16 rfl (fun h16 => absurd ⟨hc.1, hm1⟩ h16) (fun h16 => RR.pc (b := 19) rfl ?_)
    exact RR.cut go (List.forall_mem_cons.mpr ⟨rfl, List.forall_mem_cons.mpr ⟨rfl, fun _ h => absurd h List.not_mem_nil⟩⟩)
  · have hn0 : ¬ (st.1 = 1 ∧ (tp st.2.1 = 124)) := fun z => hc ⟨z.1, em.mpr z.2⟩
    rw [ps_lpN (c := 0) hc] at hZ
    refine r_aload_n hX dX8_either_10 rfl ⟨_, rfl⟩ (RR.pc (b := 11) rfl ?_)
    refine r_bipush (v := 124) hX dX8_either_11 (by decide) (RR.pc (b := 13) rfl ?_)
    refine r_callVie hX dX8_either_13 ml_X8_230 cd_X8_isSign iv_X8_isSign (c_X8_isSign h.2.1 hk4) (by omega) (by first | rfl | assumption) rfl rfl rfl rfl (Nat.le_of_ble_eq_true rfl) (RR.pc (b := 16) rfl ?_)
    refine r_if_eq_b (tgt := 43) hX dX8_either_16 rfl (fun h16 => ?_) (fun h16 => absurd h16 hn0)
    refine r_iconst (v := 1) hX dX8_either_43 (by decide) (RR.pc (b := 44) rfl ?_)
    exact r_zret hX hZ dX8_either_44 (by first | rfl | exact nar_bz _) ⟨_, rfl, ⟨rfl, h.2.1.1, hpf0, fun _ => h⟩⟩
set_option maxHeartbeats 4000000 in
set_option maxRecDepth 100000 in
theorem lvR_both {G : GM} {tp : Nat → Int32} {L : Nat} {key : Int32} {a f o n : Nat} {st : St} {σ : SG} (iS : LvR G tp L key a 2 yX8_test cX8_test 3 f) (iL : LpR G tp L key a 1 cX8_both 2 f) (ho : o ≤ 8) (hn : n ≤ 8) (hV : VS tp L st) (hl : st.2.2.2.2.length ≤ st.2.1) (hm : 13 * (L - st.2.1) + (6 - 1) < f + 1) (h : PSR tp L a o n σ st) : CI G yX8_both cX8_both 2 (some .boolean) (dpt o n + (5 - 1)) [rf G 109, .int key] σ (PQR tp L a o n σ (ps tp L key (f + 1) 1 o n st)) := by
  refine Con.of cd_X8_both (Nat.le_of_ble_eq_true rfl) ?_
  intro X hX hZ
  have hX : Fx X G RX8 cX8_both 2 (dpt o n + (5 - 1)) := hX
  show RR X G 2 0 (ll [(0, rf G 109), (1, .int key)]) [] σ
  have h96 := h.1.1
  have hdq : 10 ≤ dpt o n := by unfold dpt; omega
  have hok := ps_ok (tp := tp) (L := L) (key := key) f (1 + 1) o n st
  have eF := ps_lvF (tp := tp) (L := L) (key := key) (f := f) (c := 1) (o := o) (n := n) (st := st) (by decide)
  have eT := ps_lvT (tp := tp) (L := L) (key := key) (f := f) (c := 1) (o := o) (n := n) (st := st) (by decide)
  have iS1 := iS o n st σ ho hn hV hl (by omega) h
  generalize hR : ps tp L key f (1 + 1) o n st = R at hok eF eT
  rw [hR] at iS1
  refine r_aload_n hX dX8_both_0 rfl ⟨_, rfl⟩ (RR.pc (b := 1) rfl ?_)
  refine r_iload_n (i := 0) hX dX8_both_1 rfl (RR.pc (b := 2) rfl ?_)
  refine r_callVi hX dX8_both_2 ml_X8_240 cd_X8_test iv_X8_test iS1 (by omega) (by first | rfl | assumption) rfl rfl rfl rfl (Nat.le_of_ble_eq_true rfl) (fun r_2 s_2 e_2 => RR.pc (b := 5) rfl ?_)
  obtain ⟨rfl, hq, hpf, hyes⟩ := e_2
  refine r_if_ne_b (tgt := 10) hX dX8_both_5 rfl (fun h5 => ?_) (fun h5 => RR.pc (b := 8) rfl ?_)
  · rw [eT h5] at hZ
    have hok1 := hok R.2 (by omega) hV (by rw [← h5])
    have hb1 := hok1.2.2.1 (by omega)
    have hv1 := hok1.1.1
    exact RR.cut (iL X o n R.2 _ σ hX hZ ho hn hok1.1 (hok1.2.len hl).1 (by omega) (hyes h5) hpf) (List.forall_mem_cons.mpr ⟨rfl, List.forall_mem_cons.mpr ⟨rfl, fun _ h => absurd h List.not_mem_nil⟩⟩)
  · refine r_iconst (v := 0) hX dX8_both_8 (by decide) (RR.pc (b := 9) rfl ?_)
    exact r_zret hX hZ dX8_both_9 (by first | rfl | exact nar_bz _) ⟨_, rfl, (by rw [eF h5]; exact ⟨rfl, hq, hpf, fun z => absurd z (by simp)⟩)⟩
set_option maxHeartbeats 4000000 in
theorem lpR_both {G : GM} {tp : Nat → Int32} {L : Nat} {key : Int32} {a f : Nat} (ha : a ≤ 2971) (iS : LvR G tp L key a 2 yX8_test cX8_test 3 f) (iL : LpR G tp L key a 1 cX8_both 2 f) : LpR G tp L key a 1 cX8_both 2 (f + 1) := by
  intro X o n st σ σ0 hX hZ ho hn hV hl hm h hpf0
  have h96 := h.1.1
  have hdq : 10 ≤ dpt o n := by unfold dpt; omega
  have hk4 := hV.2.2.1
  obtain ⟨g1, g2⟩ := nx_VS (tp := tp) (L := L) (st := st) hV.2.1
  have g3 := g1.1
  have em : tp st.2.1 ∈ sgL 1 ↔ (tp st.2.1 = 38) := by
    show tp st.2.1 ∈ ([38] : List Int32) ↔ _
    simp only [List.mem_cons, List.not_mem_nil, or_false]
  by_cases hc : st.1 = 1 ∧ tp st.2.1 ∈ sgL 1
  · have hb := hV.2.2.2.2.1 (by omega)
    have hm1 := em.mp hc.2
    rw [ps_lp (c := 1) hc] at hZ
    have hok := ps_ok (tp := tp) (L := L) (key := key) f (1 + 1) o n (nx tp L st)
    have iS1 := fun s => iS o n (nx tp L st) s ho hn g1 (by show st.2.2.2.2.length ≤ _; omega) (by omega)
    generalize hR : ps tp L key f (1 + 1) o n (nx tp L st) = R at hok hZ
    rw [hR] at iS1
    have hlet := h.2.1.2.2.2.1 hc.1
    have go : RR X G 2 19 (ll [(0, rf G 109), (1, .int key)]) [] σ := by
      refine r_aload_n hX dX8_both_19 rfl ⟨_, rfl⟩ (RR.pc (b := 20) rfl ?_)
      refine r_callVv hX dX8_both_20 ml_X8_233 cd_X8_nextToken iv_X8_nextToken (c_nxt h hV) (by omega) (by first | rfl | assumption) rfl rfl rfl rfl (Nat.le_of_ble_eq_true rfl) (fun s_20 e_20 => RR.pc (b := 23) rfl ?_)
      obtain ⟨hp, hpf⟩ := e_20
      refine r_aload_n hX dX8_both_23 rfl ⟨_, rfl⟩ (RR.pc (b := 24) rfl ?_)
      refine r_iload_n (i := 0) hX dX8_both_24 rfl (RR.pc (b := 25) rfl ?_)
      refine r_callVi hX dX8_both_25 ml_X8_240 cd_X8_test iv_X8_test (iS1 _ hp) (by omega) (by first | rfl | assumption) rfl rfl rfl rfl (Nat.le_of_ble_eq_true rfl) (fun r_25 s_25 e_25 => RR.pc (b := 28) rfl ?_)
      obtain ⟨rfl, hq, hpf2, hyes⟩ := e_25
      refine r_if_ne_b (tgt := 33) hX dX8_both_28 rfl (fun h28 => ?_) (fun h28 => RR.pc (b := 31) rfl ?_)
      · rw [if_pos h28] at hZ
        have hp2 := hyes h28
        have hok1 := hok R.2 (by omega) g1 (by rw [← h28])
        have hb1 := hok1.2.2.1 (by omega)
        have hv1 := hok1.1.1
        have hl1 := hok1.2.len (by show st.2.2.2.2.length ≤ _; omega)
        have hl2 : R.2.2.2.2.2.length + (nx tp L st).2.1 ≤ st.2.2.2.2.length + R.2.2.1 := hl1.2
        refine r_aload_n hX dX8_both_33 rfl ⟨_, rfl⟩ (RR.pc (b := 34) rfl ?_)
        refine r_iconst (v := 2) hX dX8_both_34 (by decide) (RR.pc (b := 35) rfl ?_)
        refine r_bipush (v := 38) hX dX8_both_35 (by decide) (RR.pc (b := 37) rfl ?_)
        refine r_callVv hX dX8_both_37 ml_X8_236 cd_X8_step iv_X8_step (c_stp (w := 2) (v := 38) hp2 (by omega) ha) (by omega) (by first | rfl | assumption) rfl rfl rfl rfl (Nat.le_of_ble_eq_true rfl) (fun s_37 e_37 => RR.pc (b := 40) rfl ?_)
        obtain ⟨hp3, hpf3⟩ := e_37
        refine r_goto (tgt := 10) hX dX8_both_40 rfl ?_
        rw [if_neg (by decide), hm1] at hZ
        exact RR.cut (iL X o n (addSg R.2 38) _ σ0 hX hZ ho hn hok1.1 (by show (R.2.2.2.2.2 ++ [(2, 38)]).length ≤ R.2.2.1; rw [List.length_append]; simp only [List.length_cons, List.length_nil]; omega) (by show 13 * (L - R.2.2.1) < f; omega) hp3 (((hpf0.tr hpf).tr hpf2).tr hpf3)) (List.forall_mem_cons.mpr ⟨rfl, List.forall_mem_cons.mpr ⟨rfl, fun _ h => absurd h List.not_mem_nil⟩⟩)
      · refine r_iconst (v := 0) hX dX8_both_31 (by decide) (RR.pc (b := 32) rfl ?_)
        exact r_zret hX hZ dX8_both_32 (by first | rfl | exact nar_bz _) ⟨_, rfl, (by rw [if_neg h28]; exact ⟨rfl, hq, (hpf0.tr hpf).tr hpf2, fun z => absurd z (by simp)⟩)⟩
    refine r_aload_n hX dX8_both_10 rfl ⟨_, rfl⟩ (RR.pc (b := 11) rfl ?_)
    refine r_bipush (v := 38) hX dX8_both_11 (by decide) (RR.pc (b := 13) rfl ?_)
    refine r_callVie hX dX8_both_13 ml_X8_230 cd_X8_isSign iv_X8_isSign (c_X8_isSign h.2.1 hk4) (by omega) (by first | rfl | assumption) rfl rfl rfl rfl (Nat.le_of_ble_eq_true rfl) (RR.pc (b := 16) rfl ?_)
    refine r_if_eq_b (tgt := 43) hX dX8_both_16 rfl (fun h16 => absurd ⟨hc.1, hm1⟩ h16) (fun h16 => RR.pc (b := 19) rfl ?_)
    exact RR.cut go (List.forall_mem_cons.mpr ⟨rfl, List.forall_mem_cons.mpr ⟨rfl, fun _ h => absurd h List.not_mem_nil⟩⟩)
  · have hn0 : ¬ (st.1 = 1 ∧ (tp st.2.1 = 38)) := fun z => hc ⟨z.1, em.mpr z.2⟩
    rw [ps_lpN (c := 1) hc] at hZ
    refine r_aload_n hX dX8_both_10 rfl ⟨_, rfl⟩ (RR.pc (b := 11) rfl ?_)
    refine r_bipush (v := 38) hX dX8_both_11 (by decide) (RR.pc (b := 13) rfl ?_)
    refine r_callVie hX dX8_both_13 ml_X8_230 cd_X8_isSign iv_X8_isSign (c_X8_isSign h.2.1 hk4) (by omega) (by first | rfl | assumption) rfl rfl rfl rfl (Nat.le_of_ble_eq_true rfl) (RR.pc (b := 16) rfl ?_)
    refine r_if_eq_b (tgt := 43) hX dX8_both_16 rfl (fun h16 => ?_) (fun h16 => absurd h16 hn0)
    refine r_iconst (v := 1) hX dX8_both_43 (by decide) (RR.pc (b := 44) rfl ?_)
    exact r_zret hX hZ dX8_both_44 (by first | rfl | exact nar_bz _) ⟨_, rfl, ⟨rfl, h.2.1.1, hpf0, fun _ => h⟩⟩
set_option maxHeartbeats 4000000 in
set_option maxRecDepth 100000 in
theorem lvR_test {G : GM} {tp : Nat → Int32} {L : Nat} {key : Int32} {a f o n : Nat} {st : St} {σ : SG} (iS : LvR G tp L key a 3 yX8_sum cX8_sum 3 f) (iL : LpR G tp L key a 2 cX8_test 3 f) (ho : o ≤ 8) (hn : n ≤ 8) (hV : VS tp L st) (hl : st.2.2.2.2.length ≤ st.2.1) (hm : 13 * (L - st.2.1) + (6 - 2) < f + 1) (h : PSR tp L a o n σ st) : CI G yX8_test cX8_test 3 (some .boolean) (dpt o n + (5 - 2)) [rf G 109, .int key] σ (PQR tp L a o n σ (ps tp L key (f + 1) 2 o n st)) := by
  refine Con.of cd_X8_test (Nat.le_of_ble_eq_true rfl) ?_
  intro X hX hZ
  have hX : Fx X G RX8 cX8_test 3 (dpt o n + (5 - 2)) := hX
  show RR X G 3 0 (ll [(0, rf G 109), (1, .int key)]) [] σ
  have h96 := h.1.1
  have hdq : 10 ≤ dpt o n := by unfold dpt; omega
  have hok := ps_ok (tp := tp) (L := L) (key := key) f (2 + 1) o n st
  have eF := ps_lvF (tp := tp) (L := L) (key := key) (f := f) (c := 2) (o := o) (n := n) (st := st) (by decide)
  have eT := ps_lvT (tp := tp) (L := L) (key := key) (f := f) (c := 2) (o := o) (n := n) (st := st) (by decide)
  have iS1 := iS o n st σ ho hn hV hl (by omega) h
  generalize hR : ps tp L key f (2 + 1) o n st = R at hok eF eT
  rw [hR] at iS1
  refine r_aload_n hX dX8_test_0 rfl ⟨_, rfl⟩ (RR.pc (b := 1) rfl ?_)
  refine r_iload_n (i := 0) hX dX8_test_1 rfl (RR.pc (b := 2) rfl ?_)
  refine r_callVi hX dX8_test_2 ml_X8_243 cd_X8_sum iv_X8_sum iS1 (by omega) (by first | rfl | assumption) rfl rfl rfl rfl (Nat.le_of_ble_eq_true rfl) (fun r_2 s_2 e_2 => RR.pc (b := 5) rfl ?_)
  obtain ⟨rfl, hq, hpf, hyes⟩ := e_2
  refine r_if_ne_b (tgt := 10) hX dX8_test_5 rfl (fun h5 => ?_) (fun h5 => RR.pc (b := 8) rfl ?_)
  · rw [eT h5] at hZ
    have hok1 := hok R.2 (by omega) hV (by rw [← h5])
    have hb1 := hok1.2.2.1 (by omega)
    have hv1 := hok1.1.1
    exact RR.cut (iL X o n R.2 _ σ hX hZ ho hn hok1.1 (hok1.2.len hl).1 (by omega) (hyes h5) hpf) (List.forall_mem_cons.mpr ⟨rfl, List.forall_mem_cons.mpr ⟨rfl, fun _ h => absurd h List.not_mem_nil⟩⟩)
  · refine r_iconst (v := 0) hX dX8_test_8 (by decide) (RR.pc (b := 9) rfl ?_)
    exact r_zret hX hZ dX8_test_9 (by first | rfl | exact nar_bz _) ⟨_, rfl, (by rw [eF h5]; exact ⟨rfl, hq, hpf, fun z => absurd z (by simp)⟩)⟩
set_option maxHeartbeats 4000000 in
theorem lpR_test {G : GM} {tp : Nat → Int32} {L : Nat} {key : Int32} {a f : Nat} (ha : a ≤ 2971) (iS : LvR G tp L key a 3 yX8_sum cX8_sum 3 f) : LpR G tp L key a 2 cX8_test 3 (f + 1) := by
  intro X o n st σ σ0 hX hZ ho hn hV hl hm h hpf0
  have h96 := h.1.1
  have hdq : 10 ≤ dpt o n := by unfold dpt; omega
  have hk4 := hV.2.2.1
  obtain ⟨g1, g2⟩ := nx_VS (tp := tp) (L := L) (st := st) hV.2.1
  have g3 := g1.1
  have em : tp st.2.1 ∈ sgL 2 ↔ (tp st.2.1 = 60 ∨ tp st.2.1 = 61 ∨ tp st.2.1 = 62) := by
    show tp st.2.1 ∈ ([60, 61, 62] : List Int32) ↔ _
    simp only [List.mem_cons, List.not_mem_nil, or_false]
  by_cases hc : st.1 = 1 ∧ tp st.2.1 ∈ sgL 2
  · have hb := hV.2.2.2.2.1 (by omega)
    have hm1 := em.mp hc.2
    rw [ps_lp (c := 2) hc] at hZ
    have hok := ps_ok (tp := tp) (L := L) (key := key) f (2 + 1) o n (nx tp L st)
    have iS1 := fun s => iS o n (nx tp L st) s ho hn g1 (by show st.2.2.2.2.length ≤ _; omega) (by omega)
    generalize hR : ps tp L key f (2 + 1) o n (nx tp L st) = R at hok hZ
    rw [hR] at iS1
    have hlet := h.2.1.2.2.2.1 hc.1
    have go : RR X G 3 37 (ll [(0, rf G 109), (1, .int key)]) [] σ := by
      refine r_aload_n hX dX8_test_37 rfl ⟨_, rfl⟩ (RR.pc (b := 38) rfl ?_)
      refine r_geti hX dX8_test_38 fl_X8_208 (by first | rfl | assumption) rfl (RR.pc (b := 41) rfl ?_)
      rw [hlet]
      refine r_istore_n hX dX8_test_41 (by decide) (RR.pc (b := 42) rfl ?_)
      refine r_aload_n hX dX8_test_42 rfl ⟨_, rfl⟩ (RR.pc (b := 43) rfl ?_)
      refine r_callVv hX dX8_test_43 ml_X8_233 cd_X8_nextToken iv_X8_nextToken (c_nxt h hV) (by omega) (by first | rfl | assumption) rfl rfl rfl rfl (Nat.le_of_ble_eq_true rfl) (fun s_43 e_43 => RR.pc (b := 46) rfl ?_)
      obtain ⟨hp, hpf⟩ := e_43
      refine r_aload_n hX dX8_test_46 rfl ⟨_, rfl⟩ (RR.pc (b := 47) rfl ?_)
      refine r_iload_n (i := 0) hX dX8_test_47 rfl (RR.pc (b := 48) rfl ?_)
      refine r_callVi hX dX8_test_48 ml_X8_243 cd_X8_sum iv_X8_sum (iS1 _ hp) (by omega) (by first | rfl | assumption) rfl rfl rfl rfl (Nat.le_of_ble_eq_true rfl) (fun r_48 s_48 e_48 => RR.pc (b := 51) rfl ?_)
      obtain ⟨rfl, hq, hpf2, hyes⟩ := e_48
      refine r_if_ne_b (tgt := 56) hX dX8_test_51 rfl (fun h51 => ?_) (fun h51 => RR.pc (b := 54) rfl ?_)
      · rw [if_pos h51] at hZ
        have hp2 := hyes h51
        have hok1 := hok R.2 (by omega) g1 (by rw [← h51])
        have hb1 := hok1.2.2.1 (by omega)
        have hv1 := hok1.1.1
        have hl1 := hok1.2.len (by show st.2.2.2.2.length ≤ _; omega)
        have hl2 : R.2.2.2.2.2.length + (nx tp L st).2.1 ≤ st.2.2.2.2.length + R.2.2.1 := hl1.2
        refine r_aload_n hX dX8_test_56 rfl ⟨_, rfl⟩ (RR.pc (b := 57) rfl ?_)
        refine r_iconst (v := 2) hX dX8_test_57 (by decide) (RR.pc (b := 58) rfl ?_)
        refine r_iload_n (i := 0) hX dX8_test_58 rfl (RR.pc (b := 59) rfl ?_)
        refine r_callVv hX dX8_test_59 ml_X8_236 cd_X8_step iv_X8_step (c_stp (w := 2) (v := tp st.2.1) hp2 (by omega) ha) (by omega) (by first | rfl | assumption) rfl rfl rfl rfl (Nat.le_of_ble_eq_true rfl) (fun s_59 e_59 => RR.pc (b := 62) rfl ?_)
        obtain ⟨hp3, hpf3⟩ := e_59
        refine r_iconst (v := 1) hX dX8_test_62 (by decide) (RR.pc (b := 63) rfl ?_)
        exact r_zret hX hZ dX8_test_63 (by first | rfl | exact nar_bz _) ⟨_, rfl, (by rw [if_pos rfl]; exact ⟨rfl, hp3.2.1.1, ((hpf0.tr hpf).tr hpf2).tr hpf3, fun _ => hp3⟩)⟩
      · refine r_iconst (v := 0) hX dX8_test_54 (by decide) (RR.pc (b := 55) rfl ?_)
        exact r_zret hX hZ dX8_test_55 (by first | rfl | exact nar_bz _) ⟨_, rfl, (by rw [if_neg h51]; exact ⟨rfl, hq, (hpf0.tr hpf).tr hpf2, fun z => absurd z (by simp)⟩)⟩
    refine r_aload_n hX dX8_test_10 rfl ⟨_, rfl⟩ (RR.pc (b := 11) rfl ?_)
    refine r_bipush (v := 60) hX dX8_test_11 (by decide) (RR.pc (b := 13) rfl ?_)
    refine r_callVie hX dX8_test_13 ml_X8_230 cd_X8_isSign iv_X8_isSign (c_X8_isSign h.2.1 hk4) (by omega) (by first | rfl | assumption) rfl rfl rfl rfl (Nat.le_of_ble_eq_true rfl) (RR.pc (b := 16) rfl ?_)
    refine r_if_ne_b (tgt := 37) hX dX8_test_16 rfl (fun h16 => ?_) (fun h16 => RR.pc (b := 19) rfl ?_)
    · exact RR.cut go (List.forall_mem_cons.mpr ⟨rfl, List.forall_mem_cons.mpr ⟨rfl, fun _ h => absurd h List.not_mem_nil⟩⟩)
    · refine r_aload_n hX dX8_test_19 rfl ⟨_, rfl⟩ (RR.pc (b := 20) rfl ?_)
      refine r_bipush (v := 61) hX dX8_test_20 (by decide) (RR.pc (b := 22) rfl ?_)
      refine r_callVie hX dX8_test_22 ml_X8_230 cd_X8_isSign iv_X8_isSign (c_X8_isSign h.2.1 hk4) (by omega) (by first | rfl | assumption) rfl rfl rfl rfl (Nat.le_of_ble_eq_true rfl) (RR.pc (b := 25) rfl ?_)
      refine r_if_ne_b (tgt := 37) hX dX8_test_25 rfl (fun h25 => ?_) (fun h25 => RR.pc (b := 28) rfl ?_)
      · exact RR.cut go (List.forall_mem_cons.mpr ⟨rfl, List.forall_mem_cons.mpr ⟨rfl, fun _ h => absurd h List.not_mem_nil⟩⟩)
      · refine r_aload_n hX dX8_test_28 rfl ⟨_, rfl⟩ (RR.pc (b := 29) rfl ?_)
        refine r_bipush (v := 62) hX dX8_test_29 (by decide) (RR.pc (b := 31) rfl ?_)
        refine r_callVie hX dX8_test_31 ml_X8_230 cd_X8_isSign iv_X8_isSign (c_X8_isSign h.2.1 hk4) (by omega) (by first | rfl | assumption) rfl rfl rfl rfl (Nat.le_of_ble_eq_true rfl) (RR.pc (b := 34) rfl ?_)
        refine r_if_eq_b (tgt := 62) hX dX8_test_34 rfl (fun h34 => ?_) (fun h34 => RR.pc (b := 37) rfl ?_)
        · exact absurd hm1 (fun z => z.elim (fun y => h16 ⟨hc.1, y⟩) (fun q => q.elim (fun y => h25 ⟨hc.1, y⟩) (fun y => h34 ⟨hc.1, y⟩)))
        · exact RR.cut go (List.forall_mem_cons.mpr ⟨rfl, List.forall_mem_cons.mpr ⟨rfl, fun _ h => absurd h List.not_mem_nil⟩⟩)
  · have hn0 : ¬ (st.1 = 1 ∧ (tp st.2.1 = 60 ∨ tp st.2.1 = 61 ∨ tp st.2.1 = 62)) := fun z => hc ⟨z.1, em.mpr z.2⟩
    rw [ps_lpN (c := 2) hc] at hZ
    refine r_aload_n hX dX8_test_10 rfl ⟨_, rfl⟩ (RR.pc (b := 11) rfl ?_)
    refine r_bipush (v := 60) hX dX8_test_11 (by decide) (RR.pc (b := 13) rfl ?_)
    refine r_callVie hX dX8_test_13 ml_X8_230 cd_X8_isSign iv_X8_isSign (c_X8_isSign h.2.1 hk4) (by omega) (by first | rfl | assumption) rfl rfl rfl rfl (Nat.le_of_ble_eq_true rfl) (RR.pc (b := 16) rfl ?_)
    refine r_if_ne_b (tgt := 37) hX dX8_test_16 rfl (fun h16 => absurd h16 (fun z => hn0 ⟨z.1, Or.inl z.2⟩)) (fun h16 => RR.pc (b := 19) rfl ?_)
    refine r_aload_n hX dX8_test_19 rfl ⟨_, rfl⟩ (RR.pc (b := 20) rfl ?_)
    refine r_bipush (v := 61) hX dX8_test_20 (by decide) (RR.pc (b := 22) rfl ?_)
    refine r_callVie hX dX8_test_22 ml_X8_230 cd_X8_isSign iv_X8_isSign (c_X8_isSign h.2.1 hk4) (by omega) (by first | rfl | assumption) rfl rfl rfl rfl (Nat.le_of_ble_eq_true rfl) (RR.pc (b := 25) rfl ?_)
    refine r_if_ne_b (tgt := 37) hX dX8_test_25 rfl (fun h25 => absurd h25 (fun z => hn0 ⟨z.1, Or.inr (Or.inl z.2)⟩)) (fun h25 => RR.pc (b := 28) rfl ?_)
    refine r_aload_n hX dX8_test_28 rfl ⟨_, rfl⟩ (RR.pc (b := 29) rfl ?_)
    refine r_bipush (v := 62) hX dX8_test_29 (by decide) (RR.pc (b := 31) rfl ?_)
    refine r_callVie hX dX8_test_31 ml_X8_230 cd_X8_isSign iv_X8_isSign (c_X8_isSign h.2.1 hk4) (by omega) (by first | rfl | assumption) rfl rfl rfl rfl (Nat.le_of_ble_eq_true rfl) (RR.pc (b := 34) rfl ?_)
    refine r_if_eq_b (tgt := 62) hX dX8_test_34 rfl (fun h34 => ?_) (fun h34 => absurd h34 (fun z => hn0 ⟨z.1, Or.inr (Or.inr z.2)⟩))
    refine r_iconst (v := 1) hX dX8_test_62 (by decide) (RR.pc (b := 63) rfl ?_)
    exact r_zret hX hZ dX8_test_63 (by first | rfl | exact nar_bz _) ⟨_, rfl, ⟨rfl, h.2.1.1, hpf0, fun _ => h⟩⟩
set_option maxHeartbeats 4000000 in
set_option maxRecDepth 100000 in
theorem lvR_sum {G : GM} {tp : Nat → Int32} {L : Nat} {key : Int32} {a f o n : Nat} {st : St} {σ : SG} (iS : LvR G tp L key a 4 yX8_term cX8_term 3 f) (iL : LpR G tp L key a 3 cX8_sum 3 f) (ho : o ≤ 8) (hn : n ≤ 8) (hV : VS tp L st) (hl : st.2.2.2.2.length ≤ st.2.1) (hm : 13 * (L - st.2.1) + (6 - 3) < f + 1) (h : PSR tp L a o n σ st) : CI G yX8_sum cX8_sum 3 (some .boolean) (dpt o n + (5 - 3)) [rf G 109, .int key] σ (PQR tp L a o n σ (ps tp L key (f + 1) 3 o n st)) := by
  refine Con.of cd_X8_sum (Nat.le_of_ble_eq_true rfl) ?_
  intro X hX hZ
  have hX : Fx X G RX8 cX8_sum 3 (dpt o n + (5 - 3)) := hX
  show RR X G 3 0 (ll [(0, rf G 109), (1, .int key)]) [] σ
  have h96 := h.1.1
  have hdq : 10 ≤ dpt o n := by unfold dpt; omega
  have hok := ps_ok (tp := tp) (L := L) (key := key) f (3 + 1) o n st
  have eF := ps_lvF (tp := tp) (L := L) (key := key) (f := f) (c := 3) (o := o) (n := n) (st := st) (by decide)
  have eT := ps_lvT (tp := tp) (L := L) (key := key) (f := f) (c := 3) (o := o) (n := n) (st := st) (by decide)
  have iS1 := iS o n st σ ho hn hV hl (by omega) h
  generalize hR : ps tp L key f (3 + 1) o n st = R at hok eF eT
  rw [hR] at iS1
  refine r_aload_n hX dX8_sum_0 rfl ⟨_, rfl⟩ (RR.pc (b := 1) rfl ?_)
  refine r_iload_n (i := 0) hX dX8_sum_1 rfl (RR.pc (b := 2) rfl ?_)
  refine r_callVi hX dX8_sum_2 ml_X8_246 cd_X8_term iv_X8_term iS1 (by omega) (by first | rfl | assumption) rfl rfl rfl rfl (Nat.le_of_ble_eq_true rfl) (fun r_2 s_2 e_2 => RR.pc (b := 5) rfl ?_)
  obtain ⟨rfl, hq, hpf, hyes⟩ := e_2
  refine r_if_ne_b (tgt := 10) hX dX8_sum_5 rfl (fun h5 => ?_) (fun h5 => RR.pc (b := 8) rfl ?_)
  · rw [eT h5] at hZ
    have hok1 := hok R.2 (by omega) hV (by rw [← h5])
    have hb1 := hok1.2.2.1 (by omega)
    have hv1 := hok1.1.1
    exact RR.cut (iL X o n R.2 _ σ hX hZ ho hn hok1.1 (hok1.2.len hl).1 (by omega) (hyes h5) hpf) (List.forall_mem_cons.mpr ⟨rfl, List.forall_mem_cons.mpr ⟨rfl, fun _ h => absurd h List.not_mem_nil⟩⟩)
  · refine r_iconst (v := 0) hX dX8_sum_8 (by decide) (RR.pc (b := 9) rfl ?_)
    exact r_zret hX hZ dX8_sum_9 (by first | rfl | exact nar_bz _) ⟨_, rfl, (by rw [eF h5]; exact ⟨rfl, hq, hpf, fun z => absurd z (by simp)⟩)⟩
set_option maxHeartbeats 4000000 in
theorem lpR_sum {G : GM} {tp : Nat → Int32} {L : Nat} {key : Int32} {a f : Nat} (ha : a ≤ 2971) (iS : LvR G tp L key a 4 yX8_term cX8_term 3 f) (iL : LpR G tp L key a 3 cX8_sum 3 f) : LpR G tp L key a 3 cX8_sum 3 (f + 1) := by
  intro X o n st σ σ0 hX hZ ho hn hV hl hm h hpf0
  have h96 := h.1.1
  have hdq : 10 ≤ dpt o n := by unfold dpt; omega
  have hk4 := hV.2.2.1
  obtain ⟨g1, g2⟩ := nx_VS (tp := tp) (L := L) (st := st) hV.2.1
  have g3 := g1.1
  have em : tp st.2.1 ∈ sgL 3 ↔ (tp st.2.1 = 43 ∨ tp st.2.1 = 45) := by
    show tp st.2.1 ∈ ([43, 45] : List Int32) ↔ _
    simp only [List.mem_cons, List.not_mem_nil, or_false]
  by_cases hc : st.1 = 1 ∧ tp st.2.1 ∈ sgL 3
  · have hb := hV.2.2.2.2.1 (by omega)
    have hm1 := em.mp hc.2
    rw [ps_lp (c := 3) hc] at hZ
    have hok := ps_ok (tp := tp) (L := L) (key := key) f (3 + 1) o n (nx tp L st)
    have iS1 := fun s => iS o n (nx tp L st) s ho hn g1 (by show st.2.2.2.2.length ≤ _; omega) (by omega)
    generalize hR : ps tp L key f (3 + 1) o n (nx tp L st) = R at hok hZ
    rw [hR] at iS1
    have hlet := h.2.1.2.2.2.1 hc.1
    have go : RR X G 3 28 (ll [(0, rf G 109), (1, .int key)]) [] σ := by
      refine r_aload_n hX dX8_sum_28 rfl ⟨_, rfl⟩ (RR.pc (b := 29) rfl ?_)
      refine r_geti hX dX8_sum_29 fl_X8_208 (by first | rfl | assumption) rfl (RR.pc (b := 32) rfl ?_)
      rw [hlet]
      refine r_istore_n hX dX8_sum_32 (by decide) (RR.pc (b := 33) rfl ?_)
      refine r_aload_n hX dX8_sum_33 rfl ⟨_, rfl⟩ (RR.pc (b := 34) rfl ?_)
      refine r_callVv hX dX8_sum_34 ml_X8_233 cd_X8_nextToken iv_X8_nextToken (c_nxt h hV) (by omega) (by first | rfl | assumption) rfl rfl rfl rfl (Nat.le_of_ble_eq_true rfl) (fun s_34 e_34 => RR.pc (b := 37) rfl ?_)
      obtain ⟨hp, hpf⟩ := e_34
      refine r_aload_n hX dX8_sum_37 rfl ⟨_, rfl⟩ (RR.pc (b := 38) rfl ?_)
      refine r_iload_n (i := 0) hX dX8_sum_38 rfl (RR.pc (b := 39) rfl ?_)
      refine r_callVi hX dX8_sum_39 ml_X8_246 cd_X8_term iv_X8_term (iS1 _ hp) (by omega) (by first | rfl | assumption) rfl rfl rfl rfl (Nat.le_of_ble_eq_true rfl) (fun r_39 s_39 e_39 => RR.pc (b := 42) rfl ?_)
      obtain ⟨rfl, hq, hpf2, hyes⟩ := e_39
      refine r_if_ne_b (tgt := 47) hX dX8_sum_42 rfl (fun h42 => ?_) (fun h42 => RR.pc (b := 45) rfl ?_)
      · rw [if_pos h42] at hZ
        have hp2 := hyes h42
        have hok1 := hok R.2 (by omega) g1 (by rw [← h42])
        have hb1 := hok1.2.2.1 (by omega)
        have hv1 := hok1.1.1
        have hl1 := hok1.2.len (by show st.2.2.2.2.length ≤ _; omega)
        have hl2 : R.2.2.2.2.2.length + (nx tp L st).2.1 ≤ st.2.2.2.2.length + R.2.2.1 := hl1.2
        refine r_aload_n hX dX8_sum_47 rfl ⟨_, rfl⟩ (RR.pc (b := 48) rfl ?_)
        refine r_iconst (v := 2) hX dX8_sum_48 (by decide) (RR.pc (b := 49) rfl ?_)
        refine r_iload_n (i := 0) hX dX8_sum_49 rfl (RR.pc (b := 50) rfl ?_)
        refine r_callVv hX dX8_sum_50 ml_X8_236 cd_X8_step iv_X8_step (c_stp (w := 2) (v := tp st.2.1) hp2 (by omega) ha) (by omega) (by first | rfl | assumption) rfl rfl rfl rfl (Nat.le_of_ble_eq_true rfl) (fun s_50 e_50 => RR.pc (b := 53) rfl ?_)
        obtain ⟨hp3, hpf3⟩ := e_50
        refine r_goto (tgt := 10) hX dX8_sum_53 rfl ?_
        rw [if_neg (by decide)] at hZ
        exact RR.cut (iL X o n (addSg R.2 (tp st.2.1)) _ σ0 hX hZ ho hn hok1.1 (by show (R.2.2.2.2.2 ++ [(2, tp st.2.1)]).length ≤ R.2.2.1; rw [List.length_append]; simp only [List.length_cons, List.length_nil]; omega) (by show 13 * (L - R.2.2.1) < f; omega) hp3 (((hpf0.tr hpf).tr hpf2).tr hpf3)) (List.forall_mem_cons.mpr ⟨rfl, List.forall_mem_cons.mpr ⟨rfl, fun _ h => absurd h List.not_mem_nil⟩⟩)
      · refine r_iconst (v := 0) hX dX8_sum_45 (by decide) (RR.pc (b := 46) rfl ?_)
        exact r_zret hX hZ dX8_sum_46 (by first | rfl | exact nar_bz _) ⟨_, rfl, (by rw [if_neg h42]; exact ⟨rfl, hq, (hpf0.tr hpf).tr hpf2, fun z => absurd z (by simp)⟩)⟩
    refine r_aload_n hX dX8_sum_10 rfl ⟨_, rfl⟩ (RR.pc (b := 11) rfl ?_)
    refine r_bipush (v := 43) hX dX8_sum_11 (by decide) (RR.pc (b := 13) rfl ?_)
    refine r_callVie hX dX8_sum_13 ml_X8_230 cd_X8_isSign iv_X8_isSign (c_X8_isSign h.2.1 hk4) (by omega) (by first | rfl | assumption) rfl rfl rfl rfl (Nat.le_of_ble_eq_true rfl) (RR.pc (b := 16) rfl ?_)
    refine r_if_ne_b (tgt := 28) hX dX8_sum_16 rfl (fun h16 => ?_) (fun h16 => RR.pc (b := 19) rfl ?_)
    · exact RR.cut go (List.forall_mem_cons.mpr ⟨rfl, List.forall_mem_cons.mpr ⟨rfl, fun _ h => absurd h List.not_mem_nil⟩⟩)
    · refine r_aload_n hX dX8_sum_19 rfl ⟨_, rfl⟩ (RR.pc (b := 20) rfl ?_)
      refine r_bipush (v := 45) hX dX8_sum_20 (by decide) (RR.pc (b := 22) rfl ?_)
      refine r_callVie hX dX8_sum_22 ml_X8_230 cd_X8_isSign iv_X8_isSign (c_X8_isSign h.2.1 hk4) (by omega) (by first | rfl | assumption) rfl rfl rfl rfl (Nat.le_of_ble_eq_true rfl) (RR.pc (b := 25) rfl ?_)
      refine r_if_eq_b (tgt := 56) hX dX8_sum_25 rfl (fun h25 => ?_) (fun h25 => RR.pc (b := 28) rfl ?_)
      · exact absurd hm1 (fun z => z.elim (fun y => h16 ⟨hc.1, y⟩) (fun y => h25 ⟨hc.1, y⟩))
      · exact RR.cut go (List.forall_mem_cons.mpr ⟨rfl, List.forall_mem_cons.mpr ⟨rfl, fun _ h => absurd h List.not_mem_nil⟩⟩)
  · have hn0 : ¬ (st.1 = 1 ∧ (tp st.2.1 = 43 ∨ tp st.2.1 = 45)) := fun z => hc ⟨z.1, em.mpr z.2⟩
    rw [ps_lpN (c := 3) hc] at hZ
    refine r_aload_n hX dX8_sum_10 rfl ⟨_, rfl⟩ (RR.pc (b := 11) rfl ?_)
    refine r_bipush (v := 43) hX dX8_sum_11 (by decide) (RR.pc (b := 13) rfl ?_)
    refine r_callVie hX dX8_sum_13 ml_X8_230 cd_X8_isSign iv_X8_isSign (c_X8_isSign h.2.1 hk4) (by omega) (by first | rfl | assumption) rfl rfl rfl rfl (Nat.le_of_ble_eq_true rfl) (RR.pc (b := 16) rfl ?_)
    refine r_if_ne_b (tgt := 28) hX dX8_sum_16 rfl (fun h16 => absurd h16 (fun z => hn0 ⟨z.1, Or.inl z.2⟩)) (fun h16 => RR.pc (b := 19) rfl ?_)
    refine r_aload_n hX dX8_sum_19 rfl ⟨_, rfl⟩ (RR.pc (b := 20) rfl ?_)
    refine r_bipush (v := 45) hX dX8_sum_20 (by decide) (RR.pc (b := 22) rfl ?_)
    refine r_callVie hX dX8_sum_22 ml_X8_230 cd_X8_isSign iv_X8_isSign (c_X8_isSign h.2.1 hk4) (by omega) (by first | rfl | assumption) rfl rfl rfl rfl (Nat.le_of_ble_eq_true rfl) (RR.pc (b := 25) rfl ?_)
    refine r_if_eq_b (tgt := 56) hX dX8_sum_25 rfl (fun h25 => ?_) (fun h25 => absurd h25 (fun z => hn0 ⟨z.1, Or.inr z.2⟩))
    refine r_iconst (v := 1) hX dX8_sum_56 (by decide) (RR.pc (b := 57) rfl ?_)
    exact r_zret hX hZ dX8_sum_57 (by first | rfl | exact nar_bz _) ⟨_, rfl, ⟨rfl, h.2.1.1, hpf0, fun _ => h⟩⟩
set_option maxHeartbeats 4000000 in
set_option maxRecDepth 100000 in
theorem lvR_term {G : GM} {tp : Nat → Int32} {L : Nat} {key : Int32} {a f o n : Nat} {st : St} {σ : SG} (iS : LvR G tp L key a 5 yX8_part0 cX8_part0 2 f) (iL : LpR G tp L key a 4 cX8_term 3 f) (ho : o ≤ 8) (hn : n ≤ 8) (hV : VS tp L st) (hl : st.2.2.2.2.length ≤ st.2.1) (hm : 13 * (L - st.2.1) + (6 - 4) < f + 1) (h : PSR tp L a o n σ st) : CI G yX8_term cX8_term 3 (some .boolean) (dpt o n + (5 - 4)) [rf G 109, .int key] σ (PQR tp L a o n σ (ps tp L key (f + 1) 4 o n st)) := by
  refine Con.of cd_X8_term (Nat.le_of_ble_eq_true rfl) ?_
  intro X hX hZ
  have hX : Fx X G RX8 cX8_term 3 (dpt o n + (5 - 4)) := hX
  show RR X G 3 0 (ll [(0, rf G 109), (1, .int key)]) [] σ
  have h96 := h.1.1
  have hdq : 10 ≤ dpt o n := by unfold dpt; omega
  have hok := ps_ok (tp := tp) (L := L) (key := key) f (4 + 1) o n st
  have eF := ps_lvF (tp := tp) (L := L) (key := key) (f := f) (c := 4) (o := o) (n := n) (st := st) (by decide)
  have eT := ps_lvT (tp := tp) (L := L) (key := key) (f := f) (c := 4) (o := o) (n := n) (st := st) (by decide)
  have iS1 := iS o n st σ ho hn hV hl (by omega) h
  generalize hR : ps tp L key f (4 + 1) o n st = R at hok eF eT
  rw [hR] at iS1
  refine r_aload_n hX dX8_term_0 rfl ⟨_, rfl⟩ (RR.pc (b := 1) rfl ?_)
  refine r_iload_n (i := 0) hX dX8_term_1 rfl (RR.pc (b := 2) rfl ?_)
  refine r_callVi hX dX8_term_2 ml_X8_249 cd_X8_part0 iv_X8_part0 iS1 (by omega) (by first | rfl | assumption) rfl rfl rfl rfl (Nat.le_of_ble_eq_true rfl) (fun r_2 s_2 e_2 => RR.pc (b := 5) rfl ?_)
  obtain ⟨rfl, hq, hpf, hyes⟩ := e_2
  refine r_if_ne_b (tgt := 10) hX dX8_term_5 rfl (fun h5 => ?_) (fun h5 => RR.pc (b := 8) rfl ?_)
  · rw [eT h5] at hZ
    have hok1 := hok R.2 (by omega) hV (by rw [← h5])
    have hb1 := hok1.2.2.1 (by omega)
    have hv1 := hok1.1.1
    exact RR.cut (iL X o n R.2 _ σ hX hZ ho hn hok1.1 (hok1.2.len hl).1 (by omega) (hyes h5) hpf) (List.forall_mem_cons.mpr ⟨rfl, List.forall_mem_cons.mpr ⟨rfl, fun _ h => absurd h List.not_mem_nil⟩⟩)
  · refine r_iconst (v := 0) hX dX8_term_8 (by decide) (RR.pc (b := 9) rfl ?_)
    exact r_zret hX hZ dX8_term_9 (by first | rfl | exact nar_bz _) ⟨_, rfl, (by rw [eF h5]; exact ⟨rfl, hq, hpf, fun z => absurd z (by simp)⟩)⟩
set_option maxHeartbeats 4000000 in
theorem lpR_term {G : GM} {tp : Nat → Int32} {L : Nat} {key : Int32} {a f : Nat} (ha : a ≤ 2971) (iS : LvR G tp L key a 5 yX8_part0 cX8_part0 2 f) (iL : LpR G tp L key a 4 cX8_term 3 f) : LpR G tp L key a 4 cX8_term 3 (f + 1) := by
  intro X o n st σ σ0 hX hZ ho hn hV hl hm h hpf0
  have h96 := h.1.1
  have hdq : 10 ≤ dpt o n := by unfold dpt; omega
  have hk4 := hV.2.2.1
  obtain ⟨g1, g2⟩ := nx_VS (tp := tp) (L := L) (st := st) hV.2.1
  have g3 := g1.1
  have em : tp st.2.1 ∈ sgL 4 ↔ (tp st.2.1 = 42 ∨ tp st.2.1 = 47) := by
    show tp st.2.1 ∈ ([42, 47] : List Int32) ↔ _
    simp only [List.mem_cons, List.not_mem_nil, or_false]
  by_cases hc : st.1 = 1 ∧ tp st.2.1 ∈ sgL 4
  · have hb := hV.2.2.2.2.1 (by omega)
    have hm1 := em.mp hc.2
    rw [ps_lp (c := 4) hc] at hZ
    have hok := ps_ok (tp := tp) (L := L) (key := key) f (4 + 1) o n (nx tp L st)
    have iS1 := fun s => iS o n (nx tp L st) s ho hn g1 (by show st.2.2.2.2.length ≤ _; omega) (by omega)
    generalize hR : ps tp L key f (4 + 1) o n (nx tp L st) = R at hok hZ
    rw [hR] at iS1
    have hlet := h.2.1.2.2.2.1 hc.1
    have go : RR X G 3 28 (ll [(0, rf G 109), (1, .int key)]) [] σ := by
      refine r_aload_n hX dX8_term_28 rfl ⟨_, rfl⟩ (RR.pc (b := 29) rfl ?_)
      refine r_geti hX dX8_term_29 fl_X8_208 (by first | rfl | assumption) rfl (RR.pc (b := 32) rfl ?_)
      rw [hlet]
      refine r_istore_n hX dX8_term_32 (by decide) (RR.pc (b := 33) rfl ?_)
      refine r_aload_n hX dX8_term_33 rfl ⟨_, rfl⟩ (RR.pc (b := 34) rfl ?_)
      refine r_callVv hX dX8_term_34 ml_X8_233 cd_X8_nextToken iv_X8_nextToken (c_nxt h hV) (by omega) (by first | rfl | assumption) rfl rfl rfl rfl (Nat.le_of_ble_eq_true rfl) (fun s_34 e_34 => RR.pc (b := 37) rfl ?_)
      obtain ⟨hp, hpf⟩ := e_34
      refine r_aload_n hX dX8_term_37 rfl ⟨_, rfl⟩ (RR.pc (b := 38) rfl ?_)
      refine r_iload_n (i := 0) hX dX8_term_38 rfl (RR.pc (b := 39) rfl ?_)
      refine r_callVi hX dX8_term_39 ml_X8_249 cd_X8_part0 iv_X8_part0 (iS1 _ hp) (by omega) (by first | rfl | assumption) rfl rfl rfl rfl (Nat.le_of_ble_eq_true rfl) (fun r_39 s_39 e_39 => RR.pc (b := 42) rfl ?_)
      obtain ⟨rfl, hq, hpf2, hyes⟩ := e_39
      refine r_if_ne_b (tgt := 47) hX dX8_term_42 rfl (fun h42 => ?_) (fun h42 => RR.pc (b := 45) rfl ?_)
      · rw [if_pos h42] at hZ
        have hp2 := hyes h42
        have hok1 := hok R.2 (by omega) g1 (by rw [← h42])
        have hb1 := hok1.2.2.1 (by omega)
        have hv1 := hok1.1.1
        have hl1 := hok1.2.len (by show st.2.2.2.2.length ≤ _; omega)
        have hl2 : R.2.2.2.2.2.length + (nx tp L st).2.1 ≤ st.2.2.2.2.length + R.2.2.1 := hl1.2
        refine r_aload_n hX dX8_term_47 rfl ⟨_, rfl⟩ (RR.pc (b := 48) rfl ?_)
        refine r_iconst (v := 2) hX dX8_term_48 (by decide) (RR.pc (b := 49) rfl ?_)
        refine r_iload_n (i := 0) hX dX8_term_49 rfl (RR.pc (b := 50) rfl ?_)
        refine r_callVv hX dX8_term_50 ml_X8_236 cd_X8_step iv_X8_step (c_stp (w := 2) (v := tp st.2.1) hp2 (by omega) ha) (by omega) (by first | rfl | assumption) rfl rfl rfl rfl (Nat.le_of_ble_eq_true rfl) (fun s_50 e_50 => RR.pc (b := 53) rfl ?_)
        obtain ⟨hp3, hpf3⟩ := e_50
        refine r_goto (tgt := 10) hX dX8_term_53 rfl ?_
        rw [if_neg (by decide)] at hZ
        exact RR.cut (iL X o n (addSg R.2 (tp st.2.1)) _ σ0 hX hZ ho hn hok1.1 (by show (R.2.2.2.2.2 ++ [(2, tp st.2.1)]).length ≤ R.2.2.1; rw [List.length_append]; simp only [List.length_cons, List.length_nil]; omega) (by show 13 * (L - R.2.2.1) < f; omega) hp3 (((hpf0.tr hpf).tr hpf2).tr hpf3)) (List.forall_mem_cons.mpr ⟨rfl, List.forall_mem_cons.mpr ⟨rfl, fun _ h => absurd h List.not_mem_nil⟩⟩)
      · refine r_iconst (v := 0) hX dX8_term_45 (by decide) (RR.pc (b := 46) rfl ?_)
        exact r_zret hX hZ dX8_term_46 (by first | rfl | exact nar_bz _) ⟨_, rfl, (by rw [if_neg h42]; exact ⟨rfl, hq, (hpf0.tr hpf).tr hpf2, fun z => absurd z (by simp)⟩)⟩
    refine r_aload_n hX dX8_term_10 rfl ⟨_, rfl⟩ (RR.pc (b := 11) rfl ?_)
    refine r_bipush (v := 42) hX dX8_term_11 (by decide) (RR.pc (b := 13) rfl ?_)
    refine r_callVie hX dX8_term_13 ml_X8_230 cd_X8_isSign iv_X8_isSign (c_X8_isSign h.2.1 hk4) (by omega) (by first | rfl | assumption) rfl rfl rfl rfl (Nat.le_of_ble_eq_true rfl) (RR.pc (b := 16) rfl ?_)
    refine r_if_ne_b (tgt := 28) hX dX8_term_16 rfl (fun h16 => ?_) (fun h16 => RR.pc (b := 19) rfl ?_)
    · exact RR.cut go (List.forall_mem_cons.mpr ⟨rfl, List.forall_mem_cons.mpr ⟨rfl, fun _ h => absurd h List.not_mem_nil⟩⟩)
    · refine r_aload_n hX dX8_term_19 rfl ⟨_, rfl⟩ (RR.pc (b := 20) rfl ?_)
      refine r_bipush (v := 47) hX dX8_term_20 (by decide) (RR.pc (b := 22) rfl ?_)
      refine r_callVie hX dX8_term_22 ml_X8_230 cd_X8_isSign iv_X8_isSign (c_X8_isSign h.2.1 hk4) (by omega) (by first | rfl | assumption) rfl rfl rfl rfl (Nat.le_of_ble_eq_true rfl) (RR.pc (b := 25) rfl ?_)
      refine r_if_eq_b (tgt := 56) hX dX8_term_25 rfl (fun h25 => ?_) (fun h25 => RR.pc (b := 28) rfl ?_)
      · exact absurd hm1 (fun z => z.elim (fun y => h16 ⟨hc.1, y⟩) (fun y => h25 ⟨hc.1, y⟩))
      · exact RR.cut go (List.forall_mem_cons.mpr ⟨rfl, List.forall_mem_cons.mpr ⟨rfl, fun _ h => absurd h List.not_mem_nil⟩⟩)
  · have hn0 : ¬ (st.1 = 1 ∧ (tp st.2.1 = 42 ∨ tp st.2.1 = 47)) := fun z => hc ⟨z.1, em.mpr z.2⟩
    rw [ps_lpN (c := 4) hc] at hZ
    refine r_aload_n hX dX8_term_10 rfl ⟨_, rfl⟩ (RR.pc (b := 11) rfl ?_)
    refine r_bipush (v := 42) hX dX8_term_11 (by decide) (RR.pc (b := 13) rfl ?_)
    refine r_callVie hX dX8_term_13 ml_X8_230 cd_X8_isSign iv_X8_isSign (c_X8_isSign h.2.1 hk4) (by omega) (by first | rfl | assumption) rfl rfl rfl rfl (Nat.le_of_ble_eq_true rfl) (RR.pc (b := 16) rfl ?_)
    refine r_if_ne_b (tgt := 28) hX dX8_term_16 rfl (fun h16 => absurd h16 (fun z => hn0 ⟨z.1, Or.inl z.2⟩)) (fun h16 => RR.pc (b := 19) rfl ?_)
    refine r_aload_n hX dX8_term_19 rfl ⟨_, rfl⟩ (RR.pc (b := 20) rfl ?_)
    refine r_bipush (v := 47) hX dX8_term_20 (by decide) (RR.pc (b := 22) rfl ?_)
    refine r_callVie hX dX8_term_22 ml_X8_230 cd_X8_isSign iv_X8_isSign (c_X8_isSign h.2.1 hk4) (by omega) (by first | rfl | assumption) rfl rfl rfl rfl (Nat.le_of_ble_eq_true rfl) (RR.pc (b := 25) rfl ?_)
    refine r_if_eq_b (tgt := 56) hX dX8_term_25 rfl (fun h25 => ?_) (fun h25 => absurd h25 (fun z => hn0 ⟨z.1, Or.inr z.2⟩))
    refine r_iconst (v := 1) hX dX8_term_56 (by decide) (RR.pc (b := 57) rfl ?_)
    exact r_zret hX hZ dX8_term_57 (by first | rfl | exact nar_bz _) ⟨_, rfl, ⟨rfl, h.2.1.1, hpf0, fun _ => h⟩⟩
theorem all_R {G : GM} {tp : Nat → Int32} {L : Nat} {key : Int32} {a : Nat} (ha : a ≤ 2971) : ∀ f, ((LvR G tp L key a 0 yX8_either cX8_either 2 f) ∧ (LvR G tp L key a 1 yX8_both cX8_both 2 f) ∧ (LvR G tp L key a 2 yX8_test cX8_test 3 f) ∧ (LvR G tp L key a 3 yX8_sum cX8_sum 3 f) ∧ (LvR G tp L key a 4 yX8_term cX8_term 3 f) ∧ (LvR G tp L key a 5 yX8_part0 cX8_part0 2 f)) ∧ (LpR G tp L key a 0 cX8_either 2 f) ∧ (LpR G tp L key a 1 cX8_both 2 f) ∧ (LpR G tp L key a 2 cX8_test 3 f) ∧ (LpR G tp L key a 3 cX8_sum 3 f) ∧ (LpR G tp L key a 4 cX8_term 3 f) := by
  intro f
  induction f with
  | zero => exact ⟨⟨fun _ _ _ _ _ _ _ _ h _ => absurd h (Nat.not_lt_zero _), fun _ _ _ _ _ _ _ _ h _ => absurd h (Nat.not_lt_zero _), fun _ _ _ _ _ _ _ _ h _ => absurd h (Nat.not_lt_zero _), fun _ _ _ _ _ _ _ _ h _ => absurd h (Nat.not_lt_zero _), fun _ _ _ _ _ _ _ _ h _ => absurd h (Nat.not_lt_zero _), fun _ _ _ _ _ _ _ _ h _ => absurd h (Nat.not_lt_zero _)⟩, fun _ _ _ _ _ _ _ _ _ _ _ _ h _ _ => absurd h (Nat.not_lt_zero _), fun _ _ _ _ _ _ _ _ _ _ _ _ h _ _ => absurd h (Nat.not_lt_zero _), fun _ _ _ _ _ _ _ _ _ _ _ _ h _ _ => absurd h (Nat.not_lt_zero _), fun _ _ _ _ _ _ _ _ _ _ _ _ h _ _ => absurd h (Nat.not_lt_zero _), fun _ _ _ _ _ _ _ _ _ _ _ _ h _ _ => absurd h (Nat.not_lt_zero _)⟩
  | succ f ih =>
    obtain ⟨⟨i0, i1, i2, i3, i4, i5⟩, p0, p1, p2, p3, p4⟩ := ih
    exact ⟨⟨fun o n st σ ho hn hV hl hm h => lvR_either i1 p0 ho hn hV hl hm h, fun o n st σ ho hn hV hl hm h => lvR_both i2 p1 ho hn hV hl hm h, fun o n st σ ho hn hV hl hm h => lvR_test i3 p2 ho hn hV hl hm h, fun o n st σ ho hn hV hl hm h => lvR_sum i4 p3 ho hn hV hl hm h, fun o n st σ ho hn hV hl hm h => lvR_term i5 p4 ho hn hV hl hm h, fun o n st σ ho hn hV hl hm h => ptR_step i0 i5 ha ho hn hV hl hm h⟩, lpR_either ha i1 p0, lpR_both ha i2 p1, lpR_test ha i3, lpR_sum ha i4 p3, lpR_term ha i5 p4⟩
