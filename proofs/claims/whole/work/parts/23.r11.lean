/-! the reference: whose -/
theorem whoB_nn {g : Nat → Int32} : ∀ o, 0 < o → ∃ j, j < o ∧ whoB g o = nI j := by
  intro o
  induction o with
  | zero => intro h; omega
  | succ k ih =>
    intro _
    unfold whoB
    by_cases h : k = 0 ∨ g k < whoL g k
    · rw [if_pos h]; exact ⟨k, by omega, rfl⟩
    · rw [if_neg h]
      obtain ⟨j, hj, e⟩ := ih (by omega)
      exact ⟨j, by omega, e⟩
set_option maxHeartbeats 4000000 in
set_option maxRecDepth 100000 in
theorem c_X8_whose {G : GM} {σ : SG} {Ts : Nat → Tx} {nt n m : Nat} {sheet q what : Int32} (hT : RT (σ 20) Ts nt) (hW : WO (σ 20) n m) (hm : m ≤ 9999) (hz : ∀ a, a < 4 → ∃ z : Nat, z ≤ 24 ∧ σ 24 a = nI z) : CI G yX8_whose cX8_whose 10 (some .int) 6 [rf G 109, .int sheet, .int q, .int what] σ (fun r s => r = whosF (lkV Ts nt) n (σ 20) (shR σ) sheet q what ∧ same [31, 33, 34] σ s) := by
  refine Con.of cd_X8_whose (Nat.le_of_ble_eq_true rfl) ?_
  intro X hX hZ
  have hX : Fx X G RX8 cX8_whose 10 6 := hX
  show RR X G 10 0 (ll [(0, rf G 109), (1, .int sheet), (2, .int q), (3, .int what)]) [] σ
  have hV : VO (lkV Ts nt) := lkV_VO
  have h8 := hW.2.1
  have bad : ¬ ((0 ≤ sheet.toInt ∧ sheet.toInt ≤ 3) ∧ (0 ≤ q.toInt ∧ q.toInt ≤ 60) ∧ (0 ≤ what.toInt ∧ what.toInt ≤ 1)) → RR X G 10 29 (ll [(0, rf G 109)]) [] σ := by
    intro h
    refine r_ldc hX dX8_whose_29 kc_X8_84 (RR.pc (b := 31) rfl ?_)
    exact r_iret hX hZ dX8_whose_31 ⟨_, rfl, ⟨by unfold whosF; by_cases h1 : (0 ≤ sheet.toInt ∧ sheet.toInt < (4 : Nat)); (obtain ⟨a, ha, rfl⟩ := ix_of h1 (by omega); rw [ix_some ha (by omega)]; dsimp only; rw [if_neg (fun z => h ⟨by omega, z⟩)]); (rw [ix_none h1]), same.rf⟩⟩
  have go : ∀ a z c, a < 4 → z ≤ 24 → c ≤ 60 → sheet = nI a → q = nI c → σ 24 a = nI z → whosF (lkV Ts nt) n (σ 20) (shR σ) sheet q what = wsoF (lkV Ts nt) n (σ 20) (shR σ a) z c what → RR X G 10 45 (ll [(0, rf G 109), (1, .int sheet), (2, .int q), (3, .int what)]) [] σ := by
    intro a z c ha hz1 hc e1 e2 hz2 hF
    subst e1; subst e2
    generalize hg : whoV (lkV Ts nt) n (σ 20) (shR σ a) z c = g
    have hF2 : whosF (lkV Ts nt) n (σ 20) (shR σ) (nI a) (nI c) what = if n = 0 then vNONE else if what = 0 then whoB g n else whoL g n := by rw [hF, ← hg]; rfl
    rw [hF2] at hZ
    have outer := loopK n (fun o => ∀ σ1 : SG, σ1 20 = σ 20 → σ1 31 = cpL (σ 31) (σ 20) 171 → same [31, 33, 34] σ σ1 → RR X G 10 58 (ll [(0, rf G 109), (1, .int (nI a)), (2, .int (nI c)), (3, .int what), (4, .int (whoB g o)), (5, .int (whoL g o)), (6, .int (nI o))]) [] σ1) (by
      intro o ho ih σ1 f20 f31 fs
      refine r_iload hX dX8_whose_58 rfl (RR.pc (b := 60) rfl ?_)
      refine r_aload_n hX dX8_whose_60 rfl ⟨_, rfl⟩ (RR.pc (b := 61) rfl ?_)
      refine r_getr hX dX8_whose_61 fl_X8_7 (by first | rfl | assumption) rfl (RR.pc (b := 64) rfl ?_)
      refine r_iconst (v := 0) hX dX8_whose_64 (by decide) (RR.pc (b := 65) rfl ?_)
      refine r_iald hX dX8_whose_65 (by first | rfl | assumption) (by first | rfl | assumption) (by first | decide | assumption | omega) (by decide) (by first | exact Nat.zero_add _ | rfl) (RR.pc (b := 66) rfl ?_)
      rw [f20, hW.1]
      refine r_icmp_ge (tgt := 217) hX dX8_whose_66 rfl (fun h66 => ?_) (fun h66 => RR.pc (b := 69) rfl ?_)
      · have ho2 : o = n := by rw [nI_leI (by omega) (by omega)] at h66; omega
        subst ho2
        by_cases hn0 : o = 0
        · subst hn0
          refine r_iload hX dX8_whose_217 rfl (RR.pc (b := 219) rfl ?_)
          refine r_if_ge (tgt := 227) hX dX8_whose_219 rfl (fun h219 => absurd h219 (show ¬ (0 : Int32) ≤ -1 by decide)) (fun h219 => RR.pc (b := 222) rfl ?_)
          refine r_ldc hX dX8_whose_222 kc_X8_64 (RR.pc (b := 224) rfl ?_)
          refine r_goto (tgt := 238) hX dX8_whose_224 rfl ?_
          exact r_iret hX hZ dX8_whose_238 ⟨_, rfl, ⟨by rw [if_pos rfl], fs⟩⟩
        · obtain ⟨j, hj, ej⟩ := whoB_nn (g := g) o (by omega)
          refine r_iload hX dX8_whose_217 rfl (RR.pc (b := 219) rfl ?_)
          rw [ej]
          refine r_if_ge (tgt := 227) hX dX8_whose_219 rfl (fun h219 => ?_) (fun h219 => absurd (nI_pos' (by omega)) h219)
          refine r_iload_n (i := 0) hX dX8_whose_227 rfl (RR.pc (b := 228) rfl ?_)
          refine r_if_ne (tgt := 236) hX dX8_whose_228 rfl (fun h228 => ?_) (fun h228 => RR.pc (b := 231) rfl ?_)
          · refine r_iload hX dX8_whose_236 rfl (RR.pc (b := 238) rfl ?_)
            exact r_iret hX hZ dX8_whose_238 ⟨_, rfl, ⟨by rw [if_neg hn0]; first | (rw [if_pos h228, ej]) | (rw [if_neg h228]), fs⟩⟩
          · rw [← ej] at *
            refine r_iload hX dX8_whose_231 rfl (RR.pc (b := 233) rfl ?_)
            refine r_goto (tgt := 238) hX dX8_whose_233 rfl ?_
            exact r_iret hX hZ dX8_whose_238 ⟨_, rfl, ⟨by rw [if_neg hn0]; first | (rw [if_pos h228, ej]) | (rw [if_neg h228]), fs⟩⟩
      · have ho2 : o < n := by rw [nI_leI (by omega) (by omega)] at h66; omega
        have hWa : WO (aloW (σ 20) o n) n m := aloW_WO hW n (Nat.le_refl n)
        have hTa : RT (aloW (σ 20) o n) Ts nt := hT.congr (aloW_out (fun j hj => by omega)) (fun i hi => aloW_out (fun j hj => by omega))
        -- behind the minutes
        have in2 : ∀ τ : SG, τ 20 = minN (lkV Ts nt) n (aloW (σ 20) o n) c → τ 31 = cpL (σ 31) (σ 20) 171 → same [20, 31, 33, 34] σ τ → RR X G 10 119 (ll [(0, rf G 109), (1, .int (nI a)), (2, .int (nI c)), (3, .int what), (4, .int (whoB g o)), (5, .int (whoL g o)), (6, .int (nI o))]) [] τ := by
          intro τ t20 t31 ts
          have t24 : τ 24 = σ 24 := ts 24 (by decide)
          have t25 : τ 25 = σ 25 := ts 25 (by decide)
          have loop := loopK z (fun k => RR X G 10 125 (ll [(0, rf G 109), (1, .int (nI a)), (2, .int (nI c)), (3, .int what), (4, .int (whoB g o)), (5, .int (whoL g o)), (6, .int (nI o)), (7, .int (difS (shR σ a) (τ 20) k)), (8, .int (nI k))]) [] τ) (by
            intro k hk ihk
            refine r_iload hX dX8_whose_125 rfl (RR.pc (b := 127) rfl ?_)
            refine r_aload_n hX dX8_whose_127 rfl ⟨_, rfl⟩ (RR.pc (b := 128) rfl ?_)
            refine r_getr hX dX8_whose_128 fl_X8_22 (by first | rfl | assumption) rfl (RR.pc (b := 131) rfl ?_)
            refine r_iload_n (i := 0) hX dX8_whose_131 rfl (RR.pc (b := 132) rfl ?_)
            refine r_iald hX dX8_whose_132 (by first | rfl | assumption) rfl (by omega) (by decide) (by first | exact Nat.zero_add _ | rfl) (RR.pc (b := 133) rfl ?_)
            rw [t24, hz2]
            refine r_icmp_ge (tgt := 187) hX dX8_whose_133 rfl (fun h133 => ?_) (fun h133 => RR.pc (b := 136) rfl ?_)
            · have hk2 : k = z := by rw [nI_leI (by omega) (by omega)] at h133; omega
              subst hk2
              have hgo : difS (shR σ a) (τ 20) k = g o := by rw [← hg, t20]; rfl
              have hl := laid (fun i hi => by rw [t20, minN_out hV hWa (by omega)]; exact aloW_out (fun j hj => by omega)) t31 ts (by simp)
              have yes : (o = 0 ∨ g o < whoL g o) → RR X G 10 203 (ll [(0, rf G 109), (1, .int (nI a)), (2, .int (nI c)), (3, .int what), (6, .int (nI o)), (7, .int (g o))]) [] (sr τ 20 (cpL (τ 20) (τ 31) 171)) := by
                intro hy
                refine r_iload hX dX8_whose_203 rfl (RR.pc (b := 205) rfl ?_)
                refine r_istore hX dX8_whose_205 (by decide) (RR.pc (b := 207) rfl ?_)
                refine r_iload hX dX8_whose_207 rfl (RR.pc (b := 209) rfl ?_)
                refine r_istore hX dX8_whose_209 (by decide) (RR.pc (b := 211) rfl ?_)
                refine r_iinc hX dX8_whose_211 rfl (by decide) (nI_1 o) (RR.pc (b := 214) rfl ?_)
                refine r_goto (tgt := 58) hX dX8_whose_214 rfl ?_
                refine RR.cut (ih ho2 _ (hl 20 (by decide)) ((sr_ne (by decide)).trans t31) hl) (List.forall_mem_cons.mpr ⟨rfl, List.forall_mem_cons.mpr ⟨rfl, List.forall_mem_cons.mpr ⟨rfl, List.forall_mem_cons.mpr ⟨rfl, List.forall_mem_cons.mpr ⟨?_, List.forall_mem_cons.mpr ⟨?_, List.forall_mem_cons.mpr ⟨rfl, fun _ h => absurd h List.not_mem_nil⟩⟩⟩⟩⟩⟩⟩)
                · show some (Value.int (nI o)) = some (Value.int (whoB g (o + 1)))
                  rw [whoB, if_pos hy]
                · show some (Value.int (g o)) = some (Value.int (whoL g (o + 1)))
                  rw [whoL, if_pos hy]
              refine r_aload_n hX dX8_whose_187 rfl ⟨_, rfl⟩ (RR.pc (b := 188) rfl ?_)
              refine r_callVve hX dX8_whose_188 ml_X8_172 cd_X8_laysBack iv_X8_laysBack c_X8_laysBack (by decide) (by first | rfl | assumption) rfl rfl rfl rfl (Nat.le_of_ble_eq_true rfl) (RR.pc (b := 191) rfl ?_)
              refine r_iload hX dX8_whose_191 rfl (RR.pc (b := 193) rfl ?_)
              rw [hgo]
              refine r_if_lt (tgt := 203) hX dX8_whose_193 rfl (fun h193 => ?_) (fun h193 => RR.pc (b := 196) rfl ?_)
              · have h0 : o = 0 := by
                  by_cases e : o = 0
                  · exact e
                  · obtain ⟨j, hj, ej⟩ := whoB_nn (g := g) o (by omega)
                    rw [ej] at h193
                    exact absurd h193 (nI_pos (by omega))
                exact RR.cut (yes (Or.inl h0)) (List.forall_mem_cons.mpr ⟨rfl, List.forall_mem_cons.mpr ⟨rfl, List.forall_mem_cons.mpr ⟨rfl, List.forall_mem_cons.mpr ⟨rfl, List.forall_mem_cons.mpr ⟨rfl, List.forall_mem_cons.mpr ⟨rfl, fun _ h => absurd h List.not_mem_nil⟩⟩⟩⟩⟩⟩)
              · have h0 : o ≠ 0 := fun e => h193 (by rw [e]; exact (show (-1 : Int32) < 0 by decide))
                refine r_iload hX dX8_whose_196 rfl (RR.pc (b := 198) rfl ?_)
                refine r_iload hX dX8_whose_198 rfl (RR.pc (b := 200) rfl ?_)
                refine r_icmp_ge (tgt := 211) hX dX8_whose_200 rfl (fun h200 => ?_) (fun h200 => RR.pc (b := 203) rfl (RR.cut (yes (Or.inr (Int32.not_le.mp h200))) (List.forall_mem_cons.mpr ⟨rfl, List.forall_mem_cons.mpr ⟨rfl, List.forall_mem_cons.mpr ⟨rfl, List.forall_mem_cons.mpr ⟨rfl, List.forall_mem_cons.mpr ⟨rfl, List.forall_mem_cons.mpr ⟨rfl, fun _ h => absurd h List.not_mem_nil⟩⟩⟩⟩⟩⟩)))
                have hno : ¬ (o = 0 ∨ g o < whoL g o) := fun z => z.elim h0 (fun y => absurd y (Int32.not_lt.mpr h200))
                refine r_iinc hX dX8_whose_211 rfl (by decide) (nI_1 o) (RR.pc (b := 214) rfl ?_)
                refine r_goto (tgt := 58) hX dX8_whose_214 rfl ?_
                refine RR.cut (ih ho2 _ (hl 20 (by decide)) ((sr_ne (by decide)).trans t31) hl) (List.forall_mem_cons.mpr ⟨rfl, List.forall_mem_cons.mpr ⟨rfl, List.forall_mem_cons.mpr ⟨rfl, List.forall_mem_cons.mpr ⟨rfl, List.forall_mem_cons.mpr ⟨?_, List.forall_mem_cons.mpr ⟨?_, List.forall_mem_cons.mpr ⟨rfl, fun _ h => absurd h List.not_mem_nil⟩⟩⟩⟩⟩⟩⟩)
                · show some (Value.int (whoB g o)) = some (Value.int (whoB g (o + 1)))
                  rw [whoB, if_neg hno]
                · show some (Value.int (whoL g o)) = some (Value.int (whoL g (o + 1)))
                  rw [whoL, if_neg hno]
            · have hk2 : k < z := by rw [nI_leI (by omega) (by omega)] at h133; omega
              refine r_aload_n hX dX8_whose_136 rfl ⟨_, rfl⟩ (RR.pc (b := 137) rfl ?_)
              refine r_getr hX dX8_whose_137 fl_X8_25 (by first | rfl | assumption) rfl (RR.pc (b := 140) rfl ?_)
              refine r_bipush (v := 24) hX dX8_whose_140 (by decide) (RR.pc (b := 142) rfl ?_)
              refine r_iload_n (i := 0) hX dX8_whose_142 rfl (RR.pc (b := 143) rfl ?_)
              refine r_imul hX dX8_whose_143 (RR.pc (b := 144) rfl ?_)
              refine r_iload hX dX8_whose_144 rfl (RR.pc (b := 146) rfl ?_)
              refine r_iadd hX dX8_whose_146 (RR.pc (b := 147) rfl ?_)
              refine r_iald hX dX8_whose_147 (by first | rfl | assumption) (ix24 a k) (by omega) (by decide) (by first | exact Nat.zero_add _ | rfl) (RR.pc (b := 148) rfl ?_)
              rw [t25, ← shR_pl (σ := σ) (a := a) (j := k) (by omega)]
              refine r_istore hX dX8_whose_148 (by decide) (RR.pc (b := 150) rfl ?_)
              refine r_iload hX dX8_whose_150 rfl (RR.pc (b := 152) rfl ?_)
              refine r_iload hX dX8_whose_152 rfl (RR.pc (b := 154) rfl ?_)
              refine r_ldc hX dX8_whose_154 kc_X8_64 (RR.pc (b := 156) rfl ?_)
              refine r_dia2 178 (if shR σ a k = vNONE then 0 else offI (shR σ a k) (τ 20 (11 + k))) (fun hj156 => ?_) ?_
              · refine r_icmp_ne (tgt := 163) hX dX8_whose_156 rfl (fun h156 => ?_) (fun h156 => RR.pc (b := 159) rfl ?_)
                · refine r_iload hX dX8_whose_163 rfl (RR.pc (b := 165) rfl ?_)
                  refine r_aload_n hX dX8_whose_165 rfl ⟨_, rfl⟩ (RR.pc (b := 166) rfl ?_)
                  refine r_getr hX dX8_whose_166 fl_X8_7 (by first | rfl | assumption) rfl (RR.pc (b := 169) rfl ?_)
                  refine r_bipush (v := 11) hX dX8_whose_169 (by decide) (RR.pc (b := 171) rfl ?_)
                  refine r_iload hX dX8_whose_171 rfl (RR.pc (b := 173) rfl ?_)
                  refine r_iadd hX dX8_whose_173 (RR.pc (b := 174) rfl ?_)
                  refine r_iald hX dX8_whose_174 (by first | rfl | assumption) (nI_add 11 k) (by omega) (by decide) (by first | exact Nat.zero_add _ | rfl) (RR.pc (b := 175) rfl ?_)
                  refine r_callSie hX dX8_whose_175 ml_X8_297 cd_X8_off st_X8_off c_X8_off (by decide) rfl rfl (Nat.le_of_ble_eq_true rfl) (RR.pc (b := 178) rfl ?_)
                  exact RR.eqt (congrArg (fun q => Value.int q :: _) (if_neg h156).symm) hj156
                · refine r_iconst (v := 0) hX dX8_whose_159 (by decide) (RR.pc (b := 160) rfl ?_)
                  refine r_goto (tgt := 178) hX dX8_whose_160 rfl ?_
                  exact RR.eqt (congrArg (fun q => Value.int q :: _) (if_pos h156).symm) hj156
              refine r_iadd hX dX8_whose_178 (RR.pc (b := 179) rfl ?_)
              refine r_istore hX dX8_whose_179 (by decide) (RR.pc (b := 181) rfl ?_)
              refine r_iinc hX dX8_whose_181 rfl (by decide) (nI_1 k) (RR.pc (b := 184) rfl ?_)
              refine r_goto (tgt := 125) hX dX8_whose_184 rfl ?_
              exact RR.cut (ihk hk2) (List.forall_mem_cons.mpr ⟨rfl, List.forall_mem_cons.mpr ⟨rfl, List.forall_mem_cons.mpr ⟨rfl, List.forall_mem_cons.mpr ⟨rfl, List.forall_mem_cons.mpr ⟨rfl, List.forall_mem_cons.mpr ⟨rfl, List.forall_mem_cons.mpr ⟨rfl, List.forall_mem_cons.mpr ⟨rfl, List.forall_mem_cons.mpr ⟨rfl, fun _ h => absurd h List.not_mem_nil⟩⟩⟩⟩⟩⟩⟩⟩⟩)
            )
          refine r_iconst (v := 0) hX dX8_whose_119 (by decide) (RR.pc (b := 120) rfl ?_)
          refine r_istore hX dX8_whose_120 (by decide) (RR.pc (b := 122) rfl ?_)
          refine r_iconst (v := 0) hX dX8_whose_122 (by decide) (RR.pc (b := 123) rfl ?_)
          refine r_istore hX dX8_whose_123 (by decide) (RR.pc (b := 125) rfl ?_)
          exact RR.cut (loop 0 (by omega)) (List.forall_mem_cons.mpr ⟨rfl, List.forall_mem_cons.mpr ⟨rfl, List.forall_mem_cons.mpr ⟨rfl, List.forall_mem_cons.mpr ⟨rfl, List.forall_mem_cons.mpr ⟨rfl, List.forall_mem_cons.mpr ⟨rfl, List.forall_mem_cons.mpr ⟨rfl, List.forall_mem_cons.mpr ⟨rfl, List.forall_mem_cons.mpr ⟨rfl, fun _ h => absurd h List.not_mem_nil⟩⟩⟩⟩⟩⟩⟩⟩⟩)
        have in1 := loopK n (fun k => RR X G 10 72 (ll [(0, rf G 109), (1, .int (nI a)), (2, .int (nI c)), (3, .int what), (4, .int (whoB g o)), (5, .int (whoL g o)), (6, .int (nI o)), (7, .int (nI k))]) [] (sr σ1 20 (aloW (σ 20) o k))) (by
          intro k hk ihk
          refine r_iload hX dX8_whose_72 rfl (RR.pc (b := 74) rfl ?_)
          refine r_aload_n hX dX8_whose_74 rfl ⟨_, rfl⟩ (RR.pc (b := 75) rfl ?_)
          refine r_getr hX dX8_whose_75 fl_X8_7 (by first | rfl | assumption) rfl (RR.pc (b := 78) rfl ?_)
          refine r_iconst (v := 0) hX dX8_whose_78 (by decide) (RR.pc (b := 79) rfl ?_)
          refine r_iald hX dX8_whose_79 (by first | rfl | assumption) (by first | rfl | assumption) (by first | decide | assumption | omega) (by decide) (by first | exact Nat.zero_add _ | rfl) (RR.pc (b := 80) rfl ?_)
          rw [sr_eq, aloW_out (i := 0) (fun j hj => by omega), hW.1]
          refine r_icmp_ge (tgt := 114) hX dX8_whose_80 rfl (fun h80 => ?_) (fun h80 => RR.pc (b := 83) rfl ?_)
          · have hk2 : k = n := by rw [nI_leI (by omega) (by omega)] at h80; omega
            subst hk2
            refine r_aload_n hX dX8_whose_114 rfl ⟨_, rfl⟩ (RR.pc (b := 115) rfl ?_)
            refine r_iload_n (i := 0) hX dX8_whose_115 rfl (RR.pc (b := 116) rfl ?_)
            refine r_callVv hX dX8_whose_116 ml_X8_169 cd_X8_goesOnMany iv_X8_goesOnMany (c_X8_goesOnMany (Ts := Ts) (nt := nt) (n := k) (m := m) (q := c) (by rw [sr_eq]; exact hTa) (by rw [sr_eq]; exact hWa) (by omega)) (by decide) (by first | rfl | assumption) rfl rfl rfl rfl (Nat.le_of_ble_eq_true rfl) (fun s_116 e_116 => RR.pc (b := 119) rfl ?_)
            obtain ⟨e8, hs8⟩ := e_116
            rw [sr_eq] at e8
            exact RR.cut (in2 _ e8 ((hs8 31 (by decide)).trans ((sr_ne (by decide)).trans f31)) (((fs.mono (by simp)).sr (by simp)).tr (hs8.mono (by simp)))) (List.forall_mem_cons.mpr ⟨rfl, List.forall_mem_cons.mpr ⟨rfl, List.forall_mem_cons.mpr ⟨rfl, List.forall_mem_cons.mpr ⟨rfl, List.forall_mem_cons.mpr ⟨rfl, List.forall_mem_cons.mpr ⟨rfl, List.forall_mem_cons.mpr ⟨rfl, fun _ h => absurd h List.not_mem_nil⟩⟩⟩⟩⟩⟩⟩)
          · have hk2 : k < n := by rw [nI_leI (by omega) (by omega)] at h80; omega
            refine r_aload_n hX dX8_whose_83 rfl ⟨_, rfl⟩ (RR.pc (b := 84) rfl ?_)
            refine r_iload hX dX8_whose_84 rfl (RR.pc (b := 86) rfl ?_)
            refine r_iconst (v := 4) hX dX8_whose_86 (by decide) (RR.pc (b := 87) rfl ?_)
            refine r_iload hX dX8_whose_87 rfl (RR.pc (b := 89) rfl ?_)
            refine r_iload hX dX8_whose_89 rfl (RR.pc (b := 91) rfl ?_)
            refine r_dia2 105 (if nI k = nI o then sr σ1 20 (aloW (σ 20) o k) 20 (131 + 5 * k + 4) else 0) (fun hj91 => ?_) ?_
            · refine r_icmp_ne (tgt := 104) hX dX8_whose_91 rfl (fun h91 => ?_) (fun h91 => RR.pc (b := 94) rfl ?_)
              · refine r_iconst (v := 0) hX dX8_whose_104 (by decide) (RR.pc (b := 105) rfl ?_)
                exact RR.eqt (congrArg (fun q => Value.int q :: _) (if_neg h91).symm) hj91
              · refine r_aload_n hX dX8_whose_94 rfl ⟨_, rfl⟩ (RR.pc (b := 95) rfl ?_)
                refine r_iload hX dX8_whose_95 rfl (RR.pc (b := 97) rfl ?_)
                refine r_iconst (v := 4) hX dX8_whose_97 (by decide) (RR.pc (b := 98) rfl ?_)
                refine r_callVie hX dX8_whose_98 ml_X8_90 cd_X8_of iv_X8_of (c_X8_of (a := k) (b := 4) (q := 131 + 5 * k + 4) rfl rfl rfl (by omega)) (by decide) (by first | rfl | assumption) rfl rfl rfl rfl (Nat.le_of_ble_eq_true rfl) (RR.pc (b := 101) rfl ?_)
                refine r_goto (tgt := 105) hX dX8_whose_101 rfl ?_
                exact RR.eqt (congrArg (fun q => Value.int q :: _) (if_pos h91).symm) hj91
            rw [sr_eq, aloW_out (i := 131 + 5 * k + 4) (fun j hj => by omega), show (if nI k = nI o then σ 20 (131 + 5 * k + 4) else 0) = (if k = o then σ 20 (131 + 5 * k + 4) else 0) from by
              by_cases e : k = o
              · rw [if_pos e, if_pos (by rw [e])]
              · rw [if_neg e, if_neg (fun y => e ((nI_eq (by omega) (by omega)).mp y))]]
            refine r_callVve hX dX8_whose_105 ml_X8_72 cd_X8_sets iv_X8_sets (c_X8_sets (a := k) (b := 4) (q := 131 + 5 * k + 4) rfl rfl rfl (by omega)) (by decide) (by first | rfl | assumption) rfl rfl rfl rfl (Nat.le_of_ble_eq_true rfl) (RR.pc (b := 108) rfl ?_)
            refine r_iinc hX dX8_whose_108 rfl (by decide) (nI_1 k) (RR.pc (b := 111) rfl ?_)
            refine r_goto (tgt := 72) hX dX8_whose_111 rfl ?_
            exact RR.eqs su_sr (RR.cut (ihk hk2) (List.forall_mem_cons.mpr ⟨rfl, List.forall_mem_cons.mpr ⟨rfl, List.forall_mem_cons.mpr ⟨rfl, List.forall_mem_cons.mpr ⟨rfl, List.forall_mem_cons.mpr ⟨rfl, List.forall_mem_cons.mpr ⟨rfl, List.forall_mem_cons.mpr ⟨rfl, List.forall_mem_cons.mpr ⟨rfl, fun _ h => absurd h List.not_mem_nil⟩⟩⟩⟩⟩⟩⟩⟩))
          )
        refine r_iconst (v := 0) hX dX8_whose_69 (by decide) (RR.pc (b := 70) rfl ?_)
        refine r_istore hX dX8_whose_70 (by decide) (RR.pc (b := 72) rfl ?_)
        exact RR.eqs (show σ1 = sr σ1 20 (aloW (σ 20) o 0) from by rw [show aloW (σ 20) o 0 = σ 20 from rfl, ← f20, sr_self]) (RR.cut (in1 0 (by omega)) (List.forall_mem_cons.mpr ⟨rfl, List.forall_mem_cons.mpr ⟨rfl, List.forall_mem_cons.mpr ⟨rfl, List.forall_mem_cons.mpr ⟨rfl, List.forall_mem_cons.mpr ⟨rfl, List.forall_mem_cons.mpr ⟨rfl, List.forall_mem_cons.mpr ⟨rfl, List.forall_mem_cons.mpr ⟨rfl, fun _ h => absurd h List.not_mem_nil⟩⟩⟩⟩⟩⟩⟩⟩))
      )
    refine r_aload_n hX dX8_whose_45 rfl ⟨_, rfl⟩ (RR.pc (b := 46) rfl ?_)
    refine r_callVve hX dX8_whose_46 ml_X8_166 cd_X8_laysBy iv_X8_laysBy c_X8_laysBy (by decide) (by first | rfl | assumption) rfl rfl rfl rfl (Nat.le_of_ble_eq_true rfl) (RR.pc (b := 49) rfl ?_)
    refine r_iconst (v := -1) hX dX8_whose_49 (by decide) (RR.pc (b := 50) rfl ?_)
    refine r_istore hX dX8_whose_50 (by decide) (RR.pc (b := 52) rfl ?_)
    refine r_iconst (v := 0) hX dX8_whose_52 (by decide) (RR.pc (b := 53) rfl ?_)
    refine r_istore hX dX8_whose_53 (by decide) (RR.pc (b := 55) rfl ?_)
    refine r_iconst (v := 0) hX dX8_whose_55 (by decide) (RR.pc (b := 56) rfl ?_)
    refine r_istore hX dX8_whose_56 (by decide) (RR.pc (b := 58) rfl ?_)
    exact RR.cut (outer 0 (by omega) _ (sr_ne (by decide)) sr_eq (same.rf.sr (by simp))) (List.forall_mem_cons.mpr ⟨rfl, List.forall_mem_cons.mpr ⟨rfl, List.forall_mem_cons.mpr ⟨rfl, List.forall_mem_cons.mpr ⟨rfl, List.forall_mem_cons.mpr ⟨rfl, List.forall_mem_cons.mpr ⟨rfl, List.forall_mem_cons.mpr ⟨rfl, fun _ h => absurd h List.not_mem_nil⟩⟩⟩⟩⟩⟩⟩)
  refine r_iload_n (i := 0) hX dX8_whose_0 rfl (RR.pc (b := 1) rfl ?_)
  refine r_callSie hX dX8_whose_1 ml_X8_285 cd_X8_isSheet st_X8_isSheet c_X8_isSheet (by decide) rfl rfl (Nat.le_of_ble_eq_true rfl) (RR.pc (b := 4) rfl ?_)
  refine r_if_eq_b (tgt := 29) hX dX8_whose_4 rfl (fun h4 => ?_) (fun h4 => RR.pc (b := 7) rfl ?_)
  · exact RR.cut (bad (fun z => by first | exact h4 z.1 | exact h16 z.2.1 | exact h26 z.2.2)) (List.forall_mem_cons.mpr ⟨rfl, fun _ h => absurd h List.not_mem_nil⟩)
  · refine r_iload_n (i := 0) hX dX8_whose_7 rfl (RR.pc (b := 8) rfl ?_)
    refine r_i2l hX dX8_whose_8 (RR.pc (b := 9) rfl ?_)
    refine r_lconst (v := 0) hX dX8_whose_9 rfl (RR.pc (b := 10) rfl ?_)
    refine r_ldc2 hX dX8_whose_10 k2_X8_182 (RR.pc (b := 13) rfl ?_)
    refine r_callSie hX dX8_whose_13 ml_X8_65 cd_X8_isIn st_X8_isIn c_X8_isIn (by decide) rfl rfl (Nat.le_of_ble_eq_true rfl) (RR.pc (b := 16) rfl ?_)
    refine r_if_eq_b (tgt := 29) hX dX8_whose_16 rfl (fun h16 => ?_) (fun h16 => RR.pc (b := 19) rfl ?_)
    · simp only [Int32.toInt_toInt64, Int64.reduceToInt] at h16
      exact RR.cut (bad (fun z => by first | exact h4 z.1 | exact h16 z.2.1 | exact h26 z.2.2)) (List.forall_mem_cons.mpr ⟨rfl, fun _ h => absurd h List.not_mem_nil⟩)
    · simp only [Int32.toInt_toInt64, Int64.reduceToInt] at h16
      refine r_iload_n (i := 0) hX dX8_whose_19 rfl (RR.pc (b := 20) rfl ?_)
      refine r_i2l hX dX8_whose_20 (RR.pc (b := 21) rfl ?_)
      refine r_lconst (v := 0) hX dX8_whose_21 rfl (RR.pc (b := 22) rfl ?_)
      refine r_lconst (v := 1) hX dX8_whose_22 rfl (RR.pc (b := 23) rfl ?_)
      refine r_callSie hX dX8_whose_23 ml_X8_65 cd_X8_isIn st_X8_isIn c_X8_isIn (by decide) rfl rfl (Nat.le_of_ble_eq_true rfl) (RR.pc (b := 26) rfl ?_)
      refine r_if_ne_b (tgt := 32) hX dX8_whose_26 rfl (fun h26 => ?_) (fun h26 => RR.pc (b := 29) rfl ?_)
      · simp only [Int32.toInt_toInt64, Int64.reduceToInt] at h26
        obtain ⟨a, ha, e1⟩ := ix_of (n := 4) (k := sheet) ⟨by omega, by omega⟩ (by omega)
        obtain ⟨c, hc, e2⟩ := ix_of (n := 61) (k := q) ⟨by omega, by omega⟩ (by omega)
        obtain ⟨z, hz1, hz2⟩ := hz a ha
        refine r_aload_n hX dX8_whose_32 rfl ⟨_, rfl⟩ (RR.pc (b := 33) rfl ?_)
        refine r_getr hX dX8_whose_33 fl_X8_19 (by first | rfl | assumption) rfl (RR.pc (b := 36) rfl ?_)
        refine r_iload_n (i := 0) hX dX8_whose_36 rfl (RR.pc (b := 37) rfl ?_)
        refine r_iald hX dX8_whose_37 (by first | rfl | assumption) (j := a) e1 (by omega) (by decide) (by first | exact Nat.zero_add _ | rfl) (RR.pc (b := 38) rfl ?_)
        refine r_if_ge (tgt := 45) hX dX8_whose_38 rfl (fun h38 => ?_) (fun h38 => RR.pc (b := 41) rfl ?_)
        · exact RR.cut (go a z c ha hz1 (by omega) e1 e2 hz2 (by unfold whosF; rw [e1, ix_some ha (by omega)]; dsimp only; rw [if_pos ⟨h16, h26⟩, shR_sort, if_neg (Int32.not_lt.mpr h38), shR_size, hz2, e2, nI_clamp (by omega), nI_clamp (by omega)])) (List.forall_mem_cons.mpr ⟨rfl, List.forall_mem_cons.mpr ⟨rfl, List.forall_mem_cons.mpr ⟨rfl, List.forall_mem_cons.mpr ⟨rfl, fun _ h => absurd h List.not_mem_nil⟩⟩⟩⟩)
        · refine r_ldcw hX dX8_whose_41 kc_X8_291 (RR.pc (b := 44) rfl ?_)
          exact r_iret hX hZ dX8_whose_44 ⟨_, rfl, ⟨by unfold whosF; rw [e1, ix_some ha (by omega)]; dsimp only; rw [if_pos ⟨h16, h26⟩, shR_sort, if_pos (Int32.not_le.mp h38)], same.rf⟩⟩
      · simp only [Int32.toInt_toInt64, Int64.reduceToInt] at h26
        exact RR.cut (bad (fun z => by first | exact h4 z.1 | exact h16 z.2.1 | exact h26 z.2.2)) (List.forall_mem_cons.mpr ⟨rfl, fun _ h => absurd h List.not_mem_nil⟩)
