/-! the reference: copy, whose, check, feed -/
/-- where a copy's rows lie -/
def copyOK (z1 z2 : Nat) (place at_ many : Int32) : Prop := 0 ≤ place.toInt ∧ 0 ≤ at_.toInt ∧ 0 ≤ many.toInt ∧ place.toInt + many.toInt ≤ z1 ∧ at_.toInt + many.toInt ≤ z2
theorem add64 {x y : Int32} : (x.toInt64 + y.toInt64).toInt = x.toInt + y.toInt := by
  have h1 := Int32.le_toInt x
  have h2 := Int32.toInt_lt x
  have h3 := Int32.le_toInt y
  have h4 := Int32.toInt_lt y
  rw [Int64.toInt_add, Int32.toInt_toInt64, Int32.toInt_toInt64]
  rw [Int.bmod_eq_of_le]
  · omega
  · omega
set_option maxHeartbeats 4000000 in
set_option maxRecDepth 100000 in
theorem c_X8_copy {G : GM} {σ : SG} {from_ place to_ at_ many : Int32} (hz : ∀ a, a < 4 → ∃ z : Nat, z ≤ 24 ∧ σ 24 a = nI z) : CI G yX8_copy cX8_copy 7 (some .int) 2 [rf G 109, .int from_, .int place, .int to_, .int at_, .int many] σ (fun r s => same [25, 35] σ s ∧ ((ix from_ 4 = none ∨ ix to_ 4 = none) → r = vBAD ∧ s = σ) ∧ (∀ a b, ix from_ 4 = some a → ix to_ 4 = some b → ((σ 23 a < 0 ∨ σ 23 b < 0) → r = vNOTH ∧ s = σ) ∧ (¬ (σ 23 a < 0 ∨ σ 23 b < 0) → (¬ σ 23 a = σ 23 b → r = vKIND ∧ s = σ) ∧ (σ 23 a = σ 23 b → (¬ copyOK (σ 24 a).toNatClampNeg (σ 24 b).toNatClampNeg place at_ many → r = vINDEX ∧ s = σ) ∧ (copyOK (σ 24 a).toNatClampNeg (σ 24 b).toNatClampNeg place at_ many → r = many ∧ s 25 = cpA (σ 25) (σ 25) (24 * b + at_.toNatClampNeg) (24 * a + place.toNatClampNeg) many.toNatClampNeg))))) := by
  refine Con.of cd_X8_copy (Nat.le_of_ble_eq_true rfl) ?_
  intro X hX hZ
  have hX : Fx X G RX8 cX8_copy 7 2 := hX
  show RR X G 7 0 (ll [(0, rf G 109), (1, .int from_), (2, .int place), (3, .int to_), (4, .int at_), (5, .int many)]) [] σ
  have go : ∀ a b z1 z2, a < 4 → b < 4 → z1 ≤ 24 → z2 ≤ 24 → from_ = nI a → to_ = nI b → σ 24 a = nI z1 → σ 24 b = nI z2 → ¬ (σ 23 a < 0 ∨ σ 23 b < 0) → σ 23 a = σ 23 b → copyOK z1 z2 place at_ many → RR X G 7 110 (ll [(0, rf G 109), (1, .int from_), (2, .int place), (3, .int to_), (4, .int at_), (5, .int many)]) [] σ := by
    intro a b z1 z2 ha hb hz1 hz2 e1 e2 q1 q2 hm hso hok
    subst e1; subst e2
    obtain ⟨c1, c2, c3, c4, c5⟩ := hok
    obtain ⟨p, hp, rfl⟩ := ix_of (n := 25) (k := place) ⟨by omega, by omega⟩ (by omega)
    obtain ⟨t, ht, rfl⟩ := ix_of (n := 25) (k := at_) ⟨by omega, by omega⟩ (by omega)
    obtain ⟨m, hm1, rfl⟩ := ix_of (n := 25) (k := many) ⟨by omega, by omega⟩ (by omega)
    rw [nI_toInt (by omega), nI_toInt (by omega)] at c4 c5
    have hia := ix_some (n := 4) ha (by omega)
    have hib := ix_some (n := 4) hb (by omega)
    have loop2 := loopK m (fun k => ∀ τ : SG, τ 25 = cpA (σ 25) (σ 25) (24 * b + t) (24 * a + p) k → (∀ i, i < m → τ 35 i = σ 25 (24 * a + p + i)) → same [25, 35] σ τ → RR X G 7 150 (ll [(0, rf G 109), (3, .int (nI b)), (4, .int (nI t)), (5, .int (nI m)), (6, .int (nI k))]) [] τ) (by
      intro k hk ih τ e25 e35 hs
      refine r_iload hX dX8_copy_150 rfl (RR.pc (b := 152) rfl ?_)
      refine r_iload hX dX8_copy_152 rfl (RR.pc (b := 154) rfl ?_)
      refine r_icmp_ge (tgt := 185) hX dX8_copy_154 rfl (fun h154 => ?_) (fun h154 => RR.pc (b := 157) rfl ?_)
      · have hk2 : k = m := by rw [nI_leI (by omega) (by omega)] at h154; omega
        subst hk2
        refine r_iload hX dX8_copy_185 rfl (RR.pc (b := 187) rfl ?_)
        exact r_iret hX hZ dX8_copy_187 ⟨_, rfl, ⟨hs, fun z => z.elim (fun e => (ns hia e).elim) (fun e => (ns hib e).elim), fun a' b' f1 f2 => by have g1 := se hia f1; subst g1; have g2 := se hib f2; subst g2; exact ⟨fun z => absurd z hm, fun _ => ⟨fun z => absurd hso z, fun _ => ⟨fun z => absurd (by unfold copyOK; rw [q1, q2, nI_clamp (by omega), nI_clamp (by omega), nI_toInt (by omega), nI_toInt (by omega), nI_toInt (by omega)]; omega) z, fun _ => ⟨rfl, by rw [e25, nI_clamp (by omega), nI_clamp (by omega), nI_clamp (by omega)]⟩⟩⟩⟩⟩⟩
      · have hk2 : k < m := by rw [nI_leI (by omega) (by omega)] at h154; omega
        refine r_aload_n hX dX8_copy_157 rfl ⟨_, rfl⟩ (RR.pc (b := 158) rfl ?_)
        refine r_getr hX dX8_copy_158 fl_X8_25 (by first | rfl | assumption) rfl (RR.pc (b := 161) rfl ?_)
        refine r_bipush (v := 24) hX dX8_copy_161 (by decide) (RR.pc (b := 163) rfl ?_)
        refine r_iload_n (i := 0) hX dX8_copy_163 rfl (RR.pc (b := 164) rfl ?_)
        refine r_imul hX dX8_copy_164 (RR.pc (b := 165) rfl ?_)
        refine r_iload hX dX8_copy_165 rfl (RR.pc (b := 167) rfl ?_)
        refine r_iadd hX dX8_copy_167 (RR.pc (b := 168) rfl ?_)
        refine r_iload hX dX8_copy_168 rfl (RR.pc (b := 170) rfl ?_)
        refine r_iadd hX dX8_copy_170 (RR.pc (b := 171) rfl ?_)
        refine r_aload_n hX dX8_copy_171 rfl ⟨_, rfl⟩ (RR.pc (b := 172) rfl ?_)
        refine r_getr hX dX8_copy_172 fl_X8_55 (by first | rfl | assumption) rfl (RR.pc (b := 175) rfl ?_)
        refine r_iload hX dX8_copy_175 rfl (RR.pc (b := 177) rfl ?_)
        refine r_iald hX dX8_copy_177 (by first | rfl | assumption) rfl (by omega) (by decide) (by first | exact Nat.zero_add _ | rfl) (RR.pc (b := 178) rfl ?_)
        rw [e35 k hk2]
        refine r_iast hX dX8_copy_178 (by first | rfl | assumption) (j := 24 * b + t + k) (by show nI 24 * nI b + nI t + nI k = _; rw [pk_mul, nI_add, nI_add]) (by omega) (by decide) (by first | exact Nat.zero_add _ | rfl) (RR.pc (b := 179) rfl ?_)
        refine r_iinc hX dX8_copy_179 rfl (by decide) (nI_1 k) (RR.pc (b := 182) rfl ?_)
        refine r_goto (tgt := 150) hX dX8_copy_182 rfl ?_
        exact RR.cut (ih hk2 _ (by rw [su_eq, e25, cpA_succ]) (fun i hi => by rw [su_ne (by decide)]; exact e35 i hi) (hs.su (by simp))) (List.forall_mem_cons.mpr ⟨rfl, List.forall_mem_cons.mpr ⟨rfl, List.forall_mem_cons.mpr ⟨rfl, List.forall_mem_cons.mpr ⟨rfl, List.forall_mem_cons.mpr ⟨rfl, fun _ h => absurd h List.not_mem_nil⟩⟩⟩⟩⟩)
      )
    have loop1 := loopK m (fun k => RR X G 7 113 (ll [(0, rf G 109), (1, .int (nI a)), (2, .int (nI p)), (3, .int (nI b)), (4, .int (nI t)), (5, .int (nI m)), (6, .int (nI k))]) [] (sr σ 35 (cpA (σ 35) (σ 25) 0 (24 * a + p) k))) (by
      intro k hk ih
      refine r_iload hX dX8_copy_113 rfl (RR.pc (b := 115) rfl ?_)
      refine r_iload hX dX8_copy_115 rfl (RR.pc (b := 117) rfl ?_)
      refine r_icmp_ge (tgt := 147) hX dX8_copy_117 rfl (fun h117 => ?_) (fun h117 => RR.pc (b := 120) rfl ?_)
      · have hk2 : k = m := by rw [nI_leI (by omega) (by omega)] at h117; omega
        subst hk2
        refine r_iconst (v := 0) hX dX8_copy_147 (by decide) (RR.pc (b := 148) rfl ?_)
        refine r_istore hX dX8_copy_148 (by decide) (RR.pc (b := 150) rfl ?_)
        exact RR.cut (loop2 0 (by omega) _ (by rw [sr_ne (by decide), cpA_0]) (fun i hi => by rw [sr_eq]; unfold cpA; rw [if_pos (by omega), Nat.sub_zero]) (same.rf.sr (by simp))) (List.forall_mem_cons.mpr ⟨rfl, List.forall_mem_cons.mpr ⟨rfl, List.forall_mem_cons.mpr ⟨rfl, List.forall_mem_cons.mpr ⟨rfl, List.forall_mem_cons.mpr ⟨rfl, fun _ h => absurd h List.not_mem_nil⟩⟩⟩⟩⟩)
      · have hk2 : k < m := by rw [nI_leI (by omega) (by omega)] at h117; omega
        refine r_aload_n hX dX8_copy_120 rfl ⟨_, rfl⟩ (RR.pc (b := 121) rfl ?_)
        refine r_getr hX dX8_copy_121 fl_X8_55 (by first | rfl | assumption) rfl (RR.pc (b := 124) rfl ?_)
        refine r_iload hX dX8_copy_124 rfl (RR.pc (b := 126) rfl ?_)
        refine r_aload_n hX dX8_copy_126 rfl ⟨_, rfl⟩ (RR.pc (b := 127) rfl ?_)
        refine r_getr hX dX8_copy_127 fl_X8_25 (by first | rfl | assumption) rfl (RR.pc (b := 130) rfl ?_)
        refine r_bipush (v := 24) hX dX8_copy_130 (by decide) (RR.pc (b := 132) rfl ?_)
        refine r_iload_n (i := 0) hX dX8_copy_132 rfl (RR.pc (b := 133) rfl ?_)
        refine r_imul hX dX8_copy_133 (RR.pc (b := 134) rfl ?_)
        refine r_iload_n (i := 0) hX dX8_copy_134 rfl (RR.pc (b := 135) rfl ?_)
        refine r_iadd hX dX8_copy_135 (RR.pc (b := 136) rfl ?_)
        refine r_iload hX dX8_copy_136 rfl (RR.pc (b := 138) rfl ?_)
        refine r_iadd hX dX8_copy_138 (RR.pc (b := 139) rfl ?_)
        refine r_iald hX dX8_copy_139 (by first | rfl | assumption) (j := 24 * a + p + k) (by show nI 24 * nI a + nI p + nI k = _; rw [pk_mul, nI_add, nI_add]) (by omega) (by decide) (by first | exact Nat.zero_add _ | rfl) (RR.pc (b := 140) rfl ?_)
        rw [sr_ne (by decide)]
        refine r_iast hX dX8_copy_140 (by first | rfl | assumption) rfl (by omega) (by decide) (by first | exact Nat.zero_add _ | rfl) (RR.pc (b := 141) rfl ?_)
        refine r_iinc hX dX8_copy_141 rfl (by decide) (nI_1 k) (RR.pc (b := 144) rfl ?_)
        refine r_goto (tgt := 113) hX dX8_copy_144 rfl ?_
        exact RR.eqs (by rw [su_sr, ← cpA_succ, Nat.zero_add]) (RR.cut (ih hk2) (List.forall_mem_cons.mpr ⟨rfl, List.forall_mem_cons.mpr ⟨rfl, List.forall_mem_cons.mpr ⟨rfl, List.forall_mem_cons.mpr ⟨rfl, List.forall_mem_cons.mpr ⟨rfl, List.forall_mem_cons.mpr ⟨rfl, List.forall_mem_cons.mpr ⟨rfl, fun _ h => absurd h List.not_mem_nil⟩⟩⟩⟩⟩⟩⟩))
      )
    refine r_iconst (v := 0) hX dX8_copy_110 (by decide) (RR.pc (b := 111) rfl ?_)
    refine r_istore hX dX8_copy_111 (by decide) (RR.pc (b := 113) rfl ?_)
    exact RR.eqs (show σ = sr σ 35 (cpA (σ 35) (σ 25) 0 (24 * a + p) 0) from by rw [cpA_0, sr_self]) (RR.cut (loop1 0 (by omega)) (List.forall_mem_cons.mpr ⟨rfl, List.forall_mem_cons.mpr ⟨rfl, List.forall_mem_cons.mpr ⟨rfl, List.forall_mem_cons.mpr ⟨rfl, List.forall_mem_cons.mpr ⟨rfl, List.forall_mem_cons.mpr ⟨rfl, List.forall_mem_cons.mpr ⟨rfl, fun _ h => absurd h List.not_mem_nil⟩⟩⟩⟩⟩⟩⟩))
  refine r_iload_n (i := 0) hX dX8_copy_0 rfl (RR.pc (b := 1) rfl ?_)
  refine r_callSie hX dX8_copy_1 ml_X8_285 cd_X8_isSheet st_X8_isSheet c_X8_isSheet (by decide) rfl rfl (Nat.le_of_ble_eq_true rfl) (RR.pc (b := 4) rfl ?_)
  refine r_if_eq_b (tgt := 14) hX dX8_copy_4 rfl (fun h4 => ?_) (fun h4 => RR.pc (b := 7) rfl ?_)
  · refine r_ldc hX dX8_copy_14 kc_X8_84 (RR.pc (b := 16) rfl ?_)
    exact r_iret hX hZ dX8_copy_16 ⟨_, rfl, ⟨same.rf, fun _ => ⟨rfl, rfl⟩, fun a' b' f1 f2 => by obtain ⟨g1, g2⟩ := ix_lt f1 (by omega); obtain ⟨g3, g4⟩ := ix_lt f2 (by omega); first | exact absurd ⟨by rw [g4, nI_toInt (by omega)]; omega, by rw [g4, nI_toInt (by omega)]; omega⟩ h11 | exact absurd ⟨by rw [g2, nI_toInt (by omega)]; omega, by rw [g2, nI_toInt (by omega)]; omega⟩ h4⟩⟩
  · obtain ⟨a, ha, rfl⟩ := ix_of (n := 4) (k := from_) ⟨by omega, by omega⟩ (by omega)
    have hia := ix_some (n := 4) ha (by omega)
    obtain ⟨z1, hz1, q1⟩ := hz a ha
    refine r_iload_n (i := 0) hX dX8_copy_7 rfl (RR.pc (b := 8) rfl ?_)
    refine r_callSie hX dX8_copy_8 ml_X8_285 cd_X8_isSheet st_X8_isSheet c_X8_isSheet (by decide) rfl rfl (Nat.le_of_ble_eq_true rfl) (RR.pc (b := 11) rfl ?_)
    refine r_if_ne_b (tgt := 17) hX dX8_copy_11 rfl (fun h11 => ?_) (fun h11 => RR.pc (b := 14) rfl ?_)
    · obtain ⟨b, hb, rfl⟩ := ix_of (n := 4) (k := to_) ⟨by omega, by omega⟩ (by omega)
      have hib := ix_some (n := 4) hb (by omega)
      obtain ⟨z2, hz2, q2⟩ := hz b hb
      refine r_aload_n hX dX8_copy_17 rfl ⟨_, rfl⟩ (RR.pc (b := 18) rfl ?_)
      refine r_getr hX dX8_copy_18 fl_X8_19 (by first | rfl | assumption) rfl (RR.pc (b := 21) rfl ?_)
      refine r_iload_n (i := 0) hX dX8_copy_21 rfl (RR.pc (b := 22) rfl ?_)
      refine r_iald hX dX8_copy_22 (by first | rfl | assumption) rfl (by omega) (by decide) (by first | exact Nat.zero_add _ | rfl) (RR.pc (b := 23) rfl ?_)
      refine r_if_lt (tgt := 35) hX dX8_copy_23 rfl (fun h23 => ?_) (fun h23 => RR.pc (b := 26) rfl ?_)
      · refine r_ldcw hX dX8_copy_35 kc_X8_291 (RR.pc (b := 38) rfl ?_)
        exact r_iret hX hZ dX8_copy_38 ⟨_, rfl, ⟨same.rf, fun _ => by rename_i z; exact z.elim (fun e => (ns hia e).elim) (fun e => (ns hib e).elim), fun a' b' f1 f2 => by have g1 := se hia f1; subst g1; have g2 := se hib f2; subst g2; exact ⟨fun _ => ⟨rfl, rfl⟩, fun z => absurd (by first | exact Or.inl h23 | exact Or.inr (Int32.not_le.mp h32)) z⟩⟩⟩
      · refine r_aload_n hX dX8_copy_26 rfl ⟨_, rfl⟩ (RR.pc (b := 27) rfl ?_)
        refine r_getr hX dX8_copy_27 fl_X8_19 (by first | rfl | assumption) rfl (RR.pc (b := 30) rfl ?_)
        refine r_iload_n (i := 0) hX dX8_copy_30 rfl (RR.pc (b := 31) rfl ?_)
        refine r_iald hX dX8_copy_31 (by first | rfl | assumption) rfl (by omega) (by decide) (by first | exact Nat.zero_add _ | rfl) (RR.pc (b := 32) rfl ?_)
        refine r_if_ge (tgt := 39) hX dX8_copy_32 rfl (fun h32 => ?_) (fun h32 => RR.pc (b := 35) rfl ?_)
        · refine r_aload_n hX dX8_copy_39 rfl ⟨_, rfl⟩ (RR.pc (b := 40) rfl ?_)
          refine r_getr hX dX8_copy_40 fl_X8_19 (by first | rfl | assumption) rfl (RR.pc (b := 43) rfl ?_)
          refine r_iload_n (i := 0) hX dX8_copy_43 rfl (RR.pc (b := 44) rfl ?_)
          refine r_iald hX dX8_copy_44 (by first | rfl | assumption) rfl (by omega) (by decide) (by first | exact Nat.zero_add _ | rfl) (RR.pc (b := 45) rfl ?_)
          refine r_aload_n hX dX8_copy_45 rfl ⟨_, rfl⟩ (RR.pc (b := 46) rfl ?_)
          refine r_getr hX dX8_copy_46 fl_X8_19 (by first | rfl | assumption) rfl (RR.pc (b := 49) rfl ?_)
          refine r_iload_n (i := 0) hX dX8_copy_49 rfl (RR.pc (b := 50) rfl ?_)
          refine r_iald hX dX8_copy_50 (by first | rfl | assumption) rfl (by omega) (by decide) (by first | exact Nat.zero_add _ | rfl) (RR.pc (b := 51) rfl ?_)
          refine r_icmp_eq (tgt := 57) hX dX8_copy_51 rfl (fun h51 => ?_) (fun h51 => RR.pc (b := 54) rfl ?_)
          · refine r_iload_n (i := 0) hX dX8_copy_57 rfl (RR.pc (b := 58) rfl ?_)
            refine r_if_lt (tgt := 106) hX dX8_copy_58 rfl (fun h58 => ?_) (fun h58 => RR.pc (b := 61) rfl ?_)
            · have hno : ¬ copyOK z1 z2 place at_ many := by
                rintro ⟨c1, c2, c3, c4, c5⟩
                try rw [lg_cmp_gt, Int64.lt_iff_toInt_lt, add64, Int32.toInt_toInt64, nI_toInt (by omega)] at h85
                try rw [lg_cmp_le, Int64.le_iff_toInt_le, add64, Int32.toInt_toInt64, nI_toInt (by omega)] at h103
                simp only [Int32.lt_iff_toInt_lt, i32_0] at *
                omega
              refine r_ldcw hX dX8_copy_106 kc_X8_292 (RR.pc (b := 109) rfl ?_)
              exact r_iret hX hZ dX8_copy_109 ⟨_, rfl, ⟨same.rf, fun z => z.elim (fun e => (ns hia e).elim) (fun e => (ns hib e).elim), fun a' b' f1 f2 => by have g1 := se hia f1; subst g1; have g2 := se hib f2; subst g2; exact ⟨fun z => absurd z (fun q => q.elim h23 (fun y => absurd y (Int32.not_lt.mpr h32))), fun _ => ⟨fun z => absurd h51 z, fun _ => ⟨fun _ => ⟨rfl, rfl⟩, fun z => absurd (by rw [q1, q2, nI_clamp (by omega), nI_clamp (by omega)] at z; exact z) hno⟩⟩⟩⟩⟩
            · refine r_iload hX dX8_copy_61 rfl (RR.pc (b := 63) rfl ?_)
              refine r_if_lt (tgt := 106) hX dX8_copy_63 rfl (fun h63 => ?_) (fun h63 => RR.pc (b := 66) rfl ?_)
              · have hno : ¬ copyOK z1 z2 place at_ many := by
                  rintro ⟨c1, c2, c3, c4, c5⟩
                  try rw [lg_cmp_gt, Int64.lt_iff_toInt_lt, add64, Int32.toInt_toInt64, nI_toInt (by omega)] at h85
                  try rw [lg_cmp_le, Int64.le_iff_toInt_le, add64, Int32.toInt_toInt64, nI_toInt (by omega)] at h103
                  simp only [Int32.lt_iff_toInt_lt, i32_0] at *
                  omega
                refine r_ldcw hX dX8_copy_106 kc_X8_292 (RR.pc (b := 109) rfl ?_)
                exact r_iret hX hZ dX8_copy_109 ⟨_, rfl, ⟨same.rf, fun z => z.elim (fun e => (ns hia e).elim) (fun e => (ns hib e).elim), fun a' b' f1 f2 => by have g1 := se hia f1; subst g1; have g2 := se hib f2; subst g2; exact ⟨fun z => absurd z (fun q => q.elim h23 (fun y => absurd y (Int32.not_lt.mpr h32))), fun _ => ⟨fun z => absurd h51 z, fun _ => ⟨fun _ => ⟨rfl, rfl⟩, fun z => absurd (by rw [q1, q2, nI_clamp (by omega), nI_clamp (by omega)] at z; exact z) hno⟩⟩⟩⟩⟩
              · refine r_iload hX dX8_copy_66 rfl (RR.pc (b := 68) rfl ?_)
                refine r_if_lt (tgt := 106) hX dX8_copy_68 rfl (fun h68 => ?_) (fun h68 => RR.pc (b := 71) rfl ?_)
                · have hno : ¬ copyOK z1 z2 place at_ many := by
                    rintro ⟨c1, c2, c3, c4, c5⟩
                    try rw [lg_cmp_gt, Int64.lt_iff_toInt_lt, add64, Int32.toInt_toInt64, nI_toInt (by omega)] at h85
                    try rw [lg_cmp_le, Int64.le_iff_toInt_le, add64, Int32.toInt_toInt64, nI_toInt (by omega)] at h103
                    simp only [Int32.lt_iff_toInt_lt, i32_0] at *
                    omega
                  refine r_ldcw hX dX8_copy_106 kc_X8_292 (RR.pc (b := 109) rfl ?_)
                  exact r_iret hX hZ dX8_copy_109 ⟨_, rfl, ⟨same.rf, fun z => z.elim (fun e => (ns hia e).elim) (fun e => (ns hib e).elim), fun a' b' f1 f2 => by have g1 := se hia f1; subst g1; have g2 := se hib f2; subst g2; exact ⟨fun z => absurd z (fun q => q.elim h23 (fun y => absurd y (Int32.not_lt.mpr h32))), fun _ => ⟨fun z => absurd h51 z, fun _ => ⟨fun _ => ⟨rfl, rfl⟩, fun z => absurd (by rw [q1, q2, nI_clamp (by omega), nI_clamp (by omega)] at z; exact z) hno⟩⟩⟩⟩⟩
                · refine r_iload_n (i := 0) hX dX8_copy_71 rfl (RR.pc (b := 72) rfl ?_)
                  refine r_i2l hX dX8_copy_72 (RR.pc (b := 73) rfl ?_)
                  refine r_iload hX dX8_copy_73 rfl (RR.pc (b := 75) rfl ?_)
                  refine r_i2l hX dX8_copy_75 (RR.pc (b := 76) rfl ?_)
                  refine r_ladd hX dX8_copy_76 (RR.pc (b := 77) rfl ?_)
                  refine r_aload_n hX dX8_copy_77 rfl ⟨_, rfl⟩ (RR.pc (b := 78) rfl ?_)
                  refine r_getr hX dX8_copy_78 fl_X8_22 (by first | rfl | assumption) rfl (RR.pc (b := 81) rfl ?_)
                  refine r_iload_n (i := 0) hX dX8_copy_81 rfl (RR.pc (b := 82) rfl ?_)
                  refine r_iald hX dX8_copy_82 (by first | rfl | assumption) rfl (by omega) (by decide) (by first | exact Nat.zero_add _ | rfl) (RR.pc (b := 83) rfl ?_)
                  rw [q1]
                  refine r_i2l hX dX8_copy_83 (RR.pc (b := 84) rfl ?_)
                  refine r_lcmp hX dX8_copy_84 (RR.pc (b := 85) rfl ?_)
                  refine r_if_gt (tgt := 106) hX dX8_copy_85 rfl (fun h85 => ?_) (fun h85 => RR.pc (b := 88) rfl ?_)
                  · have hno : ¬ copyOK z1 z2 place at_ many := by
                      rintro ⟨c1, c2, c3, c4, c5⟩
                      try rw [lg_cmp_gt, Int64.lt_iff_toInt_lt, add64, Int32.toInt_toInt64, nI_toInt (by omega)] at h85
                      try rw [lg_cmp_le, Int64.le_iff_toInt_le, add64, Int32.toInt_toInt64, nI_toInt (by omega)] at h103
                      simp only [Int32.lt_iff_toInt_lt, i32_0] at *
                      omega
                    refine r_ldcw hX dX8_copy_106 kc_X8_292 (RR.pc (b := 109) rfl ?_)
                    exact r_iret hX hZ dX8_copy_109 ⟨_, rfl, ⟨same.rf, fun z => z.elim (fun e => (ns hia e).elim) (fun e => (ns hib e).elim), fun a' b' f1 f2 => by have g1 := se hia f1; subst g1; have g2 := se hib f2; subst g2; exact ⟨fun z => absurd z (fun q => q.elim h23 (fun y => absurd y (Int32.not_lt.mpr h32))), fun _ => ⟨fun z => absurd h51 z, fun _ => ⟨fun _ => ⟨rfl, rfl⟩, fun z => absurd (by rw [q1, q2, nI_clamp (by omega), nI_clamp (by omega)] at z; exact z) hno⟩⟩⟩⟩⟩
                  · rw [lg_cmp_gt, Int64.lt_iff_toInt_lt, add64, Int32.toInt_toInt64, nI_toInt (by omega)] at h85
                    refine r_iload hX dX8_copy_88 rfl (RR.pc (b := 90) rfl ?_)
                    refine r_i2l hX dX8_copy_90 (RR.pc (b := 91) rfl ?_)
                    refine r_iload hX dX8_copy_91 rfl (RR.pc (b := 93) rfl ?_)
                    refine r_i2l hX dX8_copy_93 (RR.pc (b := 94) rfl ?_)
                    refine r_ladd hX dX8_copy_94 (RR.pc (b := 95) rfl ?_)
                    refine r_aload_n hX dX8_copy_95 rfl ⟨_, rfl⟩ (RR.pc (b := 96) rfl ?_)
                    refine r_getr hX dX8_copy_96 fl_X8_22 (by first | rfl | assumption) rfl (RR.pc (b := 99) rfl ?_)
                    refine r_iload_n (i := 0) hX dX8_copy_99 rfl (RR.pc (b := 100) rfl ?_)
                    refine r_iald hX dX8_copy_100 (by first | rfl | assumption) rfl (by omega) (by decide) (by first | exact Nat.zero_add _ | rfl) (RR.pc (b := 101) rfl ?_)
                    rw [q2]
                    refine r_i2l hX dX8_copy_101 (RR.pc (b := 102) rfl ?_)
                    refine r_lcmp hX dX8_copy_102 (RR.pc (b := 103) rfl ?_)
                    refine r_if_le (tgt := 110) hX dX8_copy_103 rfl (fun h103 => ?_) (fun h103 => RR.pc (b := 106) rfl ?_)
                    · refine RR.cut (go a b z1 z2 ha hb hz1 hz2 rfl rfl q1 q2 (fun q => q.elim h23 (fun y => absurd y (Int32.not_lt.mpr h32))) h51 ?_) (List.forall_mem_cons.mpr ⟨rfl, List.forall_mem_cons.mpr ⟨rfl, List.forall_mem_cons.mpr ⟨rfl, List.forall_mem_cons.mpr ⟨rfl, List.forall_mem_cons.mpr ⟨rfl, List.forall_mem_cons.mpr ⟨rfl, fun _ h => absurd h List.not_mem_nil⟩⟩⟩⟩⟩⟩)
                      unfold copyOK
                      rw [lg_cmp_le, Int64.le_iff_toInt_le, add64, Int32.toInt_toInt64, nI_toInt (by omega)] at h103
                      simp only [Int32.lt_iff_toInt_lt, i32_0] at *
                      omega
                    · have hno : ¬ copyOK z1 z2 place at_ many := by
                        rintro ⟨c1, c2, c3, c4, c5⟩
                        try rw [lg_cmp_gt, Int64.lt_iff_toInt_lt, add64, Int32.toInt_toInt64, nI_toInt (by omega)] at h85
                        try rw [lg_cmp_le, Int64.le_iff_toInt_le, add64, Int32.toInt_toInt64, nI_toInt (by omega)] at h103
                        simp only [Int32.lt_iff_toInt_lt, i32_0] at *
                        omega
                      refine r_ldcw hX dX8_copy_106 kc_X8_292 (RR.pc (b := 109) rfl ?_)
                      exact r_iret hX hZ dX8_copy_109 ⟨_, rfl, ⟨same.rf, fun z => z.elim (fun e => (ns hia e).elim) (fun e => (ns hib e).elim), fun a' b' f1 f2 => by have g1 := se hia f1; subst g1; have g2 := se hib f2; subst g2; exact ⟨fun z => absurd z (fun q => q.elim h23 (fun y => absurd y (Int32.not_lt.mpr h32))), fun _ => ⟨fun z => absurd h51 z, fun _ => ⟨fun _ => ⟨rfl, rfl⟩, fun z => absurd (by rw [q1, q2, nI_clamp (by omega), nI_clamp (by omega)] at z; exact z) hno⟩⟩⟩⟩⟩
          · refine r_ldc hX dX8_copy_54 kc_X8_121 (RR.pc (b := 56) rfl ?_)
            exact r_iret hX hZ dX8_copy_56 ⟨_, rfl, ⟨same.rf, fun z => z.elim (fun e => (ns hia e).elim) (fun e => (ns hib e).elim), fun a' b' f1 f2 => by have g1 := se hia f1; subst g1; have g2 := se hib f2; subst g2; exact ⟨fun z => absurd z (fun q => q.elim h23 (fun y => absurd y (Int32.not_lt.mpr h32))), fun _ => ⟨fun _ => ⟨rfl, rfl⟩, fun z => absurd z h51⟩⟩⟩⟩
        · refine r_ldcw hX dX8_copy_35 kc_X8_291 (RR.pc (b := 38) rfl ?_)
          exact r_iret hX hZ dX8_copy_38 ⟨_, rfl, ⟨same.rf, fun _ => by rename_i z; exact z.elim (fun e => (ns hia e).elim) (fun e => (ns hib e).elim), fun a' b' f1 f2 => by have g1 := se hia f1; subst g1; have g2 := se hib f2; subst g2; exact ⟨fun _ => ⟨rfl, rfl⟩, fun z => absurd (by first | exact Or.inl h23 | exact Or.inr (Int32.not_le.mp h32)) z⟩⟩⟩
    · refine r_ldc hX dX8_copy_14 kc_X8_84 (RR.pc (b := 16) rfl ?_)
      exact r_iret hX hZ dX8_copy_16 ⟨_, rfl, ⟨same.rf, fun _ => ⟨rfl, rfl⟩, fun a' b' f1 f2 => by obtain ⟨g1, g2⟩ := ix_lt f1 (by omega); obtain ⟨g3, g4⟩ := ix_lt f2 (by omega); first | exact absurd ⟨by rw [g4, nI_toInt (by omega)]; omega, by rw [g4, nI_toInt (by omega)]; omega⟩ h11 | exact absurd ⟨by rw [g2, nI_toInt (by omega)]; omega, by rw [g2, nI_toInt (by omega)]; omega⟩ h4⟩⟩
