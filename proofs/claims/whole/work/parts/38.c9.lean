/-! the class: mark, pour, copy -/
theorem i2s_sh (v : Int32) : v.toInt16.toInt32 = sh16 v := by
  apply Int32.toBitVec_inj.mp
  have e : ((16 : Int32) &&& 31) = 16 := by decide
  unfold sh16
  rw [e, Int32.toBitVec_shiftRight, Int32.toBitVec_shiftLeft]
  have e2 : ((16 : Int32).toBitVec.smod 32) = 16#32 := by decide
  rw [e2]
  apply BitVec.eq_of_getLsbD_eq
  intro i hi
  simp only [Int16.toBitVec_toInt32, BitVec.getLsbD_signExtend, BitVec.sshiftRight_eq', BitVec.getLsbD_sshiftRight, BitVec.shiftLeft_eq', BitVec.getLsbD_shiftLeft, BitVec.msb_shiftLeft, BitVec.toNat_ofNat]
  simp only [Int32.toBitVec_toInt16, BitVec.getLsbD_setWidth, BitVec.msb_setWidth, BitVec.getMsbD_eq_getLsbD]
  have hs : BitVec.signExtend 16 v.toBitVec = v.toBitVec.setWidth 16 := BitVec.signExtend_eq_setWidth_of_le _ (by decide)
  by_cases h : i < 16
  · simp [h, hi, hs, show 16 + i < 32 by omega, show ¬ 32 ≤ i by omega]
  · simp [h, hi, hs, show ¬ 16 + i < 32 by omega, show ¬ 32 ≤ i by omega, BitVec.msb_eq_getLsbD_last]
theorem mark_eqC {σ : SG} {a p : Nat} {v : Int32} (ha : a < 4) (hp : p < 24) : shEq (shC (su σ 7 (32 * a + p) v)) (rowS (shC σ) a (upd (shC σ a) p v)) := by
  intro b hb j hj
  unfold rowS shC
  rw [su_eq]
  by_cases e : b = a
  · subst e
    rw [if_pos rfl]
    by_cases e2 : j = p
    · subst e2
      rw [pk_us, pk_us]
    · rw [pk_un (by omega), pk_un e2]
  · rw [if_neg e, pk_un (by omega)]
set_option maxHeartbeats 4000000 in
set_option maxRecDepth 100000 in
theorem c_X7_mark {G : GM} {σ : SG} {sheet place v : Int32} (hS : SO (shC σ)) : CI G yX7_mark cX7_mark 5 (some .int) 2 [rf G 0, .int sheet, .int place, .int v] σ (fun r s => r = (markF (shC σ) sheet place v).1 ∧ shEq (shC s) (markF (shC σ) sheet place v).2 ∧ same [7] σ s) := by
  refine Con.of cd_X7_mark (Nat.le_of_ble_eq_true rfl) ?_
  intro X hX hZ
  have hX : Fx X G RX7 cX7_mark 5 2 := hX
  show RR X G 5 0 (ll [(0, rf G 0), (1, .int sheet), (2, .int place), (3, .int v)]) [] σ
  refine r_iload_n (i := 0) hX dX7_mark_0 rfl (RR.pc (b := 1) rfl ?_)
  refine r_callSie hX dX7_mark_1 ml_X7_206 cd_X7_isSheet st_X7_isSheet c_X7_isSheet (by decide) rfl rfl (Nat.le_of_ble_eq_true rfl) (RR.pc (b := 4) rfl ?_)
  refine r_if_ne_b (tgt := 10) hX dX7_mark_4 rfl (fun h4 => ?_) (fun h4 => RR.pc (b := 7) rfl ?_)
  · obtain ⟨a, ha, rfl⟩ := ix_of (n := 4) (k := sheet) ⟨by omega, by omega⟩ (by omega)
    obtain ⟨lh, lh1⟩ := layH ha
    obtain ⟨z, hz1, hz2⟩ := (hS a ha).2
    have q25 : (shC σ a 25).toNatClampNeg = z := by rw [hz2, nI_clamp (by omega)]
    refine r_aload_n hX dX7_mark_10 rfl ⟨_, rfl⟩ (RR.pc (b := 11) rfl ?_)
    refine r_getr hX dX7_mark_11 fl_X7_51 (by first | rfl | assumption) rfl (RR.pc (b := 14) rfl ?_)
    refine r_iload_n (i := 0) hX dX7_mark_14 rfl (RR.pc (b := 15) rfl ?_)
    refine r_aald hX dX7_mark_15 (by first | rfl | assumption) ⟨_, rfl⟩ rfl (by omega) (by decide) (RR.pc (b := 16) rfl ?_)
    refine r_astore hX dX7_mark_16 (by decide) ⟨_, rfl⟩ (RR.pc (b := 18) rfl ?_)
    refine r_aload hX dX7_mark_18 rfl ⟨_, rfl⟩ (RR.pc (b := 20) rfl ?_)
    refine r_callVie hX dX7_mark_20 ml_X7_209 cd_X1_isMissing iv_X1_isMissing (c_X1_isMissing lh) (by decide) (by first | rfl | assumption) rfl rfl rfl rfl (Nat.le_of_ble_eq_true rfl) (RR.pc (b := 23) rfl ?_)
    refine r_if_eq_b (tgt := 29) hX dX7_mark_23 rfl (fun h23 => ?_) (fun h23 => RR.pc (b := 26) rfl ?_)
    · refine r_aload hX dX7_mark_29 rfl ⟨_, rfl⟩ (RR.pc (b := 31) rfl ?_)
      refine r_iload_n (i := 0) hX dX7_mark_31 rfl (RR.pc (b := 32) rfl ?_)
      refine r_callVie hX dX7_mark_32 ml_X7_257 cd_X1_has iv_X1_has (c_X1_has lh hz1 hz2) (by decide) (by first | rfl | assumption) rfl rfl rfl rfl (Nat.le_of_ble_eq_true rfl) (RR.pc (b := 35) rfl ?_)
      refine r_if_ne_b (tgt := 42) hX dX7_mark_35 rfl (fun h35 => ?_) (fun h35 => RR.pc (b := 38) rfl ?_)
      · obtain ⟨p, hp, rfl⟩ := ix_of (n := z) (k := place) h35 (by omega)
        refine r_aload hX dX7_mark_42 rfl ⟨_, rfl⟩ (RR.pc (b := 44) rfl ?_)
        refine r_geti hX dX7_mark_44 fl_X7_261 (by first | rfl | assumption) rfl (RR.pc (b := 47) rfl ?_)
        refine r_if_ne (tgt := 59) hX dX7_mark_47 rfl (fun h47 => ?_) (fun h47 => RR.pc (b := 50) rfl ?_)
        · refine r_aload hX dX7_mark_59 rfl ⟨_, rfl⟩ (RR.pc (b := 61) rfl ?_)
          refine r_geti hX dX7_mark_61 fl_X7_261 (by first | rfl | assumption) rfl (RR.pc (b := 64) rfl ?_)
          refine r_iconst (v := 1) hX dX7_mark_64 (by decide) (RR.pc (b := 65) rfl ?_)
          refine r_icmp_ne (tgt := 90) hX dX7_mark_65 rfl (fun h65 => ?_) (fun h65 => RR.pc (b := 68) rfl ?_)
          · refine r_aload hX dX7_mark_90 rfl ⟨_, rfl⟩ (RR.pc (b := 92) rfl ?_)
            refine r_getr hX dX7_mark_92 fl_X7_266 (by first | rfl | assumption) rfl (RR.pc (b := 95) rfl ?_)
            refine r_iload_n (i := 0) hX dX7_mark_95 rfl (RR.pc (b := 96) rfl ?_)
            refine r_aload hX dX7_mark_96 rfl ⟨_, rfl⟩ (RR.pc (b := 98) rfl ?_)
            refine r_geti hX dX7_mark_98 fl_X7_261 (by first | rfl | assumption) rfl (RR.pc (b := 101) rfl ?_)
            refine r_dia1 110 (if σ 7 (32 * a + 24) = 0 then v.toInt16.toInt32 else v) (fun hj101 => ?_) ?_
            · refine r_if_ne (tgt := 109) hX dX7_mark_101 rfl (fun h101 => ?_) (fun h101 => RR.pc (b := 104) rfl ?_)
              · refine r_iload_n (i := 0) hX dX7_mark_109 rfl (RR.pc (b := 110) rfl ?_)
                exact RR.eqt (congrArg (fun q => Value.int q :: _) (if_neg h101).symm) hj101
              · refine r_iload_n (i := 0) hX dX7_mark_104 rfl (RR.pc (b := 105) rfl ?_)
                refine r_i2s hX dX7_mark_105 (RR.pc (b := 106) rfl ?_)
                refine r_goto (tgt := 110) hX dX7_mark_106 rfl ?_
                exact RR.eqt (congrArg (fun q => Value.int q :: _) (if_pos h101).symm) hj101
            refine r_iast hX dX7_mark_110 (by first | rfl | assumption) rfl (by omega) (by first | decide | omega) (by first | exact Nat.zero_add _ | rfl) (RR.pc (b := 111) rfl ?_)
            refine r_iconst (v := 1) hX dX7_mark_111 (by decide) (RR.pc (b := 112) rfl ?_)
            exact r_iret hX hZ dX7_mark_112 ⟨_, rfl, (by unfold markF; rw [ix_some ha (by omega)]; dsimp only; rw [if_neg (fun q => h23 ((hS.miss ha).mp q)), q25, ix_some hp (by omega)]; dsimp only; rw [if_neg (fun q => by first | exact h47 q.1 | exact h53 q.2), if_neg (fun q => by first | exact h65 q.1 | exact q.2.1 h71 | exact q.2.2 h84), i2s_sh]; exact ⟨rfl, mark_eqC ha (by omega), same.rf.su (by simp)⟩)⟩
          · refine r_iload_n (i := 0) hX dX7_mark_68 rfl (RR.pc (b := 69) rfl ?_)
            refine r_ldc hX dX7_mark_69 kc_X7_199 (RR.pc (b := 71) rfl ?_)
            refine r_icmp_eq (tgt := 90) hX dX7_mark_71 rfl (fun h71 => ?_) (fun h71 => RR.pc (b := 74) rfl ?_)
            · refine r_aload hX dX7_mark_90 rfl ⟨_, rfl⟩ (RR.pc (b := 92) rfl ?_)
              refine r_getr hX dX7_mark_92 fl_X7_266 (by first | rfl | assumption) rfl (RR.pc (b := 95) rfl ?_)
              refine r_iload_n (i := 0) hX dX7_mark_95 rfl (RR.pc (b := 96) rfl ?_)
              refine r_aload hX dX7_mark_96 rfl ⟨_, rfl⟩ (RR.pc (b := 98) rfl ?_)
              refine r_geti hX dX7_mark_98 fl_X7_261 (by first | rfl | assumption) rfl (RR.pc (b := 101) rfl ?_)
              refine r_dia1 110 (if σ 7 (32 * a + 24) = 0 then v.toInt16.toInt32 else v) (fun hj101 => ?_) ?_
              · refine r_if_ne (tgt := 109) hX dX7_mark_101 rfl (fun h101 => ?_) (fun h101 => RR.pc (b := 104) rfl ?_)
                · refine r_iload_n (i := 0) hX dX7_mark_109 rfl (RR.pc (b := 110) rfl ?_)
                  exact RR.eqt (congrArg (fun q => Value.int q :: _) (if_neg h101).symm) hj101
                · refine r_iload_n (i := 0) hX dX7_mark_104 rfl (RR.pc (b := 105) rfl ?_)
                  refine r_i2s hX dX7_mark_105 (RR.pc (b := 106) rfl ?_)
                  refine r_goto (tgt := 110) hX dX7_mark_106 rfl ?_
                  exact RR.eqt (congrArg (fun q => Value.int q :: _) (if_pos h101).symm) hj101
              refine r_iast hX dX7_mark_110 (by first | rfl | assumption) rfl (by omega) (by first | decide | omega) (by first | exact Nat.zero_add _ | rfl) (RR.pc (b := 111) rfl ?_)
              refine r_iconst (v := 1) hX dX7_mark_111 (by decide) (RR.pc (b := 112) rfl ?_)
              exact r_iret hX hZ dX7_mark_112 ⟨_, rfl, (by unfold markF; rw [ix_some ha (by omega)]; dsimp only; rw [if_neg (fun q => h23 ((hS.miss ha).mp q)), q25, ix_some hp (by omega)]; dsimp only; rw [if_neg (fun q => by first | exact h47 q.1 | exact h53 q.2), if_neg (fun q => by first | exact h65 q.1 | exact q.2.1 h71 | exact q.2.2 h84), i2s_sh]; exact ⟨rfl, mark_eqC ha (by omega), same.rf.su (by simp)⟩)⟩
            · refine r_iload_n (i := 0) hX dX7_mark_74 rfl (RR.pc (b := 75) rfl ?_)
              refine r_ldcw hX dX7_mark_75 kc_X7_264 (RR.pc (b := 78) rfl ?_)
              refine r_ldcw hX dX7_mark_78 kc_X7_265 (RR.pc (b := 81) rfl ?_)
              refine r_callSie hX dX7_mark_81 ml_X7_71 cd_X7_within st_X7_within c_X7_within (by decide) rfl rfl (Nat.le_of_ble_eq_true rfl) (RR.pc (b := 84) rfl ?_)
              refine r_if_ne_b (tgt := 90) hX dX7_mark_84 rfl (fun h84 => ?_) (fun h84 => RR.pc (b := 87) rfl ?_)
              · try simp only [Int32.reduceToInt] at h84
                refine r_aload hX dX7_mark_90 rfl ⟨_, rfl⟩ (RR.pc (b := 92) rfl ?_)
                refine r_getr hX dX7_mark_92 fl_X7_266 (by first | rfl | assumption) rfl (RR.pc (b := 95) rfl ?_)
                refine r_iload_n (i := 0) hX dX7_mark_95 rfl (RR.pc (b := 96) rfl ?_)
                refine r_aload hX dX7_mark_96 rfl ⟨_, rfl⟩ (RR.pc (b := 98) rfl ?_)
                refine r_geti hX dX7_mark_98 fl_X7_261 (by first | rfl | assumption) rfl (RR.pc (b := 101) rfl ?_)
                refine r_dia1 110 (if σ 7 (32 * a + 24) = 0 then v.toInt16.toInt32 else v) (fun hj101 => ?_) ?_
                · refine r_if_ne (tgt := 109) hX dX7_mark_101 rfl (fun h101 => ?_) (fun h101 => RR.pc (b := 104) rfl ?_)
                  · refine r_iload_n (i := 0) hX dX7_mark_109 rfl (RR.pc (b := 110) rfl ?_)
                    exact RR.eqt (congrArg (fun q => Value.int q :: _) (if_neg h101).symm) hj101
                  · refine r_iload_n (i := 0) hX dX7_mark_104 rfl (RR.pc (b := 105) rfl ?_)
                    refine r_i2s hX dX7_mark_105 (RR.pc (b := 106) rfl ?_)
                    refine r_goto (tgt := 110) hX dX7_mark_106 rfl ?_
                    exact RR.eqt (congrArg (fun q => Value.int q :: _) (if_pos h101).symm) hj101
                refine r_iast hX dX7_mark_110 (by first | rfl | assumption) rfl (by omega) (by first | decide | omega) (by first | exact Nat.zero_add _ | rfl) (RR.pc (b := 111) rfl ?_)
                refine r_iconst (v := 1) hX dX7_mark_111 (by decide) (RR.pc (b := 112) rfl ?_)
                exact r_iret hX hZ dX7_mark_112 ⟨_, rfl, (by unfold markF; rw [ix_some ha (by omega)]; dsimp only; rw [if_neg (fun q => h23 ((hS.miss ha).mp q)), q25, ix_some hp (by omega)]; dsimp only; rw [if_neg (fun q => by first | exact h47 q.1 | exact h53 q.2), if_neg (fun q => by first | exact h65 q.1 | exact q.2.1 h71 | exact q.2.2 h84), i2s_sh]; exact ⟨rfl, mark_eqC ha (by omega), same.rf.su (by simp)⟩)⟩
              · try simp only [Int32.reduceToInt] at h84
                refine r_ldc hX dX7_mark_87 kc_X7_75 (RR.pc (b := 89) rfl ?_)
                exact r_iret hX hZ dX7_mark_89 ⟨_, rfl, (by unfold markF; rw [ix_some ha (by omega)]; dsimp only; rw [if_neg (fun q => h23 ((hS.miss ha).mp q)), q25, ix_some hp (by omega)]; dsimp only; rw [if_neg (fun q => by first | exact h47 q.1 | exact h53 q.2), if_pos ⟨h65, h71, h84⟩]; exact ⟨rfl, shEq.rf, same.rf⟩)⟩
        · refine r_iload_n (i := 0) hX dX7_mark_50 rfl (RR.pc (b := 51) rfl ?_)
          refine r_ldc hX dX7_mark_51 kc_X7_199 (RR.pc (b := 53) rfl ?_)
          refine r_icmp_ne (tgt := 59) hX dX7_mark_53 rfl (fun h53 => ?_) (fun h53 => RR.pc (b := 56) rfl ?_)
          · refine r_aload hX dX7_mark_59 rfl ⟨_, rfl⟩ (RR.pc (b := 61) rfl ?_)
            refine r_geti hX dX7_mark_61 fl_X7_261 (by first | rfl | assumption) rfl (RR.pc (b := 64) rfl ?_)
            refine r_iconst (v := 1) hX dX7_mark_64 (by decide) (RR.pc (b := 65) rfl ?_)
            refine r_icmp_ne (tgt := 90) hX dX7_mark_65 rfl (fun h65 => ?_) (fun h65 => RR.pc (b := 68) rfl ?_)
            · refine r_aload hX dX7_mark_90 rfl ⟨_, rfl⟩ (RR.pc (b := 92) rfl ?_)
              refine r_getr hX dX7_mark_92 fl_X7_266 (by first | rfl | assumption) rfl (RR.pc (b := 95) rfl ?_)
              refine r_iload_n (i := 0) hX dX7_mark_95 rfl (RR.pc (b := 96) rfl ?_)
              refine r_aload hX dX7_mark_96 rfl ⟨_, rfl⟩ (RR.pc (b := 98) rfl ?_)
              refine r_geti hX dX7_mark_98 fl_X7_261 (by first | rfl | assumption) rfl (RR.pc (b := 101) rfl ?_)
              refine r_dia1 110 (if σ 7 (32 * a + 24) = 0 then v.toInt16.toInt32 else v) (fun hj101 => ?_) ?_
              · refine r_if_ne (tgt := 109) hX dX7_mark_101 rfl (fun h101 => ?_) (fun h101 => RR.pc (b := 104) rfl ?_)
                · refine r_iload_n (i := 0) hX dX7_mark_109 rfl (RR.pc (b := 110) rfl ?_)
                  exact RR.eqt (congrArg (fun q => Value.int q :: _) (if_neg h101).symm) hj101
                · refine r_iload_n (i := 0) hX dX7_mark_104 rfl (RR.pc (b := 105) rfl ?_)
                  refine r_i2s hX dX7_mark_105 (RR.pc (b := 106) rfl ?_)
                  refine r_goto (tgt := 110) hX dX7_mark_106 rfl ?_
                  exact RR.eqt (congrArg (fun q => Value.int q :: _) (if_pos h101).symm) hj101
              refine r_iast hX dX7_mark_110 (by first | rfl | assumption) rfl (by omega) (by first | decide | omega) (by first | exact Nat.zero_add _ | rfl) (RR.pc (b := 111) rfl ?_)
              refine r_iconst (v := 1) hX dX7_mark_111 (by decide) (RR.pc (b := 112) rfl ?_)
              exact r_iret hX hZ dX7_mark_112 ⟨_, rfl, (by unfold markF; rw [ix_some ha (by omega)]; dsimp only; rw [if_neg (fun q => h23 ((hS.miss ha).mp q)), q25, ix_some hp (by omega)]; dsimp only; rw [if_neg (fun q => by first | exact h47 q.1 | exact h53 q.2), if_neg (fun q => by first | exact h65 q.1 | exact q.2.1 h71 | exact q.2.2 h84), i2s_sh]; exact ⟨rfl, mark_eqC ha (by omega), same.rf.su (by simp)⟩)⟩
            · refine r_iload_n (i := 0) hX dX7_mark_68 rfl (RR.pc (b := 69) rfl ?_)
              refine r_ldc hX dX7_mark_69 kc_X7_199 (RR.pc (b := 71) rfl ?_)
              refine r_icmp_eq (tgt := 90) hX dX7_mark_71 rfl (fun h71 => ?_) (fun h71 => RR.pc (b := 74) rfl ?_)
              · refine r_aload hX dX7_mark_90 rfl ⟨_, rfl⟩ (RR.pc (b := 92) rfl ?_)
                refine r_getr hX dX7_mark_92 fl_X7_266 (by first | rfl | assumption) rfl (RR.pc (b := 95) rfl ?_)
                refine r_iload_n (i := 0) hX dX7_mark_95 rfl (RR.pc (b := 96) rfl ?_)
                refine r_aload hX dX7_mark_96 rfl ⟨_, rfl⟩ (RR.pc (b := 98) rfl ?_)
                refine r_geti hX dX7_mark_98 fl_X7_261 (by first | rfl | assumption) rfl (RR.pc (b := 101) rfl ?_)
                refine r_dia1 110 (if σ 7 (32 * a + 24) = 0 then v.toInt16.toInt32 else v) (fun hj101 => ?_) ?_
                · refine r_if_ne (tgt := 109) hX dX7_mark_101 rfl (fun h101 => ?_) (fun h101 => RR.pc (b := 104) rfl ?_)
                  · refine r_iload_n (i := 0) hX dX7_mark_109 rfl (RR.pc (b := 110) rfl ?_)
                    exact RR.eqt (congrArg (fun q => Value.int q :: _) (if_neg h101).symm) hj101
                  · refine r_iload_n (i := 0) hX dX7_mark_104 rfl (RR.pc (b := 105) rfl ?_)
                    refine r_i2s hX dX7_mark_105 (RR.pc (b := 106) rfl ?_)
                    refine r_goto (tgt := 110) hX dX7_mark_106 rfl ?_
                    exact RR.eqt (congrArg (fun q => Value.int q :: _) (if_pos h101).symm) hj101
                refine r_iast hX dX7_mark_110 (by first | rfl | assumption) rfl (by omega) (by first | decide | omega) (by first | exact Nat.zero_add _ | rfl) (RR.pc (b := 111) rfl ?_)
                refine r_iconst (v := 1) hX dX7_mark_111 (by decide) (RR.pc (b := 112) rfl ?_)
                exact r_iret hX hZ dX7_mark_112 ⟨_, rfl, (by unfold markF; rw [ix_some ha (by omega)]; dsimp only; rw [if_neg (fun q => h23 ((hS.miss ha).mp q)), q25, ix_some hp (by omega)]; dsimp only; rw [if_neg (fun q => by first | exact h47 q.1 | exact h53 q.2), if_neg (fun q => by first | exact h65 q.1 | exact q.2.1 h71 | exact q.2.2 h84), i2s_sh]; exact ⟨rfl, mark_eqC ha (by omega), same.rf.su (by simp)⟩)⟩
              · refine r_iload_n (i := 0) hX dX7_mark_74 rfl (RR.pc (b := 75) rfl ?_)
                refine r_ldcw hX dX7_mark_75 kc_X7_264 (RR.pc (b := 78) rfl ?_)
                refine r_ldcw hX dX7_mark_78 kc_X7_265 (RR.pc (b := 81) rfl ?_)
                refine r_callSie hX dX7_mark_81 ml_X7_71 cd_X7_within st_X7_within c_X7_within (by decide) rfl rfl (Nat.le_of_ble_eq_true rfl) (RR.pc (b := 84) rfl ?_)
                refine r_if_ne_b (tgt := 90) hX dX7_mark_84 rfl (fun h84 => ?_) (fun h84 => RR.pc (b := 87) rfl ?_)
                · try simp only [Int32.reduceToInt] at h84
                  refine r_aload hX dX7_mark_90 rfl ⟨_, rfl⟩ (RR.pc (b := 92) rfl ?_)
                  refine r_getr hX dX7_mark_92 fl_X7_266 (by first | rfl | assumption) rfl (RR.pc (b := 95) rfl ?_)
                  refine r_iload_n (i := 0) hX dX7_mark_95 rfl (RR.pc (b := 96) rfl ?_)
                  refine r_aload hX dX7_mark_96 rfl ⟨_, rfl⟩ (RR.pc (b := 98) rfl ?_)
                  refine r_geti hX dX7_mark_98 fl_X7_261 (by first | rfl | assumption) rfl (RR.pc (b := 101) rfl ?_)
                  refine r_dia1 110 (if σ 7 (32 * a + 24) = 0 then v.toInt16.toInt32 else v) (fun hj101 => ?_) ?_
                  · refine r_if_ne (tgt := 109) hX dX7_mark_101 rfl (fun h101 => ?_) (fun h101 => RR.pc (b := 104) rfl ?_)
                    · refine r_iload_n (i := 0) hX dX7_mark_109 rfl (RR.pc (b := 110) rfl ?_)
                      exact RR.eqt (congrArg (fun q => Value.int q :: _) (if_neg h101).symm) hj101
                    · refine r_iload_n (i := 0) hX dX7_mark_104 rfl (RR.pc (b := 105) rfl ?_)
                      refine r_i2s hX dX7_mark_105 (RR.pc (b := 106) rfl ?_)
                      refine r_goto (tgt := 110) hX dX7_mark_106 rfl ?_
                      exact RR.eqt (congrArg (fun q => Value.int q :: _) (if_pos h101).symm) hj101
                  refine r_iast hX dX7_mark_110 (by first | rfl | assumption) rfl (by omega) (by first | decide | omega) (by first | exact Nat.zero_add _ | rfl) (RR.pc (b := 111) rfl ?_)
                  refine r_iconst (v := 1) hX dX7_mark_111 (by decide) (RR.pc (b := 112) rfl ?_)
                  exact r_iret hX hZ dX7_mark_112 ⟨_, rfl, (by unfold markF; rw [ix_some ha (by omega)]; dsimp only; rw [if_neg (fun q => h23 ((hS.miss ha).mp q)), q25, ix_some hp (by omega)]; dsimp only; rw [if_neg (fun q => by first | exact h47 q.1 | exact h53 q.2), if_neg (fun q => by first | exact h65 q.1 | exact q.2.1 h71 | exact q.2.2 h84), i2s_sh]; exact ⟨rfl, mark_eqC ha (by omega), same.rf.su (by simp)⟩)⟩
                · try simp only [Int32.reduceToInt] at h84
                  refine r_ldc hX dX7_mark_87 kc_X7_75 (RR.pc (b := 89) rfl ?_)
                  exact r_iret hX hZ dX7_mark_89 ⟨_, rfl, (by unfold markF; rw [ix_some ha (by omega)]; dsimp only; rw [if_neg (fun q => h23 ((hS.miss ha).mp q)), q25, ix_some hp (by omega)]; dsimp only; rw [if_neg (fun q => by first | exact h47 q.1 | exact h53 q.2), if_pos ⟨h65, h71, h84⟩]; exact ⟨rfl, shEq.rf, same.rf⟩)⟩
          · refine r_ldc hX dX7_mark_56 kc_X7_123 (RR.pc (b := 58) rfl ?_)
            exact r_iret hX hZ dX7_mark_58 ⟨_, rfl, (by unfold markF; rw [ix_some ha (by omega)]; dsimp only; rw [if_neg (fun q => h23 ((hS.miss ha).mp q)), q25, ix_some hp (by omega)]; dsimp only; rw [if_pos ⟨h47, h53⟩]; exact ⟨rfl, shEq.rf, same.rf⟩)⟩
      · refine r_ldcw hX dX7_mark_38 kc_X7_260 (RR.pc (b := 41) rfl ?_)
        exact r_iret hX hZ dX7_mark_41 ⟨_, rfl, (by unfold markF; rw [ix_some ha (by omega)]; dsimp only; rw [if_neg (fun q => h23 ((hS.miss ha).mp q)), q25, ix_none h35]; exact ⟨rfl, shEq.rf, same.rf⟩)⟩
    · refine r_ldc hX dX7_mark_26 kc_X7_212 (RR.pc (b := 28) rfl ?_)
      exact r_iret hX hZ dX7_mark_28 ⟨_, rfl, (by unfold markF; rw [ix_some ha (by omega)]; dsimp only; rw [if_pos ((hS.miss ha).mpr h23)]; exact ⟨rfl, shEq.rf, same.rf⟩)⟩
  · refine r_ldc hX dX7_mark_7 kc_X7_75 (RR.pc (b := 9) rfl ?_)
    exact r_iret hX hZ dX7_mark_9 ⟨_, rfl, (by unfold markF; rw [ix_none (by omega)]; exact ⟨rfl, shEq.rf, same.rf⟩)⟩
theorem pouW_none {w f : Nat → Int32} {k : Nat} (h : f k = vNONE) : pouW w f (k + 1) = pouW w f k ∧ pouC w f (k + 1) = pouC w f k := by
  unfold pouW pouC
  rw [if_pos h, upd_self, if_pos rfl, Int32.add_zero]
  exact ⟨by cases k <;> rfl, by cases k <;> rfl⟩
theorem pouW_num {w f : Nat → Int32} {k : Nat} (h : ¬ f k = vNONE) : pouW w f (k + 1) = upd (pouW w f k) (131 + 5 * k + 4) (hold (f k) 50) ∧ pouC w f (k + 1) = pouC w f k + (if hold (f k) 50 = pouW w f k (131 + 5 * k + 4) then 0 else 1) := by
  rw [pouW, pouC, if_neg h]
  exact ⟨rfl, rfl⟩
set_option maxHeartbeats 4000000 in
set_option maxRecDepth 100000 in
theorem c_X7_pour {G : GM} {σ : SG} {n : Nat} {sheet : Int32} (hS : SO (shC σ)) (hN : σ 0 0 = nI n) (h8 : n ≤ 8) : CI G yX7_pour cX7_pour 6 (some .int) 3 [rf G 0, .int sheet] σ (fun r s => r = (pourF (shC σ) (σ 0) n sheet).1 ∧ s = sr σ 0 (pourF (shC σ) (σ 0) n sheet).2) := by
  refine Con.of cd_X7_pour (Nat.le_of_ble_eq_true rfl) ?_
  intro X hX hZ
  have hX : Fx X G RX7 cX7_pour 6 3 := hX
  show RR X G 6 0 (ll [(0, rf G 0), (1, .int sheet)]) [] σ
  have go : ∀ (a z : Nat), a < 4 → z ≤ 24 → σ 7 (32 * a + 25) = nI z → pourF (shC σ) (σ 0) n sheet = (pouC (σ 0) (shC σ a) (min z n), pouW (σ 0) (shC σ a) (min z n)) → RR X G 6 27 (ll [(0, rf G 0), (2, rf G (79 + 2 * a))]) [] σ := by
    intro a z ha hz1 hz2 hF
    obtain ⟨lh, lh1⟩ := layH ha
    have loop := loopK n (fun k => RR X G 6 32 (ll [(0, rf G 0), (2, rf G (79 + 2 * a)), (3, .int (pouC (σ 0) (shC σ a) (min z k))), (4, .int (nI k))]) [] (sr σ 0 (pouW (σ 0) (shC σ a) (min z k)))) (by
      intro k hk ih
      refine r_iload hX dX7_pour_32 rfl (RR.pc (b := 34) rfl ?_)
      refine r_aload_n hX dX7_pour_34 rfl ⟨_, rfl⟩ (RR.pc (b := 35) rfl ?_)
      refine r_getr hX dX7_pour_35 fl_X7_39 (by first | rfl | assumption) rfl (RR.pc (b := 38) rfl ?_)
      refine r_geti hX dX7_pour_38 fl_X7_76 (by first | rfl | assumption) rfl (RR.pc (b := 41) rfl ?_)
      rw [sr_eq, pouW_out (i := 0) (fun j _ => by omega), hN]
      refine r_icmp_ge (tgt := 115) hX dX7_pour_41 rfl (fun h41 => ?_) (fun h41 => RR.pc (b := 44) rfl ?_)
      · have hk2 : k = n := by rw [nI_leI (by omega) (by omega)] at h41; omega
        subst hk2
        refine r_iload_n (i := 0) hX dX7_pour_115 rfl (RR.pc (b := 116) rfl ?_)
        exact r_iret hX hZ dX7_pour_116 ⟨_, rfl, by rw [hF]; exact ⟨rfl, rfl⟩⟩
      · have hk2 : k < n := by rw [nI_leI (by omega) (by omega)] at h41; omega
        have lm := layM0 (i := k) (by omega)
        refine r_aload_n hX dX7_pour_44 rfl ⟨_, rfl⟩ (RR.pc (b := 45) rfl ?_)
        refine r_iload hX dX7_pour_45 rfl (RR.pc (b := 47) rfl ?_)
        refine r_callVie hX dX7_pour_47 ml_X7_269 cd_X1_hasNumber iv_X1_hasNumber (c_X1_hasNumber (z := z) (j := k) lh lh1 hz1 (by rw [sr_ne (by decide)]; exact hz2) (by omega)) (by decide) (by first | rfl | assumption) rfl rfl rfl rfl (Nat.le_of_ble_eq_true rfl) (RR.pc (b := 50) rfl ?_)
        rw [sr_ne (show (7 : Nat) ≠ 0 by decide)]
        refine r_if_eq_b (tgt := 109) hX dX7_pour_50 rfl (fun h50 => ?_) (fun h50 => RR.pc (b := 53) rfl ?_)
        · have hst : pouW (σ 0) (shC σ a) (min z (k + 1)) = pouW (σ 0) (shC σ a) (min z k) ∧ pouC (σ 0) (shC σ a) (min z (k + 1)) = pouC (σ 0) (shC σ a) (min z k) := by
            by_cases hkz : k < z
            · have hno : shC σ a k = vNONE := Decidable.byContradiction (fun q => h50 ⟨hkz, q⟩)
              rw [show min z (k + 1) = k + 1 by omega, show min z k = k by omega]
              exact pouW_none hno
            · rw [show min z (k + 1) = min z k by omega]
              exact ⟨rfl, rfl⟩
          rw [hst.1, hst.2] at ih
          refine r_iinc hX dX7_pour_109 rfl (by decide) (nI_1 k) (RR.pc (b := 112) rfl ?_)
          refine r_goto (tgt := 32) hX dX7_pour_112 rfl ?_
          exact RR.cut (ih hk2) (List.forall_mem_cons.mpr ⟨rfl, List.forall_mem_cons.mpr ⟨rfl, List.forall_mem_cons.mpr ⟨rfl, List.forall_mem_cons.mpr ⟨rfl, fun _ h => absurd h List.not_mem_nil⟩⟩⟩⟩)
        · have e1 := pouW_num (w := σ 0) (f := shC σ a) (k := k) h50.2
          rw [show min z (k + 1) = k + 1 by omega, e1.1, e1.2] at ih
          rw [show min z k = k by omega]
          refine r_aload_n hX dX7_pour_53 rfl ⟨_, rfl⟩ (RR.pc (b := 54) rfl ?_)
          refine r_getr hX dX7_pour_54 fl_X7_266 (by first | rfl | assumption) rfl (RR.pc (b := 57) rfl ?_)
          refine r_iload hX dX7_pour_57 rfl (RR.pc (b := 59) rfl ?_)
          refine r_iald hX dX7_pour_59 (by first | rfl | assumption) rfl (by omega) (by first | decide | omega) (by first | exact Nat.zero_add _ | rfl) (RR.pc (b := 60) rfl ?_)
          refine r_iconst (v := 0) hX dX7_pour_60 (by decide) (RR.pc (b := 61) rfl ?_)
          refine r_bipush (v := 50) hX dX7_pour_61 (by decide) (RR.pc (b := 63) rfl ?_)
          refine r_callSi hX dX7_pour_63 ml_X7_272 cd_X7_held st_X7_held (c_X7_held (by decide)) (by decide) rfl rfl (Nat.le_of_ble_eq_true rfl) (fun r_63 s_63 e_63 => RR.pc (b := 66) rfl ?_)
          obtain ⟨rfl, rfl⟩ := e_63
          rw [sr_ne (show (7 : Nat) ≠ 0 by decide)]
          refine r_istore hX dX7_pour_66 (by decide) (RR.pc (b := 68) rfl ?_)
          refine r_iload_n (i := 0) hX dX7_pour_68 rfl (RR.pc (b := 69) rfl ?_)
          refine r_iload hX dX7_pour_69 rfl (RR.pc (b := 71) rfl ?_)
          refine r_aload_n hX dX7_pour_71 rfl ⟨_, rfl⟩ (RR.pc (b := 72) rfl ?_)
          refine r_getr hX dX7_pour_72 fl_X7_39 (by first | rfl | assumption) rfl (RR.pc (b := 75) rfl ?_)
          refine r_getr hX dX7_pour_75 fl_X7_88 (by first | rfl | assumption) rfl (RR.pc (b := 78) rfl ?_)
          refine r_iload hX dX7_pour_78 rfl (RR.pc (b := 80) rfl ?_)
          refine r_aald hX dX7_pour_80 (by first | rfl | assumption) ⟨_, rfl⟩ rfl (by omega) (by decide) (RR.pc (b := 81) rfl ?_)
          refine r_geti hX dX7_pour_81 fl_X7_106 (by first | rfl | assumption) rfl (RR.pc (b := 84) rfl ?_)
          rw [sr_eq]
          refine r_dia2 92 (if hold (shC σ a k) 50 = pouW (σ 0) (shC σ a) k (131 + 5 * k + 4) then 0 else 1) (fun hj84 => ?_) ?_
          · refine r_icmp_ne (tgt := 91) hX dX7_pour_84 rfl (fun h84 => ?_) (fun h84 => RR.pc (b := 87) rfl ?_)
            · refine r_iconst (v := 1) hX dX7_pour_91 (by decide) (RR.pc (b := 92) rfl ?_)
              exact RR.eqt (congrArg (fun q => Value.int q :: _) (if_neg h84).symm) hj84
            · refine r_iconst (v := 0) hX dX7_pour_87 (by decide) (RR.pc (b := 88) rfl ?_)
              refine r_goto (tgt := 92) hX dX7_pour_88 rfl ?_
              exact RR.eqt (congrArg (fun q => Value.int q :: _) (if_pos h84).symm) hj84
          refine r_iadd hX dX7_pour_92 (RR.pc (b := 93) rfl ?_)
          refine r_istore_n hX dX7_pour_93 (by decide) (RR.pc (b := 94) rfl ?_)
          refine r_aload_n hX dX7_pour_94 rfl ⟨_, rfl⟩ (RR.pc (b := 95) rfl ?_)
          refine r_getr hX dX7_pour_95 fl_X7_39 (by first | rfl | assumption) rfl (RR.pc (b := 98) rfl ?_)
          refine r_getr hX dX7_pour_98 fl_X7_88 (by first | rfl | assumption) rfl (RR.pc (b := 101) rfl ?_)
          refine r_iload hX dX7_pour_101 rfl (RR.pc (b := 103) rfl ?_)
          refine r_aald hX dX7_pour_103 (by first | rfl | assumption) ⟨_, rfl⟩ rfl (by omega) (by decide) (RR.pc (b := 104) rfl ?_)
          refine r_iload hX dX7_pour_104 rfl (RR.pc (b := 106) rfl ?_)
          refine r_puti hX dX7_pour_106 fl_X7_106 (by first | rfl | assumption) rfl ft_0_4 (RR.pc (b := 109) rfl ?_)
          refine r_iinc hX dX7_pour_109 rfl (by decide) (nI_1 k) (RR.pc (b := 112) rfl ?_)
          refine r_goto (tgt := 32) hX dX7_pour_112 rfl ?_
          exact RR.eqs su_sr (RR.cut (ih hk2) (List.forall_mem_cons.mpr ⟨rfl, List.forall_mem_cons.mpr ⟨rfl, List.forall_mem_cons.mpr ⟨rfl, List.forall_mem_cons.mpr ⟨rfl, fun _ h => absurd h List.not_mem_nil⟩⟩⟩⟩))
      )
    refine r_iconst (v := 0) hX dX7_pour_27 (by decide) (RR.pc (b := 28) rfl ?_)
    refine r_istore_n hX dX7_pour_28 (by decide) (RR.pc (b := 29) rfl ?_)
    refine r_iconst (v := 0) hX dX7_pour_29 (by decide) (RR.pc (b := 30) rfl ?_)
    refine r_istore hX dX7_pour_30 (by decide) (RR.pc (b := 32) rfl ?_)
    exact RR.eqs (show σ = sr σ 0 (pouW (σ 0) (shC σ a) (min z 0)) from by rw [Nat.min_zero]; exact (sr_self (r := 0)).symm) (RR.cut (loop 0 (by omega)) (List.forall_mem_cons.mpr ⟨rfl, List.forall_mem_cons.mpr ⟨rfl, List.forall_mem_cons.mpr ⟨by rw [Nat.min_zero]; rfl, List.forall_mem_cons.mpr ⟨rfl, fun _ h => absurd h List.not_mem_nil⟩⟩⟩⟩))
  refine r_iload_n (i := 0) hX dX7_pour_0 rfl (RR.pc (b := 1) rfl ?_)
  refine r_callSie hX dX7_pour_1 ml_X7_206 cd_X7_isSheet st_X7_isSheet c_X7_isSheet (by decide) rfl rfl (Nat.le_of_ble_eq_true rfl) (RR.pc (b := 4) rfl ?_)
  refine r_if_ne_b (tgt := 10) hX dX7_pour_4 rfl (fun h4 => ?_) (fun h4 => RR.pc (b := 7) rfl ?_)
  · obtain ⟨a, ha, rfl⟩ := ix_of (n := 4) (k := sheet) ⟨by omega, by omega⟩ (by omega)
    obtain ⟨lh, lh1⟩ := layH ha
    obtain ⟨z, hz1, hz2⟩ := (hS a ha).2
    have q25 : (shC σ a 25).toNatClampNeg = z := by rw [hz2, nI_clamp (by omega)]
    refine r_aload_n hX dX7_pour_10 rfl ⟨_, rfl⟩ (RR.pc (b := 11) rfl ?_)
    refine r_getr hX dX7_pour_11 fl_X7_51 (by first | rfl | assumption) rfl (RR.pc (b := 14) rfl ?_)
    refine r_iload_n (i := 0) hX dX7_pour_14 rfl (RR.pc (b := 15) rfl ?_)
    refine r_aald hX dX7_pour_15 (by first | rfl | assumption) ⟨_, rfl⟩ rfl (by omega) (by decide) (RR.pc (b := 16) rfl ?_)
    refine r_astore_n hX dX7_pour_16 (by decide) ⟨_, rfl⟩ (RR.pc (b := 17) rfl ?_)
    refine r_aload_n hX dX7_pour_17 rfl ⟨_, rfl⟩ (RR.pc (b := 18) rfl ?_)
    refine r_callVie hX dX7_pour_18 ml_X7_209 cd_X1_isMissing iv_X1_isMissing (c_X1_isMissing lh) (by decide) (by first | rfl | assumption) rfl rfl rfl rfl (Nat.le_of_ble_eq_true rfl) (RR.pc (b := 21) rfl ?_)
    refine r_if_eq_b (tgt := 27) hX dX7_pour_21 rfl (fun h21 => ?_) (fun h21 => RR.pc (b := 24) rfl ?_)
    · exact RR.cut (go a z ha hz1 hz2 (by unfold pourF; rw [ix_some ha (by omega)]; dsimp only; rw [if_neg (fun q => h21 ((hS.miss ha).mp q)), q25])) (List.forall_mem_cons.mpr ⟨rfl, List.forall_mem_cons.mpr ⟨rfl, fun _ h => absurd h List.not_mem_nil⟩⟩)
    · refine r_ldc hX dX7_pour_24 kc_X7_212 (RR.pc (b := 26) rfl ?_)
      exact r_iret hX hZ dX7_pour_26 ⟨_, rfl, (by unfold pourF; rw [ix_some ha (by omega)]; dsimp only; rw [if_pos ((hS.miss ha).mpr h21)]; exact ⟨rfl, sr_self.symm⟩)⟩
  · refine r_ldc hX dX7_pour_7 kc_X7_75 (RR.pc (b := 9) rfl ?_)
    exact r_iret hX hZ dX7_pour_9 ⟨_, rfl, (by unfold pourF; rw [ix_none (by omega)]; exact ⟨rfl, sr_self.symm⟩)⟩
set_option maxHeartbeats 4000000 in
set_option maxRecDepth 100000 in
theorem c_X7_copy {G : GM} {σ : SG} {from_ place to_ at_ many : Int32} (hS : SO (shC σ)) : CI G yX7_copy cX7_copy 8 (some .int) 2 [rf G 0, .int from_, .int place, .int to_, .int at_, .int many] σ (fun r s => same [7] σ s ∧ ((ix from_ 4 = none ∨ ix to_ 4 = none) → r = vBAD ∧ s = σ) ∧ (∀ a b, ix from_ 4 = some a → ix to_ 4 = some b → ((shC σ a 24 < 0 ∨ shC σ b 24 < 0) → r = vNOTH ∧ s = σ) ∧ (¬ (shC σ a 24 < 0 ∨ shC σ b 24 < 0) → (¬ shC σ a 24 = shC σ b 24 → r = vKIND ∧ s = σ) ∧ (shC σ a 24 = shC σ b 24 → (¬ copyOK (shC σ a 25).toNatClampNeg (shC σ b 25).toNatClampNeg place at_ many → r = vINDEX ∧ s = σ) ∧ (copyOK (shC σ a 25).toNatClampNeg (shC σ b 25).toNatClampNeg place at_ many → r = many ∧ s 7 = cpA (σ 7) (σ 7) (32 * b + at_.toNatClampNeg) (32 * a + place.toNatClampNeg) many.toNatClampNeg))))) := by
  refine Con.of cd_X7_copy (Nat.le_of_ble_eq_true rfl) ?_
  intro X hX hZ
  have hX : Fx X G RX7 cX7_copy 8 2 := hX
  show RR X G 8 0 (ll [(0, rf G 0), (1, .int from_), (2, .int place), (3, .int to_), (4, .int at_), (5, .int many)]) [] σ
  have go : ∀ a b z1 z2, a < 4 → b < 4 → z1 ≤ 24 → z2 ≤ 24 → from_ = nI a → to_ = nI b → shC σ a 25 = nI z1 → shC σ b 25 = nI z2 → ¬ (shC σ a 24 < 0 ∨ shC σ b 24 < 0) → shC σ a 24 = shC σ b 24 → copyOK z1 z2 place at_ many → RR X G 8 95 (ll [(0, rf G 0), (2, .int place), (4, .int at_), (5, .int many), (6, rf G (79 + 2 * a)), (7, rf G (79 + 2 * b))]) [] σ := by
    intro a b z1 z2 ha hb hz1 hz2 e1 e2 q1 q2 hm hso hok
    subst e1; subst e2
    have hok0 := hok
    obtain ⟨c1, c2, c3, c4, c5⟩ := hok
    obtain ⟨p, hp, rfl⟩ := ix_of (n := 25) (k := place) ⟨by omega, by omega⟩ (by omega)
    obtain ⟨t, ht, rfl⟩ := ix_of (n := 25) (k := at_) ⟨by omega, by omega⟩ (by omega)
    obtain ⟨m, hm1, rfl⟩ := ix_of (n := 25) (k := many) ⟨by omega, by omega⟩ (by omega)
    rw [nI_toInt (by omega), nI_toInt (by omega)] at c4 c5
    have hia := ix_some (n := 4) ha (by omega)
    have hib := ix_some (n := 4) hb (by omega)
    obtain ⟨la, la1⟩ := layH ha
    obtain ⟨lb, lb1⟩ := layH hb
    refine r_aload hX dX7_copy_95 rfl ⟨_, rfl⟩ (RR.pc (b := 97) rfl ?_)
    refine r_getr hX dX7_copy_97 fl_X7_266 (by first | rfl | assumption) rfl (RR.pc (b := 100) rfl ?_)
    refine r_iload_n (i := 0) hX dX7_copy_100 rfl (RR.pc (b := 101) rfl ?_)
    refine r_aload hX dX7_copy_101 rfl ⟨_, rfl⟩ (RR.pc (b := 103) rfl ?_)
    refine r_getr hX dX7_copy_103 fl_X7_266 (by first | rfl | assumption) rfl (RR.pc (b := 106) rfl ?_)
    refine r_iload hX dX7_copy_106 rfl (RR.pc (b := 108) rfl ?_)
    refine r_iload hX dX7_copy_108 rfl (RR.pc (b := 110) rfl ?_)
    refine r_copy (n := m) (sp := p) (dp := t) hX (by decide) dX7_copy_110 ml_X7_280 la1 lb1 (by decide) (by decide) (by decide) (by decide) (by omega) (by omega) (Nat.le_of_ble_eq_true rfl) rfl rfl rfl (RR.pc (b := 113) rfl ?_)
    refine r_iload hX dX7_copy_113 rfl (RR.pc (b := 115) rfl ?_)
    exact r_iret hX hZ dX7_copy_115 ⟨_, rfl, ⟨same.rf.sr (by simp), fun z => z.elim (fun e => (ns hia e).elim) (fun e => (ns hib e).elim), fun a' b' f1 f2 => by have g1 := se hia f1; subst g1; have g2 := se hib f2; subst g2; exact ⟨fun z => absurd z hm, fun _ => ⟨fun z => absurd hso z, fun _ => ⟨fun z => absurd (by rw [q1, q2, nI_clamp (by omega), nI_clamp (by omega)]; exact hok0) z, fun _ => ⟨rfl, by rw [sr_eq, nI_clamp (by omega), nI_clamp (by omega), nI_clamp (by omega)]; rfl⟩⟩⟩⟩⟩⟩
  refine r_iload_n (i := 0) hX dX7_copy_0 rfl (RR.pc (b := 1) rfl ?_)
  refine r_callSie hX dX7_copy_1 ml_X7_206 cd_X7_isSheet st_X7_isSheet c_X7_isSheet (by decide) rfl rfl (Nat.le_of_ble_eq_true rfl) (RR.pc (b := 4) rfl ?_)
  refine r_if_eq_b (tgt := 14) hX dX7_copy_4 rfl (fun h4 => ?_) (fun h4 => RR.pc (b := 7) rfl ?_)
  · refine r_ldc hX dX7_copy_14 kc_X7_75 (RR.pc (b := 16) rfl ?_)
    exact r_iret hX hZ dX7_copy_16 ⟨_, rfl, ⟨same.rf, fun _ => ⟨rfl, rfl⟩, fun a' b' f1 f2 => by obtain ⟨g1, g2⟩ := ix_lt f1 (by omega); obtain ⟨g3, g4⟩ := ix_lt f2 (by omega); first | exact absurd ⟨by rw [g4, nI_toInt (by omega)]; omega, by rw [g4, nI_toInt (by omega)]; omega⟩ h11 | exact absurd ⟨by rw [g2, nI_toInt (by omega)]; omega, by rw [g2, nI_toInt (by omega)]; omega⟩ h4⟩⟩
  · obtain ⟨a, ha, rfl⟩ := ix_of (n := 4) (k := from_) ⟨by omega, by omega⟩ (by omega)
    have hia := ix_some (n := 4) ha (by omega)
    obtain ⟨z1, hz1, q1⟩ := (hS a ha).2
    obtain ⟨la, la1⟩ := layH ha
    refine r_iload_n (i := 0) hX dX7_copy_7 rfl (RR.pc (b := 8) rfl ?_)
    refine r_callSie hX dX7_copy_8 ml_X7_206 cd_X7_isSheet st_X7_isSheet c_X7_isSheet (by decide) rfl rfl (Nat.le_of_ble_eq_true rfl) (RR.pc (b := 11) rfl ?_)
    refine r_if_ne_b (tgt := 17) hX dX7_copy_11 rfl (fun h11 => ?_) (fun h11 => RR.pc (b := 14) rfl ?_)
    · obtain ⟨b, hb, rfl⟩ := ix_of (n := 4) (k := to_) ⟨by omega, by omega⟩ (by omega)
      have hib := ix_some (n := 4) hb (by omega)
      obtain ⟨z2, hz2, q2⟩ := (hS b hb).2
      obtain ⟨lb, lb1⟩ := layH hb
      refine r_aload_n hX dX7_copy_17 rfl ⟨_, rfl⟩ (RR.pc (b := 18) rfl ?_)
      refine r_getr hX dX7_copy_18 fl_X7_51 (by first | rfl | assumption) rfl (RR.pc (b := 21) rfl ?_)
      refine r_iload_n (i := 0) hX dX7_copy_21 rfl (RR.pc (b := 22) rfl ?_)
      refine r_aald hX dX7_copy_22 (by first | rfl | assumption) ⟨_, rfl⟩ rfl (by omega) (by decide) (RR.pc (b := 23) rfl ?_)
      refine r_astore hX dX7_copy_23 (by decide) ⟨_, rfl⟩ (RR.pc (b := 25) rfl ?_)
      refine r_aload_n hX dX7_copy_25 rfl ⟨_, rfl⟩ (RR.pc (b := 26) rfl ?_)
      refine r_getr hX dX7_copy_26 fl_X7_51 (by first | rfl | assumption) rfl (RR.pc (b := 29) rfl ?_)
      refine r_iload_n (i := 0) hX dX7_copy_29 rfl (RR.pc (b := 30) rfl ?_)
      refine r_aald hX dX7_copy_30 (by first | rfl | assumption) ⟨_, rfl⟩ rfl (by omega) (by decide) (RR.pc (b := 31) rfl ?_)
      refine r_astore hX dX7_copy_31 (by decide) ⟨_, rfl⟩ (RR.pc (b := 33) rfl ?_)
      refine r_aload hX dX7_copy_33 rfl ⟨_, rfl⟩ (RR.pc (b := 35) rfl ?_)
      refine r_callVie hX dX7_copy_35 ml_X7_209 cd_X1_isMissing iv_X1_isMissing (c_X1_isMissing la) (by decide) (by first | rfl | assumption) rfl rfl rfl rfl (Nat.le_of_ble_eq_true rfl) (RR.pc (b := 38) rfl ?_)
      refine r_if_ne_b (tgt := 49) hX dX7_copy_38 rfl (fun h38 => ?_) (fun h38 => RR.pc (b := 41) rfl ?_)
      · refine r_ldc hX dX7_copy_49 kc_X7_212 (RR.pc (b := 51) rfl ?_)
        exact r_iret hX hZ dX7_copy_51 ⟨_, rfl, ⟨same.rf, fun z => z.elim (fun e => (ns hia e).elim) (fun e => (ns hib e).elim), fun a' b' f1 f2 => by have g1 := se hia f1; subst g1; have g2 := se hib f2; subst g2; exact ⟨fun _ => ⟨rfl, rfl⟩, fun z => absurd (by first | exact Or.inl ((hS.miss ha).mpr h38) | exact Or.inr ((hS.miss hb).mpr h46)) z⟩⟩⟩
      · refine r_aload hX dX7_copy_41 rfl ⟨_, rfl⟩ (RR.pc (b := 43) rfl ?_)
        refine r_callVie hX dX7_copy_43 ml_X7_209 cd_X1_isMissing iv_X1_isMissing (c_X1_isMissing lb) (by decide) (by first | rfl | assumption) rfl rfl rfl rfl (Nat.le_of_ble_eq_true rfl) (RR.pc (b := 46) rfl ?_)
        refine r_if_eq_b (tgt := 52) hX dX7_copy_46 rfl (fun h46 => ?_) (fun h46 => RR.pc (b := 49) rfl ?_)
        · have hnm : ¬ (shC σ a 24 < 0 ∨ shC σ b 24 < 0) := fun q => q.elim (fun y => h38 ((hS.miss ha).mp y)) (fun y => h46 ((hS.miss hb).mp y))
          refine r_aload hX dX7_copy_52 rfl ⟨_, rfl⟩ (RR.pc (b := 54) rfl ?_)
          refine r_geti hX dX7_copy_54 fl_X7_261 (by first | rfl | assumption) rfl (RR.pc (b := 57) rfl ?_)
          refine r_aload hX dX7_copy_57 rfl ⟨_, rfl⟩ (RR.pc (b := 59) rfl ?_)
          refine r_geti hX dX7_copy_59 fl_X7_261 (by first | rfl | assumption) rfl (RR.pc (b := 62) rfl ?_)
          refine r_icmp_eq (tgt := 68) hX dX7_copy_62 rfl (fun h62 => ?_) (fun h62 => RR.pc (b := 65) rfl ?_)
          · refine r_aload hX dX7_copy_68 rfl ⟨_, rfl⟩ (RR.pc (b := 70) rfl ?_)
            refine r_iload_n (i := 0) hX dX7_copy_70 rfl (RR.pc (b := 71) rfl ?_)
            refine r_iload hX dX7_copy_71 rfl (RR.pc (b := 73) rfl ?_)
            refine r_callVie hX dX7_copy_73 ml_X7_277 cd_X1_hasRow iv_X1_hasRow (c_X1_hasRow la hz1 q1) (by decide) (by first | rfl | assumption) rfl rfl rfl rfl (Nat.le_of_ble_eq_true rfl) (RR.pc (b := 76) rfl ?_)
            refine r_if_eq_b (tgt := 91) hX dX7_copy_76 rfl (fun h76 => ?_) (fun h76 => RR.pc (b := 79) rfl ?_)
            · have hno : ¬ copyOK z1 z2 place at_ many := by
                rintro ⟨c1, c2, c3, c4, c5⟩
                first | exact h76 ⟨c3, c1, c4⟩ | exact h88 ⟨c3, c2, c5⟩
              refine r_ldcw hX dX7_copy_91 kc_X7_260 (RR.pc (b := 94) rfl ?_)
              exact r_iret hX hZ dX7_copy_94 ⟨_, rfl, ⟨same.rf, fun z => z.elim (fun e => (ns hia e).elim) (fun e => (ns hib e).elim), fun a' b' f1 f2 => by have g1 := se hia f1; subst g1; have g2 := se hib f2; subst g2; exact ⟨fun z => absurd z hnm, fun _ => ⟨fun z => absurd h62 z, fun _ => ⟨fun _ => ⟨rfl, rfl⟩, fun z => absurd (by rw [q1, q2, nI_clamp (by omega), nI_clamp (by omega)] at z; exact z) hno⟩⟩⟩⟩⟩
            · refine r_aload hX dX7_copy_79 rfl ⟨_, rfl⟩ (RR.pc (b := 81) rfl ?_)
              refine r_iload hX dX7_copy_81 rfl (RR.pc (b := 83) rfl ?_)
              refine r_iload hX dX7_copy_83 rfl (RR.pc (b := 85) rfl ?_)
              refine r_callVie hX dX7_copy_85 ml_X7_277 cd_X1_hasRow iv_X1_hasRow (c_X1_hasRow lb hz2 q2) (by decide) (by first | rfl | assumption) rfl rfl rfl rfl (Nat.le_of_ble_eq_true rfl) (RR.pc (b := 88) rfl ?_)
              refine r_if_ne_b (tgt := 95) hX dX7_copy_88 rfl (fun h88 => ?_) (fun h88 => RR.pc (b := 91) rfl ?_)
              · exact RR.cut (go a b z1 z2 ha hb hz1 hz2 rfl rfl q1 q2 hnm h62 ⟨h76.2.1, h88.2.1, h76.1, h76.2.2, h88.2.2⟩) (List.forall_mem_cons.mpr ⟨rfl, List.forall_mem_cons.mpr ⟨rfl, List.forall_mem_cons.mpr ⟨rfl, List.forall_mem_cons.mpr ⟨rfl, List.forall_mem_cons.mpr ⟨rfl, List.forall_mem_cons.mpr ⟨rfl, fun _ h => absurd h List.not_mem_nil⟩⟩⟩⟩⟩⟩)
              · have hno : ¬ copyOK z1 z2 place at_ many := by
                  rintro ⟨c1, c2, c3, c4, c5⟩
                  first | exact h76 ⟨c3, c1, c4⟩ | exact h88 ⟨c3, c2, c5⟩
                refine r_ldcw hX dX7_copy_91 kc_X7_260 (RR.pc (b := 94) rfl ?_)
                exact r_iret hX hZ dX7_copy_94 ⟨_, rfl, ⟨same.rf, fun z => z.elim (fun e => (ns hia e).elim) (fun e => (ns hib e).elim), fun a' b' f1 f2 => by have g1 := se hia f1; subst g1; have g2 := se hib f2; subst g2; exact ⟨fun z => absurd z hnm, fun _ => ⟨fun z => absurd h62 z, fun _ => ⟨fun _ => ⟨rfl, rfl⟩, fun z => absurd (by rw [q1, q2, nI_clamp (by omega), nI_clamp (by omega)] at z; exact z) hno⟩⟩⟩⟩⟩
          · refine r_ldc hX dX7_copy_65 kc_X7_123 (RR.pc (b := 67) rfl ?_)
            exact r_iret hX hZ dX7_copy_67 ⟨_, rfl, ⟨same.rf, fun z => z.elim (fun e => (ns hia e).elim) (fun e => (ns hib e).elim), fun a' b' f1 f2 => by have g1 := se hia f1; subst g1; have g2 := se hib f2; subst g2; exact ⟨fun z => absurd z hnm, fun _ => ⟨fun _ => ⟨rfl, rfl⟩, fun z => absurd z h62⟩⟩⟩⟩
        · refine r_ldc hX dX7_copy_49 kc_X7_212 (RR.pc (b := 51) rfl ?_)
          exact r_iret hX hZ dX7_copy_51 ⟨_, rfl, ⟨same.rf, fun z => z.elim (fun e => (ns hia e).elim) (fun e => (ns hib e).elim), fun a' b' f1 f2 => by have g1 := se hia f1; subst g1; have g2 := se hib f2; subst g2; exact ⟨fun _ => ⟨rfl, rfl⟩, fun z => absurd (by first | exact Or.inl ((hS.miss ha).mpr h38) | exact Or.inr ((hS.miss hb).mpr h46)) z⟩⟩⟩
    · refine r_ldc hX dX7_copy_14 kc_X7_75 (RR.pc (b := 16) rfl ?_)
      exact r_iret hX hZ dX7_copy_16 ⟨_, rfl, ⟨same.rf, fun _ => ⟨rfl, rfl⟩, fun a' b' f1 f2 => by obtain ⟨g1, g2⟩ := ix_lt f1 (by omega); obtain ⟨g3, g4⟩ := ix_lt f2 (by omega); first | exact absurd ⟨by rw [g4, nI_toInt (by omega)]; omega, by rw [g4, nI_toInt (by omega)]; omega⟩ h11 | exact absurd ⟨by rw [g2, nI_toInt (by omega)]; omega, by rw [g2, nI_toInt (by omega)]; omega⟩ h4⟩⟩
