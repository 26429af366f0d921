/-! the class: slots -/
theorem laySl {i : Nat} (hi : i < 5) : lay (88 + 4 * i) = lO 2 [fR (89 + 4 * i), fR (90 + 4 * i), fI 8 (64 * i), fI 8 (64 * i + 1)] ∧ lay (90 + 4 * i) = lyS (91 + 4 * i) 8 (64 * i + 10) ∧ lay (91 + 4 * i) = lI 24 8 (64 * i + 10) := by
  match i, hi with
  | 0, _ => exact ⟨(rfl : lay 88 = lO 2 [fR 89, fR 90, fI 8 0, fI 8 1]), (rfl : lay 90 = lyS 91 8 10), (rfl : lay 91 = lI 24 8 10)⟩
  | 1, _ => exact ⟨(rfl : lay 92 = lO 2 [fR 93, fR 94, fI 8 64, fI 8 65]), (rfl : lay 94 = lyS 95 8 74), (rfl : lay 95 = lI 24 8 74)⟩
  | 2, _ => exact ⟨(rfl : lay 96 = lO 2 [fR 97, fR 98, fI 8 128, fI 8 129]), (rfl : lay 98 = lyS 99 8 138), (rfl : lay 99 = lI 24 8 138)⟩
  | 3, _ => exact ⟨(rfl : lay 100 = lO 2 [fR 101, fR 102, fI 8 192, fI 8 193]), (rfl : lay 102 = lyS 103 8 202), (rfl : lay 103 = lI 24 8 202)⟩
  | 4, _ => exact ⟨(rfl : lay 104 = lO 2 [fR 105, fR 106, fI 8 256, fI 8 257]), (rfl : lay 106 = lyS 107 8 266), (rfl : lay 107 = lI 24 8 266)⟩
set_option maxHeartbeats 4000000 in
set_option maxRecDepth 100000 in
theorem c_X1_become {G : GM} {σ : SG} {k1 k2 q1 q2 r1 r2 o1 o2 : Nat} (h1 : lay k1 = lyS q1 r1 o1) (h2 : lay k2 = lyS q2 r2 o2) (g1 : lay q1 = lI 24 r1 o1) (g2 : lay q2 = lI 24 r2 o2) (hr : r1 ≠ r2) : CU G yX1_become cX1_become 2 none 1 [rf G k1, rf G k2] σ (fun s => s = sr σ r1 (cpR (σ r2) (upd (upd (σ r1) (o1 + 24) (σ r2 (o2 + 24))) (o1 + 25) (σ r2 (o2 + 25))) o2 o1 24)) := by
  refine Con.of cd_X1_become (Nat.le_of_ble_eq_true rfl) ?_
  intro X hX hZ
  have hX : Fx X G RX1 cX1_become 2 1 := hX
  show RR X G 2 0 (ll [(0, rf G k1), (1, rf G k2)]) [] σ
  refine r_aload_n hX dX1_become_0 rfl ⟨_, rfl⟩ (RR.pc (b := 1) rfl ?_)
  refine r_aload_n hX dX1_become_1 rfl ⟨_, rfl⟩ (RR.pc (b := 2) rfl ?_)
  refine r_geti hX dX1_become_2 fl_X1_15 (by first | rfl | assumption) rfl (RR.pc (b := 5) rfl ?_)
  refine r_puti hX dX1_become_5 fl_X1_15 (by first | rfl | assumption) rfl ft_1_1 (RR.pc (b := 8) rfl ?_)
  refine r_aload_n hX dX1_become_8 rfl ⟨_, rfl⟩ (RR.pc (b := 9) rfl ?_)
  refine r_aload_n hX dX1_become_9 rfl ⟨_, rfl⟩ (RR.pc (b := 10) rfl ?_)
  refine r_geti hX dX1_become_10 fl_X1_19 (by first | rfl | assumption) rfl (RR.pc (b := 13) rfl ?_)
  refine r_puti hX dX1_become_13 fl_X1_19 (by first | rfl | assumption) rfl ft_1_2 (RR.pc (b := 16) rfl ?_)
  refine r_aload_n hX dX1_become_16 rfl ⟨_, rfl⟩ (RR.pc (b := 17) rfl ?_)
  refine r_getr hX dX1_become_17 fl_X1_9 (by first | rfl | assumption) rfl (RR.pc (b := 20) rfl ?_)
  refine r_iconst (v := 0) hX dX1_become_20 (by decide) (RR.pc (b := 21) rfl ?_)
  refine r_aload_n hX dX1_become_21 rfl ⟨_, rfl⟩ (RR.pc (b := 22) rfl ?_)
  refine r_getr hX dX1_become_22 fl_X1_9 (by first | rfl | assumption) rfl (RR.pc (b := 25) rfl ?_)
  refine r_iconst (v := 0) hX dX1_become_25 (by decide) (RR.pc (b := 26) rfl ?_)
  refine r_bipush (v := 24) hX dX1_become_26 (by decide) (RR.pc (b := 28) rfl ?_)
  refine r_copy hX (by decide) dX1_become_28 ml_X1_28 g2 g1 (by decide) (by decide) (by decide) (by decide) (by decide) (by decide) (Nat.le_of_ble_eq_true rfl) rfl rfl rfl (RR.pc (b := 31) rfl ?_)
  exact r_vret hX hZ dX1_become_31 ⟨rfl, by simp only [su, sr_eq, sr_sr, sr_ne (Ne.symm hr), Nat.add_zero]⟩
set_option maxHeartbeats 4000000 in
set_option maxRecDepth 100000 in
theorem c_X7_ask {G : GM} {σ : SG} {slot kind : Int32} (hK : ∀ i, i < 5 → ∃ c : Nat, c ≤ 5 ∧ σ 8 (64 * i + 2) = nI c) : CI G yX7_ask cX7_ask 4 (some .int) 3 [rf G 0, .int slot, .int kind] σ (fun r s => s = σ ∧ (ix slot 5 = none → r = vBAD) ∧ (¬ (0 ≤ kind.toInt ∧ kind.toInt ≤ 5) → r = vBAD) ∧ (∀ i, ix slot 5 = some i → (0 ≤ kind.toInt ∧ kind.toInt ≤ 5) → r = if σ 8 (64 * i) = 0 then vNOTH else if σ 8 (64 * i) = 1 ∧ (σ 8 (64 * i + 2) = kind ∨ kind = 0 ∨ (kind = 1 ∧ σ 8 (64 * i + 2) = 3) ∨ (kind = 2 ∧ σ 8 (64 * i + 2) = 4)) then woK (σ 8 (64 * i + 2)) (σ 8 (64 * i + 3)) else vKIND)) := by
  refine Con.of cd_X7_ask (Nat.le_of_ble_eq_true rfl) ?_
  intro X hX hZ
  have hX : Fx X G RX7 cX7_ask 4 3 := hX
  show RR X G 4 0 (ll [(0, rf G 0), (1, .int slot), (2, .int kind)]) [] σ
  refine r_iload_n (i := 0) hX dX7_ask_0 rfl (RR.pc (b := 1) rfl ?_)
  refine r_callSie hX dX7_ask_1 ml_X7_286 cd_X7_isSlot st_X7_isSlot c_X7_isSlot (by decide) rfl rfl (Nat.le_of_ble_eq_true rfl) (RR.pc (b := 4) rfl ?_)
  refine r_if_eq_b (tgt := 14) hX dX7_ask_4 rfl (fun h4 => ?_) (fun h4 => RR.pc (b := 7) rfl ?_)
  · refine r_ldc hX dX7_ask_14 kc_X7_75 (RR.pc (b := 16) rfl ?_)
    exact r_iret hX hZ dX7_ask_16 ⟨_, rfl, ⟨rfl, fun _ => rfl, fun _ => rfl, fun i e h => by first | exact absurd h h11 | (obtain ⟨q1, rfl⟩ := ix_lt e (by omega); exact absurd ⟨by rw [nI_toInt (by omega)]; omega, by rw [nI_toInt (by omega)]; omega⟩ h4)⟩⟩
  · obtain ⟨a, ha, rfl⟩ := ix_of (n := 5) (k := slot) ⟨by omega, by omega⟩ (by omega)
    have hix := ix_some (n := 5) ha (by omega)
    obtain ⟨l0, l1, l2⟩ := laySl ha
    have lm := layS ha
    obtain ⟨c, hc, ec⟩ := hK a ha
    refine r_iload_n (i := 0) hX dX7_ask_7 rfl (RR.pc (b := 8) rfl ?_)
    refine r_callSie hX dX7_ask_8 ml_X7_67 cd_X7_isKind st_X7_isKind c_X7_isKind (by decide) rfl rfl (Nat.le_of_ble_eq_true rfl) (RR.pc (b := 11) rfl ?_)
    refine r_if_ne_b (tgt := 17) hX dX7_ask_11 rfl (fun h11 => ?_) (fun h11 => RR.pc (b := 14) rfl ?_)
    · refine r_aload_n hX dX7_ask_17 rfl ⟨_, rfl⟩ (RR.pc (b := 18) rfl ?_)
      refine r_getr hX dX7_ask_18 fl_X7_58 (by first | rfl | assumption) rfl (RR.pc (b := 21) rfl ?_)
      refine r_iload_n (i := 0) hX dX7_ask_21 rfl (RR.pc (b := 22) rfl ?_)
      refine r_aald hX dX7_ask_22 (by first | rfl | assumption) ⟨_, rfl⟩ rfl (by omega) (by decide) (RR.pc (b := 23) rfl ?_)
      refine r_astore_n hX dX7_ask_23 (by decide) ⟨_, rfl⟩ (RR.pc (b := 24) rfl ?_)
      refine r_aload_n hX dX7_ask_24 rfl ⟨_, rfl⟩ (RR.pc (b := 25) rfl ?_)
      refine r_geti hX dX7_ask_25 fl_X7_289 (by first | rfl | assumption) rfl (RR.pc (b := 28) rfl ?_)
      refine r_if_ne (tgt := 34) hX dX7_ask_28 rfl (fun h28 => ?_) (fun h28 => RR.pc (b := 31) rfl ?_)
      · refine r_aload_n hX dX7_ask_34 rfl ⟨_, rfl⟩ (RR.pc (b := 35) rfl ?_)
        refine r_geti hX dX7_ask_35 fl_X7_289 (by first | rfl | assumption) rfl (RR.pc (b := 38) rfl ?_)
        refine r_iconst (v := 1) hX dX7_ask_38 (by decide) (RR.pc (b := 39) rfl ?_)
        refine r_icmp_ne (tgt := 53) hX dX7_ask_39 rfl (fun h39 => ?_) (fun h39 => RR.pc (b := 42) rfl ?_)
        · (try rw [← ec] at h50)
          refine r_ldc hX dX7_ask_53 kc_X7_123 (RR.pc (b := 55) rfl ?_)
          exact r_iret hX hZ dX7_ask_55 ⟨_, rfl, ⟨rfl, fun e => (ns hix e).elim, fun h => absurd h11 h, fun i e _ => by have q := se hix e; subst q; rw [if_neg h28, if_neg (fun q => by first | exact h39 q.1 | exact h50 q.2)]⟩⟩
        · refine r_aload_n hX dX7_ask_42 rfl ⟨_, rfl⟩ (RR.pc (b := 43) rfl ?_)
          refine r_getr hX dX7_ask_43 fl_X7_292 (by first | rfl | assumption) rfl (RR.pc (b := 46) rfl ?_)
          refine r_iload_n (i := 0) hX dX7_ask_46 rfl (RR.pc (b := 47) rfl ?_)
          refine r_callVie hX dX7_ask_47 ml_X7_120 cd_X0_isOf iv_X0_isOf (c_X0_isOf lm hc ec) (by decide) (by first | rfl | assumption) rfl rfl rfl rfl (Nat.le_of_ble_eq_true rfl) (RR.pc (b := 50) rfl ?_)
          refine r_if_ne_b (tgt := 56) hX dX7_ask_50 rfl (fun h50 => ?_) (fun h50 => RR.pc (b := 53) rfl ?_)
          · rw [← ec] at h50
            refine r_aload_n hX dX7_ask_56 rfl ⟨_, rfl⟩ (RR.pc (b := 57) rfl ?_)
            refine r_getr hX dX7_ask_57 fl_X7_292 (by first | rfl | assumption) rfl (RR.pc (b := 60) rfl ?_)
            refine r_callVie hX dX7_ask_60 ml_X7_117 cd_X0_worth iv_X0_worth (c_X0_worth lm) (by decide) (by first | rfl | assumption) rfl rfl rfl rfl (Nat.le_of_ble_eq_true rfl) (RR.pc (b := 63) rfl ?_)
            exact r_iret hX hZ dX7_ask_63 ⟨_, rfl, ⟨rfl, fun e => (ns hix e).elim, fun h => absurd h11 h, fun i e _ => by have q := se hix e; subst q; rw [if_neg h28, if_pos ⟨h39, h50⟩]⟩⟩
          · (try rw [← ec] at h50)
            refine r_ldc hX dX7_ask_53 kc_X7_123 (RR.pc (b := 55) rfl ?_)
            exact r_iret hX hZ dX7_ask_55 ⟨_, rfl, ⟨rfl, fun e => (ns hix e).elim, fun h => absurd h11 h, fun i e _ => by have q := se hix e; subst q; rw [if_neg h28, if_neg (fun q => by first | exact h39 q.1 | exact h50 q.2)]⟩⟩
      · refine r_ldc hX dX7_ask_31 kc_X7_212 (RR.pc (b := 33) rfl ?_)
        exact r_iret hX hZ dX7_ask_33 ⟨_, rfl, ⟨rfl, fun e => (ns hix e).elim, fun h => absurd h11 h, fun i e _ => by have q := se hix e; subst q; rw [if_pos h28]⟩⟩
    · refine r_ldc hX dX7_ask_14 kc_X7_75 (RR.pc (b := 16) rfl ?_)
      exact r_iret hX hZ dX7_ask_16 ⟨_, rfl, ⟨rfl, fun _ => rfl, fun _ => rfl, fun i e h => by first | exact absurd h h11 | (obtain ⟨q1, rfl⟩ := ix_lt e (by omega); exact absurd ⟨by rw [nI_toInt (by omega)]; omega, by rw [nI_toInt (by omega)]; omega⟩ h4)⟩⟩
set_option maxHeartbeats 4000000 in
set_option maxRecDepth 100000 in
theorem c_X7_item {G : GM} {σ : SG} {slot place : Int32} (hz : ∀ i, i < 5 → ∃ z : Nat, z ≤ 24 ∧ σ 8 (64 * i + 35) = nI z) : CI G yX7_item cX7_item 4 (some .int) 3 [rf G 0, .int slot, .int place] σ (fun r s => s = σ ∧ (ix slot 5 = none → r = vBAD) ∧ (∀ i, ix slot 5 = some i → r = if σ 8 (64 * i) = 2 then (match ix place (σ 8 (64 * i + 35)).toNatClampNeg with | none => vINDEX | some p => if σ 8 (64 * i + 10 + p) = vNONE then vKIND else σ 8 (64 * i + 10 + p)) else if σ 8 (64 * i) = 0 then vNOTH else vKIND)) := by
  refine Con.of cd_X7_item (Nat.le_of_ble_eq_true rfl) ?_
  intro X hX hZ
  have hX : Fx X G RX7 cX7_item 4 3 := hX
  show RR X G 4 0 (ll [(0, rf G 0), (1, .int slot), (2, .int place)]) [] σ
  refine r_iload_n (i := 0) hX dX7_item_0 rfl (RR.pc (b := 1) rfl ?_)
  refine r_callSie hX dX7_item_1 ml_X7_286 cd_X7_isSlot st_X7_isSlot c_X7_isSlot (by decide) rfl rfl (Nat.le_of_ble_eq_true rfl) (RR.pc (b := 4) rfl ?_)
  refine r_if_ne_b (tgt := 10) hX dX7_item_4 rfl (fun h4 => ?_) (fun h4 => RR.pc (b := 7) rfl ?_)
  · obtain ⟨a, ha, rfl⟩ := ix_of (n := 5) (k := slot) ⟨by omega, by omega⟩ (by omega)
    have hix := ix_some (n := 5) ha (by omega)
    obtain ⟨z, hz1, hz2⟩ := hz a ha
    obtain ⟨l0, l1, l2⟩ := laySl ha
    refine r_aload_n hX dX7_item_10 rfl ⟨_, rfl⟩ (RR.pc (b := 11) rfl ?_)
    refine r_getr hX dX7_item_11 fl_X7_58 (by first | rfl | assumption) rfl (RR.pc (b := 14) rfl ?_)
    refine r_iload_n (i := 0) hX dX7_item_14 rfl (RR.pc (b := 15) rfl ?_)
    refine r_aald hX dX7_item_15 (by first | rfl | assumption) ⟨_, rfl⟩ rfl (by omega) (by decide) (RR.pc (b := 16) rfl ?_)
    refine r_astore_n hX dX7_item_16 (by decide) ⟨_, rfl⟩ (RR.pc (b := 17) rfl ?_)
    refine r_aload_n hX dX7_item_17 rfl ⟨_, rfl⟩ (RR.pc (b := 18) rfl ?_)
    refine r_geti hX dX7_item_18 fl_X7_289 (by first | rfl | assumption) rfl (RR.pc (b := 21) rfl ?_)
    refine r_if_ne (tgt := 27) hX dX7_item_21 rfl (fun h21 => ?_) (fun h21 => RR.pc (b := 24) rfl ?_)
    · refine r_aload_n hX dX7_item_27 rfl ⟨_, rfl⟩ (RR.pc (b := 28) rfl ?_)
      refine r_geti hX dX7_item_28 fl_X7_289 (by first | rfl | assumption) rfl (RR.pc (b := 31) rfl ?_)
      refine r_iconst (v := 2) hX dX7_item_31 (by decide) (RR.pc (b := 32) rfl ?_)
      refine r_icmp_eq (tgt := 38) hX dX7_item_32 rfl (fun h32 => ?_) (fun h32 => RR.pc (b := 35) rfl ?_)
      · refine r_aload_n hX dX7_item_38 rfl ⟨_, rfl⟩ (RR.pc (b := 39) rfl ?_)
        refine r_getr hX dX7_item_39 fl_X7_299 (by first | rfl | assumption) rfl (RR.pc (b := 42) rfl ?_)
        refine r_iload_n (i := 0) hX dX7_item_42 rfl (RR.pc (b := 43) rfl ?_)
        refine r_callVie hX dX7_item_43 ml_X7_257 cd_X1_has iv_X1_has (c_X1_has (z := z) l1 hz1 hz2) (by decide) (by first | rfl | assumption) rfl rfl rfl rfl (Nat.le_of_ble_eq_true rfl) (RR.pc (b := 46) rfl ?_)
        refine r_if_ne_b (tgt := 53) hX dX7_item_46 rfl (fun h46 => ?_) (fun h46 => RR.pc (b := 49) rfl ?_)
        · obtain ⟨p, hp, rfl⟩ := ix_of (n := z) (k := place) h46 (by omega)
          refine r_aload_n hX dX7_item_53 rfl ⟨_, rfl⟩ (RR.pc (b := 54) rfl ?_)
          refine r_getr hX dX7_item_54 fl_X7_299 (by first | rfl | assumption) rfl (RR.pc (b := 57) rfl ?_)
          refine r_iload_n (i := 0) hX dX7_item_57 rfl (RR.pc (b := 58) rfl ?_)
          refine r_callVie hX dX7_item_58 ml_X7_269 cd_X1_hasNumber iv_X1_hasNumber (c_X1_hasNumber (z := z) (j := p) l1 l2 hz1 hz2 (by omega)) (by decide) (by first | rfl | assumption) rfl rfl rfl rfl (Nat.le_of_ble_eq_true rfl) (RR.pc (b := 61) rfl ?_)
          refine r_if_eq_b (tgt := 76) hX dX7_item_61 rfl (fun h61 => ?_) (fun h61 => RR.pc (b := 64) rfl ?_)
          · refine r_ldc hX dX7_item_76 kc_X7_123 (RR.pc (b := 78) rfl ?_)
            exact r_iret hX hZ dX7_item_78 ⟨_, rfl, ⟨rfl, fun e => (ns hix e).elim, fun i e => by have q := se hix e; subst q; rw [if_pos h32, hz2, nI_clamp (by omega), ix_some hp (by omega)]; dsimp only; first | rw [if_neg h61.2] | rw [if_pos (Decidable.byContradiction (fun w => h61 ⟨hp, w⟩))]⟩⟩
          · refine r_aload_n hX dX7_item_64 rfl ⟨_, rfl⟩ (RR.pc (b := 65) rfl ?_)
            refine r_getr hX dX7_item_65 fl_X7_299 (by first | rfl | assumption) rfl (RR.pc (b := 68) rfl ?_)
            refine r_getr hX dX7_item_68 fl_X7_266 (by first | rfl | assumption) rfl (RR.pc (b := 71) rfl ?_)
            refine r_iload_n (i := 0) hX dX7_item_71 rfl (RR.pc (b := 72) rfl ?_)
            refine r_iald hX dX7_item_72 (by first | rfl | assumption) rfl (by omega) (by first | decide | omega) (by first | exact Nat.zero_add _ | rfl) (RR.pc (b := 73) rfl ?_)
            refine r_goto (tgt := 78) hX dX7_item_73 rfl ?_
            exact r_iret hX hZ dX7_item_78 ⟨_, rfl, ⟨rfl, fun e => (ns hix e).elim, fun i e => by have q := se hix e; subst q; rw [if_pos h32, hz2, nI_clamp (by omega), ix_some hp (by omega)]; dsimp only; first | rw [if_neg h61.2] | rw [if_pos (Decidable.byContradiction (fun w => h61 ⟨hp, w⟩))]⟩⟩
        · refine r_ldcw hX dX7_item_49 kc_X7_260 (RR.pc (b := 52) rfl ?_)
          exact r_iret hX hZ dX7_item_52 ⟨_, rfl, ⟨rfl, fun e => (ns hix e).elim, fun i e => by have q := se hix e; subst q; rw [if_pos h32, hz2, nI_clamp (by omega), ix_none h46]⟩⟩
      · refine r_ldc hX dX7_item_35 kc_X7_123 (RR.pc (b := 37) rfl ?_)
        exact r_iret hX hZ dX7_item_37 ⟨_, rfl, ⟨rfl, fun e => (ns hix e).elim, fun i e => by have q := se hix e; subst q; rw [if_neg h32, if_neg h21]⟩⟩
    · refine r_ldc hX dX7_item_24 kc_X7_212 (RR.pc (b := 26) rfl ?_)
      exact r_iret hX hZ dX7_item_26 ⟨_, rfl, ⟨rfl, fun e => (ns hix e).elim, fun i e => by have q := se hix e; subst q; rw [if_neg (by rw [h21]; decide), if_pos h21]⟩⟩
  · refine r_ldc hX dX7_item_7 kc_X7_75 (RR.pc (b := 9) rfl ?_)
    exact r_iret hX hZ dX7_item_9 ⟨_, rfl, ⟨rfl, fun _ => rfl, fun i e => by obtain ⟨q1, rfl⟩ := ix_lt e (by omega); exact absurd ⟨by rw [nI_toInt (by omega)]; omega, by rw [nI_toInt (by omega)]; omega⟩ h4⟩⟩
set_option maxHeartbeats 4000000 in
set_option maxRecDepth 100000 in
theorem c_X7_rest {G : GM} {σ : SG} {slot n : Int32} : CI G yX7_rest cX7_rest 4 (some .int) 2 [rf G 0, .int slot, .int n] σ (fun r s => s = σ ∧ (ix slot 5 = none → r = vBAD) ∧ (∀ i, ix slot 5 = some i → r = if σ 8 (64 * i) = 3 then (if n = 0 then vNO else σ 8 (64 * i + 1) - σ 8 (64 * i + 1) / n * n) else if σ 8 (64 * i) = 0 then vNOTH else vKIND)) := by
  refine Con.of cd_X7_rest (Nat.le_of_ble_eq_true rfl) ?_
  intro X hX hZ
  have hX : Fx X G RX7 cX7_rest 4 2 := hX
  show RR X G 4 0 (ll [(0, rf G 0), (1, .int slot), (2, .int n)]) [] σ
  refine r_iload_n (i := 0) hX dX7_rest_0 rfl (RR.pc (b := 1) rfl ?_)
  refine r_callSie hX dX7_rest_1 ml_X7_286 cd_X7_isSlot st_X7_isSlot c_X7_isSlot (by decide) rfl rfl (Nat.le_of_ble_eq_true rfl) (RR.pc (b := 4) rfl ?_)
  refine r_if_ne_b (tgt := 10) hX dX7_rest_4 rfl (fun h4 => ?_) (fun h4 => RR.pc (b := 7) rfl ?_)
  · obtain ⟨a, ha, rfl⟩ := ix_of (n := 5) (k := slot) ⟨by omega, by omega⟩ (by omega)
    have hix := ix_some (n := 5) ha (by omega)
    obtain ⟨l0, l1, l2⟩ := laySl ha
    refine r_aload_n hX dX7_rest_10 rfl ⟨_, rfl⟩ (RR.pc (b := 11) rfl ?_)
    refine r_getr hX dX7_rest_11 fl_X7_58 (by first | rfl | assumption) rfl (RR.pc (b := 14) rfl ?_)
    refine r_iload_n (i := 0) hX dX7_rest_14 rfl (RR.pc (b := 15) rfl ?_)
    refine r_aald hX dX7_rest_15 (by first | rfl | assumption) ⟨_, rfl⟩ rfl (by omega) (by decide) (RR.pc (b := 16) rfl ?_)
    refine r_astore_n hX dX7_rest_16 (by decide) ⟨_, rfl⟩ (RR.pc (b := 17) rfl ?_)
    refine r_aload_n hX dX7_rest_17 rfl ⟨_, rfl⟩ (RR.pc (b := 18) rfl ?_)
    refine r_geti hX dX7_rest_18 fl_X7_289 (by first | rfl | assumption) rfl (RR.pc (b := 21) rfl ?_)
    refine r_if_ne (tgt := 27) hX dX7_rest_21 rfl (fun h21 => ?_) (fun h21 => RR.pc (b := 24) rfl ?_)
    · refine r_aload_n hX dX7_rest_27 rfl ⟨_, rfl⟩ (RR.pc (b := 28) rfl ?_)
      refine r_geti hX dX7_rest_28 fl_X7_289 (by first | rfl | assumption) rfl (RR.pc (b := 31) rfl ?_)
      refine r_iconst (v := 3) hX dX7_rest_31 (by decide) (RR.pc (b := 32) rfl ?_)
      refine r_icmp_eq (tgt := 38) hX dX7_rest_32 rfl (fun h32 => ?_) (fun h32 => RR.pc (b := 35) rfl ?_)
      · refine r_iload_n (i := 0) hX dX7_rest_38 rfl (RR.pc (b := 39) rfl ?_)
        refine r_if_ne (tgt := 48) hX dX7_rest_39 rfl (fun h39 => ?_) (fun h39 => RR.pc (b := 42) rfl ?_)
        · refine r_aload_n hX dX7_rest_48 rfl ⟨_, rfl⟩ (RR.pc (b := 49) rfl ?_)
          refine r_geti hX dX7_rest_49 fl_X7_306 (by first | rfl | assumption) rfl (RR.pc (b := 52) rfl ?_)
          refine r_iload_n (i := 0) hX dX7_rest_52 rfl (RR.pc (b := 53) rfl ?_)
          refine r_irem hX dX7_rest_53 h39 (RR.pc (b := 54) rfl ?_)
          exact r_iret hX hZ dX7_rest_54 ⟨_, rfl, ⟨rfl, fun e => (ns hix e).elim, fun i e => by have q := se hix e; subst q; rw [if_pos h32]; first | rw [if_pos h39] | rw [if_neg h39]⟩⟩
        · refine r_ldcw hX dX7_rest_42 kc_X7_309 (RR.pc (b := 45) rfl ?_)
          refine r_goto (tgt := 54) hX dX7_rest_45 rfl ?_
          exact r_iret hX hZ dX7_rest_54 ⟨_, rfl, ⟨rfl, fun e => (ns hix e).elim, fun i e => by have q := se hix e; subst q; rw [if_pos h32]; first | rw [if_pos h39] | rw [if_neg h39]⟩⟩
      · refine r_ldc hX dX7_rest_35 kc_X7_123 (RR.pc (b := 37) rfl ?_)
        exact r_iret hX hZ dX7_rest_37 ⟨_, rfl, ⟨rfl, fun e => (ns hix e).elim, fun i e => by have q := se hix e; subst q; rw [if_neg h32, if_neg h21]⟩⟩
    · refine r_ldc hX dX7_rest_24 kc_X7_212 (RR.pc (b := 26) rfl ?_)
      exact r_iret hX hZ dX7_rest_26 ⟨_, rfl, ⟨rfl, fun e => (ns hix e).elim, fun i e => by have q := se hix e; subst q; rw [if_neg (by rw [h21]; decide), if_pos h21]⟩⟩
  · refine r_ldc hX dX7_rest_7 kc_X7_75 (RR.pc (b := 9) rfl ?_)
    exact r_iret hX hZ dX7_rest_9 ⟨_, rfl, ⟨rfl, fun _ => rfl, fun i e => by obtain ⟨q1, rfl⟩ := ix_lt e (by omega); exact absurd ⟨by rw [nI_toInt (by omega)]; omega, by rw [nI_toInt (by omega)]; omega⟩ h4⟩⟩
/-- what a slot's cells become -/
def layC (f w g : Nat → Int32) (i : Nat) (thing k : Int32) : Nat → Int32 :=
  if thing = 1 then upd (upd (upd (upd (upd (upd f (64 * i) thing) (64 * i + 2) (w (131 + 5 * k.toNatClampNeg))) (64 * i + 3) (w (131 + 5 * k.toNatClampNeg + 1))) (64 * i + 4) (w (131 + 5 * k.toNatClampNeg + 2))) (64 * i + 5) (w (131 + 5 * k.toNatClampNeg + 3))) (64 * i + 6) (w (131 + 5 * k.toNatClampNeg + 4))
  else if thing = 2 then cpR g (upd (upd (upd f (64 * i) thing) (64 * i + 34) (g (32 * k.toNatClampNeg + 24))) (64 * i + 35) (g (32 * k.toNatClampNeg + 25))) (32 * k.toNatClampNeg) (64 * i + 10) 24
  else if thing = 3 then upd (upd f (64 * i) thing) (64 * i + 1) k else upd f (64 * i) thing
set_option maxHeartbeats 4000000 in
set_option maxRecDepth 100000 in
theorem c_X7_lay {G : GM} {σ : SG} {n : Nat} {slot thing k : Int32} (hS : SO (shC σ)) (hN : σ 0 0 = nI n) (h8 : n ≤ 8) : CI G yX7_lay cX7_lay 6 (some .int) 2 [rf G 0, .int slot, .int thing, .int k] σ (fun r s => same [8] σ s ∧ ((ix slot 5 = none ∨ ¬ layG n thing k) → r = vBAD ∧ s = σ) ∧ (∀ i, ix slot 5 = some i → layG n thing k → ((thing = 2 ∧ shC σ k.toNatClampNeg 24 < 0) → r = vNOTH ∧ s = σ) ∧ (¬ (thing = 2 ∧ shC σ k.toNatClampNeg 24 < 0) → r = σ 8 (64 * i) ∧ s = sr σ 8 (layC (σ 8) (σ 0) (σ 7) i thing k)))) := by
  refine Con.of cd_X7_lay (Nat.le_of_ble_eq_true rfl) ?_
  intro X hX hZ
  have hX : Fx X G RX7 cX7_lay 6 2 := hX
  show RR X G 6 0 (ll [(0, rf G 0), (1, .int slot), (2, .int thing), (3, .int k)]) [] σ
  have go : ∀ i, i < 5 → slot = nI i → layG n thing k → ¬ (thing = 2 ∧ shC σ k.toNatClampNeg 24 < 0) → RR X G 6 67 (ll [(0, rf G 0), (1, .int slot), (2, .int thing), (3, .int k)]) [] σ := by
    intro i hi e hg hm
    subst e
    have hix := ix_some (n := 5) hi (by omega)
    obtain ⟨l0, l1, l2⟩ := laySl hi
    have lm := layS hi
    have fin : ∀ s : SG, s = sr σ 8 (layC (σ 8) (σ 0) (σ 7) i thing k) → RR X G 6 146 (ll [(5, .int (σ 8 (64 * i)))]) [] s := by
      intro s hs
      subst hs
      refine r_iload hX dX7_lay_146 rfl (RR.pc (b := 148) rfl ?_)
      exact r_iret hX hZ dX7_lay_148 ⟨_, rfl, ⟨same.rf.sr (by simp), fun z => z.elim (fun e => (ns hix e).elim) (fun e => absurd hg e), fun j e _ => by have q := se hix e; subst q; exact ⟨fun z => absurd z hm, fun _ => ⟨rfl, rfl⟩⟩⟩⟩
    by_cases c1 : thing = 1
    · have h : 0 ≤ k.toInt ∧ k.toInt < n := by
        rcases hg with e | e | ⟨_, h⟩ | ⟨e, _⟩
        · rw [c1] at e; exact absurd e (by decide)
        · rw [c1] at e; exact absurd e (by decide)
        · exact h
        · rw [c1] at e; exact absurd e (by decide)
      obtain ⟨a, ha, rfl⟩ := ix_of h (by omega)
      have lw := layM0 (i := a) (by omega)
      have hl1 : layC (σ 8) (σ 0) (σ 7) i thing (nI a) = upd (upd (upd (upd (upd (upd (σ 8) (64 * i) thing) (64 * i + 2) (σ 0 (131 + 5 * a))) (64 * i + 3) (σ 0 (131 + 5 * a + 1))) (64 * i + 4) (σ 0 (131 + 5 * a + 2))) (64 * i + 5) (σ 0 (131 + 5 * a + 3))) (64 * i + 6) (σ 0 (131 + 5 * a + 4)) := by
        unfold layC
        rw [if_pos c1, nI_clamp (by omega)]
      refine r_aload_n hX dX7_lay_67 rfl ⟨_, rfl⟩ (RR.pc (b := 68) rfl ?_)
      refine r_getr hX dX7_lay_68 fl_X7_58 (by first | rfl | assumption) rfl (RR.pc (b := 71) rfl ?_)
      refine r_iload_n (i := 0) hX dX7_lay_71 rfl (RR.pc (b := 72) rfl ?_)
      refine r_aald hX dX7_lay_72 (by first | rfl | assumption) ⟨_, rfl⟩ rfl (by omega) (by decide) (RR.pc (b := 73) rfl ?_)
      refine r_astore hX dX7_lay_73 (by decide) ⟨_, rfl⟩ (RR.pc (b := 75) rfl ?_)
      refine r_aload hX dX7_lay_75 rfl ⟨_, rfl⟩ (RR.pc (b := 77) rfl ?_)
      refine r_geti hX dX7_lay_77 fl_X7_289 (by first | rfl | assumption) rfl (RR.pc (b := 80) rfl ?_)
      refine r_istore hX dX7_lay_80 (by decide) (RR.pc (b := 82) rfl ?_)
      refine r_aload hX dX7_lay_82 rfl ⟨_, rfl⟩ (RR.pc (b := 84) rfl ?_)
      refine r_iload_n (i := 0) hX dX7_lay_84 rfl (RR.pc (b := 85) rfl ?_)
      refine r_puti hX dX7_lay_85 fl_X7_289 (by first | rfl | assumption) rfl ft_2_2 (RR.pc (b := 88) rfl ?_)
      refine r_iload_n (i := 0) hX dX7_lay_88 rfl (RR.pc (b := 89) rfl ?_)
      refine r_iconst (v := 1) hX dX7_lay_89 (by decide) (RR.pc (b := 90) rfl ?_)
      refine r_icmp_ne (tgt := 113) hX dX7_lay_90 rfl (fun h90 => absurd c1 h90) (fun h90 => RR.pc (b := 93) rfl ?_)
      refine r_aload hX dX7_lay_93 rfl ⟨_, rfl⟩ (RR.pc (b := 95) rfl ?_)
      refine r_getr hX dX7_lay_95 fl_X7_292 (by first | rfl | assumption) rfl (RR.pc (b := 98) rfl ?_)
      refine r_aload_n hX dX7_lay_98 rfl ⟨_, rfl⟩ (RR.pc (b := 99) rfl ?_)
      refine r_getr hX dX7_lay_99 fl_X7_39 (by first | rfl | assumption) rfl (RR.pc (b := 102) rfl ?_)
      refine r_getr hX dX7_lay_102 fl_X7_88 (by first | rfl | assumption) rfl (RR.pc (b := 105) rfl ?_)
      refine r_iload_n (i := 0) hX dX7_lay_105 rfl (RR.pc (b := 106) rfl ?_)
      refine r_aald hX dX7_lay_106 (by first | rfl | assumption) ⟨_, rfl⟩ rfl (by omega) (by decide) (RR.pc (b := 107) rfl ?_)
      refine r_callVve hX dX7_lay_107 ml_X7_296 cd_X0_become iv_X0_become (c_X0_become lm lw (by decide)) (by decide) (by first | rfl | assumption) rfl rfl rfl rfl (Nat.le_of_ble_eq_true rfl) (RR.pc (b := 110) rfl ?_)
      refine r_goto (tgt := 146) hX dX7_lay_110 rfl ?_
      refine RR.cut (fin _ ?_) (List.forall_mem_cons.mpr ⟨rfl, fun _ h => absurd h List.not_mem_nil⟩)
      rw [hl1]
      simp only [su, sr_eq, sr_sr, sr_ne (show (0 : Nat) ≠ 8 by decide)]
    · by_cases c2 : thing = 2
      · have h : 0 ≤ k.toInt ∧ k.toInt ≤ 3 := by
          rcases hg with e | e | ⟨e, _⟩ | ⟨_, h⟩
          · rw [c2] at e; exact absurd e (by decide)
          · rw [c2] at e; exact absurd e (by decide)
          · exact absurd e c1
          · exact h
        obtain ⟨a, ha, rfl⟩ := ix_of (n := 4) (k := k) ⟨by omega, by omega⟩ (by omega)
        obtain ⟨lh, lh1⟩ := layH ha
        have hl1 : layC (σ 8) (σ 0) (σ 7) i thing (nI a) = cpR (σ 7) (upd (upd (upd (σ 8) (64 * i) thing) (64 * i + 34) (σ 7 (32 * a + 24))) (64 * i + 35) (σ 7 (32 * a + 25))) (32 * a) (64 * i + 10) 24 := by
          unfold layC
          rw [if_neg c1, if_pos c2, nI_clamp (by omega)]
        refine r_aload_n hX dX7_lay_67 rfl ⟨_, rfl⟩ (RR.pc (b := 68) rfl ?_)
        refine r_getr hX dX7_lay_68 fl_X7_58 (by first | rfl | assumption) rfl (RR.pc (b := 71) rfl ?_)
        refine r_iload_n (i := 0) hX dX7_lay_71 rfl (RR.pc (b := 72) rfl ?_)
        refine r_aald hX dX7_lay_72 (by first | rfl | assumption) ⟨_, rfl⟩ rfl (by omega) (by decide) (RR.pc (b := 73) rfl ?_)
        refine r_astore hX dX7_lay_73 (by decide) ⟨_, rfl⟩ (RR.pc (b := 75) rfl ?_)
        refine r_aload hX dX7_lay_75 rfl ⟨_, rfl⟩ (RR.pc (b := 77) rfl ?_)
        refine r_geti hX dX7_lay_77 fl_X7_289 (by first | rfl | assumption) rfl (RR.pc (b := 80) rfl ?_)
        refine r_istore hX dX7_lay_80 (by decide) (RR.pc (b := 82) rfl ?_)
        refine r_aload hX dX7_lay_82 rfl ⟨_, rfl⟩ (RR.pc (b := 84) rfl ?_)
        refine r_iload_n (i := 0) hX dX7_lay_84 rfl (RR.pc (b := 85) rfl ?_)
        refine r_puti hX dX7_lay_85 fl_X7_289 (by first | rfl | assumption) rfl ft_2_2 (RR.pc (b := 88) rfl ?_)
        refine r_iload_n (i := 0) hX dX7_lay_88 rfl (RR.pc (b := 89) rfl ?_)
        refine r_iconst (v := 1) hX dX7_lay_89 (by decide) (RR.pc (b := 90) rfl ?_)
        refine r_icmp_ne (tgt := 113) hX dX7_lay_90 rfl (fun h90 => ?_) (fun h90 => absurd h90 c1)
        refine r_iload_n (i := 0) hX dX7_lay_113 rfl (RR.pc (b := 114) rfl ?_)
        refine r_iconst (v := 2) hX dX7_lay_114 (by decide) (RR.pc (b := 115) rfl ?_)
        refine r_icmp_ne (tgt := 135) hX dX7_lay_115 rfl (fun h115 => absurd c2 h115) (fun h115 => RR.pc (b := 118) rfl ?_)
        refine r_aload hX dX7_lay_118 rfl ⟨_, rfl⟩ (RR.pc (b := 120) rfl ?_)
        refine r_getr hX dX7_lay_120 fl_X7_299 (by first | rfl | assumption) rfl (RR.pc (b := 123) rfl ?_)
        refine r_aload_n hX dX7_lay_123 rfl ⟨_, rfl⟩ (RR.pc (b := 124) rfl ?_)
        refine r_getr hX dX7_lay_124 fl_X7_51 (by first | rfl | assumption) rfl (RR.pc (b := 127) rfl ?_)
        refine r_iload_n (i := 0) hX dX7_lay_127 rfl (RR.pc (b := 128) rfl ?_)
        refine r_aald hX dX7_lay_128 (by first | rfl | assumption) ⟨_, rfl⟩ rfl (by omega) (by decide) (RR.pc (b := 129) rfl ?_)
        refine r_callVve hX dX7_lay_129 ml_X7_303 cd_X1_become iv_X1_become (c_X1_become l1 lh l2 lh1 (by decide)) (by decide) (by first | rfl | assumption) rfl rfl rfl rfl (Nat.le_of_ble_eq_true rfl) (RR.pc (b := 132) rfl ?_)
        refine r_goto (tgt := 146) hX dX7_lay_132 rfl ?_
        refine RR.cut (fin _ ?_) (List.forall_mem_cons.mpr ⟨rfl, fun _ h => absurd h List.not_mem_nil⟩)
        rw [hl1]
        simp only [su, sr_eq, sr_sr, sr_ne (show (7 : Nat) ≠ 8 by decide)]
      · have hl1 : layC (σ 8) (σ 0) (σ 7) i thing k = (if thing = 3 then upd (upd (σ 8) (64 * i) thing) (64 * i + 1) k else upd (σ 8) (64 * i) thing) := by
          unfold layC
          rw [if_neg c1, if_neg c2]
        refine r_aload_n hX dX7_lay_67 rfl ⟨_, rfl⟩ (RR.pc (b := 68) rfl ?_)
        refine r_getr hX dX7_lay_68 fl_X7_58 (by first | rfl | assumption) rfl (RR.pc (b := 71) rfl ?_)
        refine r_iload_n (i := 0) hX dX7_lay_71 rfl (RR.pc (b := 72) rfl ?_)
        refine r_aald hX dX7_lay_72 (by first | rfl | assumption) ⟨_, rfl⟩ rfl (by omega) (by decide) (RR.pc (b := 73) rfl ?_)
        refine r_astore hX dX7_lay_73 (by decide) ⟨_, rfl⟩ (RR.pc (b := 75) rfl ?_)
        refine r_aload hX dX7_lay_75 rfl ⟨_, rfl⟩ (RR.pc (b := 77) rfl ?_)
        refine r_geti hX dX7_lay_77 fl_X7_289 (by first | rfl | assumption) rfl (RR.pc (b := 80) rfl ?_)
        refine r_istore hX dX7_lay_80 (by decide) (RR.pc (b := 82) rfl ?_)
        refine r_aload hX dX7_lay_82 rfl ⟨_, rfl⟩ (RR.pc (b := 84) rfl ?_)
        refine r_iload_n (i := 0) hX dX7_lay_84 rfl (RR.pc (b := 85) rfl ?_)
        refine r_puti hX dX7_lay_85 fl_X7_289 (by first | rfl | assumption) rfl ft_2_2 (RR.pc (b := 88) rfl ?_)
        refine r_iload_n (i := 0) hX dX7_lay_88 rfl (RR.pc (b := 89) rfl ?_)
        refine r_iconst (v := 1) hX dX7_lay_89 (by decide) (RR.pc (b := 90) rfl ?_)
        refine r_icmp_ne (tgt := 113) hX dX7_lay_90 rfl (fun h90 => ?_) (fun h90 => absurd h90 c1)
        refine r_iload_n (i := 0) hX dX7_lay_113 rfl (RR.pc (b := 114) rfl ?_)
        refine r_iconst (v := 2) hX dX7_lay_114 (by decide) (RR.pc (b := 115) rfl ?_)
        refine r_icmp_ne (tgt := 135) hX dX7_lay_115 rfl (fun h115 => ?_) (fun h115 => absurd h115 c2)
        refine r_iload_n (i := 0) hX dX7_lay_135 rfl (RR.pc (b := 136) rfl ?_)
        refine r_iconst (v := 3) hX dX7_lay_136 (by decide) (RR.pc (b := 137) rfl ?_)
        refine r_icmp_ne (tgt := 146) hX dX7_lay_137 rfl (fun h137 => ?_) (fun h137 => RR.pc (b := 140) rfl ?_)
        · refine RR.cut (fin _ ?_) (List.forall_mem_cons.mpr ⟨rfl, fun _ h => absurd h List.not_mem_nil⟩)
          rw [hl1]
          first | (rw [if_pos h137]; simp only [su, sr_eq, sr_sr]) | (rw [if_neg h137]; simp only [su, sr_eq, sr_sr])
        · refine r_aload hX dX7_lay_140 rfl ⟨_, rfl⟩ (RR.pc (b := 142) rfl ?_)
          refine r_iload_n (i := 0) hX dX7_lay_142 rfl (RR.pc (b := 143) rfl ?_)
          refine r_puti hX dX7_lay_143 fl_X7_306 (by first | rfl | assumption) rfl ft_2_3 (RR.pc (b := 146) rfl ?_)
          refine RR.cut (fin _ ?_) (List.forall_mem_cons.mpr ⟨rfl, fun _ h => absurd h List.not_mem_nil⟩)
          rw [hl1]
          first | (rw [if_pos h137]; simp only [su, sr_eq, sr_sr]) | (rw [if_neg h137]; simp only [su, sr_eq, sr_sr])
  have bad : (ix slot 5 = none ∨ ¬ layG n thing k) → RR X G 6 16 (ll []) [] σ := by
    intro h
    refine r_ldc hX dX7_lay_16 kc_X7_75 (RR.pc (b := 18) rfl ?_)
    exact r_iret hX hZ dX7_lay_18 ⟨_, rfl, ⟨same.rf, fun _ => ⟨rfl, rfl⟩, fun i e g => h.elim (fun z => (ns e z).elim) (fun z => absurd g z)⟩⟩
  have bad2 : (ix slot 5 = none ∨ ¬ layG n thing k) → RR X G 6 44 (ll []) [] σ := by
    intro h
    refine r_ldc hX dX7_lay_44 kc_X7_75 (RR.pc (b := 46) rfl ?_)
    exact r_iret hX hZ dX7_lay_46 ⟨_, rfl, ⟨same.rf, fun _ => ⟨rfl, rfl⟩, fun i e g => h.elim (fun z => (ns e z).elim) (fun z => absurd g z)⟩⟩
  have t47 : ∀ i, i < 5 → slot = nI i → layG n thing k → RR X G 6 47 (ll [(0, rf G 0), (1, .int slot), (2, .int thing), (3, .int k)]) [] σ := by
    intro i hi e hg
    have hix : ix slot 5 = some i := by rw [e]; exact ix_some (n := 5) hi (by omega)
    by_cases c2 : thing = 2
    · have h : 0 ≤ k.toInt ∧ k.toInt ≤ 3 := by
        rcases hg with e | e | ⟨e, _⟩ | ⟨_, h⟩
        · rw [c2] at e; exact absurd e (by decide)
        · rw [c2] at e; exact absurd e (by decide)
        · rw [c2] at e; exact absurd e (by decide)
        · exact h
      obtain ⟨a, ha, rfl⟩ := ix_of (n := 4) (k := k) ⟨by omega, by omega⟩ (by omega)
      obtain ⟨lh, lh1⟩ := layH ha
      refine r_iload_n (i := 0) hX dX7_lay_47 rfl (RR.pc (b := 48) rfl ?_)
      refine r_iconst (v := 2) hX dX7_lay_48 (by decide) (RR.pc (b := 49) rfl ?_)
      refine r_icmp_ne (tgt := 67) hX dX7_lay_49 rfl (fun h49 => absurd c2 h49) (fun h49 => RR.pc (b := 52) rfl ?_)
      refine r_aload_n hX dX7_lay_52 rfl ⟨_, rfl⟩ (RR.pc (b := 53) rfl ?_)
      refine r_getr hX dX7_lay_53 fl_X7_51 (by first | rfl | assumption) rfl (RR.pc (b := 56) rfl ?_)
      refine r_iload_n (i := 0) hX dX7_lay_56 rfl (RR.pc (b := 57) rfl ?_)
      refine r_aald hX dX7_lay_57 (by first | rfl | assumption) ⟨_, rfl⟩ rfl (by omega) (by decide) (RR.pc (b := 58) rfl ?_)
      refine r_callVie hX dX7_lay_58 ml_X7_209 cd_X1_isMissing iv_X1_isMissing (c_X1_isMissing lh) (by decide) (by first | rfl | assumption) rfl rfl rfl rfl (Nat.le_of_ble_eq_true rfl) (RR.pc (b := 61) rfl ?_)
      refine r_if_eq_b (tgt := 67) hX dX7_lay_61 rfl (fun h61 => ?_) (fun h61 => RR.pc (b := 64) rfl ?_)
      · exact RR.cut (go i hi e hg (fun z => by rw [nI_clamp (by omega)] at z; exact h61 ((hS.miss ha).mp z.2))) (List.forall_mem_cons.mpr ⟨rfl, List.forall_mem_cons.mpr ⟨rfl, List.forall_mem_cons.mpr ⟨rfl, List.forall_mem_cons.mpr ⟨rfl, fun _ h => absurd h List.not_mem_nil⟩⟩⟩⟩)
      · refine r_ldc hX dX7_lay_64 kc_X7_212 (RR.pc (b := 66) rfl ?_)
        exact r_iret hX hZ dX7_lay_66 ⟨_, rfl, ⟨same.rf, fun z => z.elim (fun e => (ns hix e).elim) (fun e => absurd hg e), fun j e _ => by rw [nI_clamp (by omega)]; exact ⟨fun _ => ⟨rfl, rfl⟩, fun z => absurd ⟨c2, (hS.miss ha).mpr h61⟩ z⟩⟩⟩
    · skip
      refine r_iload_n (i := 0) hX dX7_lay_47 rfl (RR.pc (b := 48) rfl ?_)
      refine r_iconst (v := 2) hX dX7_lay_48 (by decide) (RR.pc (b := 49) rfl ?_)
      refine r_icmp_ne (tgt := 67) hX dX7_lay_49 rfl (fun h49 => ?_) (fun h49 => absurd h49 c2)
      exact RR.cut (go i hi e hg (fun z => c2 z.1)) (List.forall_mem_cons.mpr ⟨rfl, List.forall_mem_cons.mpr ⟨rfl, List.forall_mem_cons.mpr ⟨rfl, List.forall_mem_cons.mpr ⟨rfl, fun _ h => absurd h List.not_mem_nil⟩⟩⟩⟩)
  refine r_iload_n (i := 0) hX dX7_lay_0 rfl (RR.pc (b := 1) rfl ?_)
  refine r_callSie hX dX7_lay_1 ml_X7_286 cd_X7_isSlot st_X7_isSlot c_X7_isSlot (by decide) rfl rfl (Nat.le_of_ble_eq_true rfl) (RR.pc (b := 4) rfl ?_)
  refine r_if_eq_b (tgt := 16) hX dX7_lay_4 rfl (fun h4 => ?_) (fun h4 => RR.pc (b := 7) rfl ?_)
  · first | exact RR.cut (bad (Or.inl (ix_none (fun z => h4 (by omega))))) (fun _ h => absurd h List.not_mem_nil) | exact RR.cut (bad (Or.inr (fun z => h13 (by rcases z with e | e | ⟨e, _⟩ | ⟨e, _⟩ <;> rw [e] <;> decide)))) (fun _ h => absurd h List.not_mem_nil)
  · refine r_iload_n (i := 0) hX dX7_lay_7 rfl (RR.pc (b := 8) rfl ?_)
    refine r_iconst (v := 0) hX dX7_lay_8 (by decide) (RR.pc (b := 9) rfl ?_)
    refine r_iconst (v := 3) hX dX7_lay_9 (by decide) (RR.pc (b := 10) rfl ?_)
    refine r_callSie hX dX7_lay_10 ml_X7_71 cd_X7_within st_X7_within c_X7_within (by decide) rfl rfl (Nat.le_of_ble_eq_true rfl) (RR.pc (b := 13) rfl ?_)
    refine r_if_ne_b (tgt := 19) hX dX7_lay_13 rfl (fun h13 => ?_) (fun h13 => RR.pc (b := 16) rfl ?_)
    · try simp only [Int32.reduceToInt] at h13
      obtain ⟨i, hi, e⟩ := ix_of (n := 5) (k := slot) ⟨by omega, by omega⟩ (by omega)
      refine r_iload_n (i := 0) hX dX7_lay_19 rfl (RR.pc (b := 20) rfl ?_)
      refine r_iconst (v := 1) hX dX7_lay_20 (by decide) (RR.pc (b := 21) rfl ?_)
      refine r_icmp_ne (tgt := 32) hX dX7_lay_21 rfl (fun h21 => ?_) (fun h21 => RR.pc (b := 24) rfl ?_)
      · refine r_iload_n (i := 0) hX dX7_lay_32 rfl (RR.pc (b := 33) rfl ?_)
        refine r_iconst (v := 2) hX dX7_lay_33 (by decide) (RR.pc (b := 34) rfl ?_)
        refine r_icmp_ne (tgt := 47) hX dX7_lay_34 rfl (fun h34 => ?_) (fun h34 => RR.pc (b := 37) rfl ?_)
        · refine RR.cut (t47 i hi e ?_) (List.forall_mem_cons.mpr ⟨rfl, List.forall_mem_cons.mpr ⟨rfl, List.forall_mem_cons.mpr ⟨rfl, List.forall_mem_cons.mpr ⟨rfl, fun _ h => absurd h List.not_mem_nil⟩⟩⟩⟩)
          unfold layG
          by_cases d1 : thing = 1
          · exact Or.inr (Or.inr (Or.inl ⟨d1, by first | exact h29 | exact absurd d1 h21⟩))
          · by_cases d2 : thing = 2
            · exact Or.inr (Or.inr (Or.inr ⟨d2, by first | exact h41 | exact absurd d2 h34⟩))
            · obtain ⟨c, hc, ec⟩ := ix_of (n := 4) (k := thing) ⟨by omega, by omega⟩ (by omega)
              rcases (show c = 0 ∨ c = 1 ∨ c = 2 ∨ c = 3 by omega) with rfl | rfl | rfl | rfl
              · exact Or.inl ec
              · exact absurd ec d1
              · exact absurd ec d2
              · exact Or.inr (Or.inl ec)
        · refine r_iload_n (i := 0) hX dX7_lay_37 rfl (RR.pc (b := 38) rfl ?_)
          refine r_callSie hX dX7_lay_38 ml_X7_206 cd_X7_isSheet st_X7_isSheet c_X7_isSheet (by decide) rfl rfl (Nat.le_of_ble_eq_true rfl) (RR.pc (b := 41) rfl ?_)
          refine r_if_ne_b (tgt := 47) hX dX7_lay_41 rfl (fun h41 => ?_) (fun h41 => RR.pc (b := 44) rfl ?_)
          · refine RR.cut (t47 i hi e ?_) (List.forall_mem_cons.mpr ⟨rfl, List.forall_mem_cons.mpr ⟨rfl, List.forall_mem_cons.mpr ⟨rfl, List.forall_mem_cons.mpr ⟨rfl, fun _ h => absurd h List.not_mem_nil⟩⟩⟩⟩)
            unfold layG
            by_cases d1 : thing = 1
            · exact Or.inr (Or.inr (Or.inl ⟨d1, by first | exact h29 | exact absurd d1 h21⟩))
            · by_cases d2 : thing = 2
              · exact Or.inr (Or.inr (Or.inr ⟨d2, by first | exact h41 | exact absurd d2 h34⟩))
              · obtain ⟨c, hc, ec⟩ := ix_of (n := 4) (k := thing) ⟨by omega, by omega⟩ (by omega)
                rcases (show c = 0 ∨ c = 1 ∨ c = 2 ∨ c = 3 by omega) with rfl | rfl | rfl | rfl
                · exact Or.inl ec
                · exact absurd ec d1
                · exact absurd ec d2
                · exact Or.inr (Or.inl ec)
          · first | exact RR.cut (bad2 (Or.inr (fun z => by rcases z with e | e | ⟨_, c⟩ | ⟨e, _⟩; (rw [h21] at e; exact absurd e (by decide)); (rw [h21] at e; exact absurd e (by decide)); (exact h29 c); (rw [h21] at e; exact absurd e (by decide))))) (fun _ h => absurd h List.not_mem_nil) | exact RR.cut (bad2 (Or.inr (fun z => by rcases z with e | e | ⟨e, _⟩ | ⟨_, c⟩; (rw [h34] at e; exact absurd e (by decide)); (rw [h34] at e; exact absurd e (by decide)); (rw [h34] at e; exact absurd e (by decide)); (exact h41 c)))) (fun _ h => absurd h List.not_mem_nil)
      · refine r_aload_n hX dX7_lay_24 rfl ⟨_, rfl⟩ (RR.pc (b := 25) rfl ?_)
        refine r_iload_n (i := 0) hX dX7_lay_25 rfl (RR.pc (b := 26) rfl ?_)
        refine r_callVie hX dX7_lay_26 ml_X7_85 cd_X7_isMule iv_X7_isMule (c_X7_isMule hN h8) (by decide) (by first | rfl | assumption) rfl rfl rfl rfl (Nat.le_of_ble_eq_true rfl) (RR.pc (b := 29) rfl ?_)
        refine r_if_eq_b (tgt := 44) hX dX7_lay_29 rfl (fun h29 => ?_) (fun h29 => RR.pc (b := 32) rfl ?_)
        · first | exact RR.cut (bad2 (Or.inr (fun z => by rcases z with e | e | ⟨_, c⟩ | ⟨e, _⟩; (rw [h21] at e; exact absurd e (by decide)); (rw [h21] at e; exact absurd e (by decide)); (exact h29 c); (rw [h21] at e; exact absurd e (by decide))))) (fun _ h => absurd h List.not_mem_nil) | exact RR.cut (bad2 (Or.inr (fun z => by rcases z with e | e | ⟨e, _⟩ | ⟨_, c⟩; (rw [h34] at e; exact absurd e (by decide)); (rw [h34] at e; exact absurd e (by decide)); (rw [h34] at e; exact absurd e (by decide)); (exact h41 c)))) (fun _ h => absurd h List.not_mem_nil)
        · refine r_iload_n (i := 0) hX dX7_lay_32 rfl (RR.pc (b := 33) rfl ?_)
          refine r_iconst (v := 2) hX dX7_lay_33 (by decide) (RR.pc (b := 34) rfl ?_)
          refine r_icmp_ne (tgt := 47) hX dX7_lay_34 rfl (fun h34 => ?_) (fun h34 => RR.pc (b := 37) rfl ?_)
          · refine RR.cut (t47 i hi e ?_) (List.forall_mem_cons.mpr ⟨rfl, List.forall_mem_cons.mpr ⟨rfl, List.forall_mem_cons.mpr ⟨rfl, List.forall_mem_cons.mpr ⟨rfl, fun _ h => absurd h List.not_mem_nil⟩⟩⟩⟩)
            unfold layG
            by_cases d1 : thing = 1
            · exact Or.inr (Or.inr (Or.inl ⟨d1, by first | exact h29 | exact absurd d1 h21⟩))
            · by_cases d2 : thing = 2
              · exact Or.inr (Or.inr (Or.inr ⟨d2, by first | exact h41 | exact absurd d2 h34⟩))
              · obtain ⟨c, hc, ec⟩ := ix_of (n := 4) (k := thing) ⟨by omega, by omega⟩ (by omega)
                rcases (show c = 0 ∨ c = 1 ∨ c = 2 ∨ c = 3 by omega) with rfl | rfl | rfl | rfl
                · exact Or.inl ec
                · exact absurd ec d1
                · exact absurd ec d2
                · exact Or.inr (Or.inl ec)
          · refine r_iload_n (i := 0) hX dX7_lay_37 rfl (RR.pc (b := 38) rfl ?_)
            refine r_callSie hX dX7_lay_38 ml_X7_206 cd_X7_isSheet st_X7_isSheet c_X7_isSheet (by decide) rfl rfl (Nat.le_of_ble_eq_true rfl) (RR.pc (b := 41) rfl ?_)
            refine r_if_ne_b (tgt := 47) hX dX7_lay_41 rfl (fun h41 => ?_) (fun h41 => RR.pc (b := 44) rfl ?_)
            · refine RR.cut (t47 i hi e ?_) (List.forall_mem_cons.mpr ⟨rfl, List.forall_mem_cons.mpr ⟨rfl, List.forall_mem_cons.mpr ⟨rfl, List.forall_mem_cons.mpr ⟨rfl, fun _ h => absurd h List.not_mem_nil⟩⟩⟩⟩)
              unfold layG
              by_cases d1 : thing = 1
              · exact Or.inr (Or.inr (Or.inl ⟨d1, by first | exact h29 | exact absurd d1 h21⟩))
              · by_cases d2 : thing = 2
                · exact Or.inr (Or.inr (Or.inr ⟨d2, by first | exact h41 | exact absurd d2 h34⟩))
                · obtain ⟨c, hc, ec⟩ := ix_of (n := 4) (k := thing) ⟨by omega, by omega⟩ (by omega)
                  rcases (show c = 0 ∨ c = 1 ∨ c = 2 ∨ c = 3 by omega) with rfl | rfl | rfl | rfl
                  · exact Or.inl ec
                  · exact absurd ec d1
                  · exact absurd ec d2
                  · exact Or.inr (Or.inl ec)
            · first | exact RR.cut (bad2 (Or.inr (fun z => by rcases z with e | e | ⟨_, c⟩ | ⟨e, _⟩; (rw [h21] at e; exact absurd e (by decide)); (rw [h21] at e; exact absurd e (by decide)); (exact h29 c); (rw [h21] at e; exact absurd e (by decide))))) (fun _ h => absurd h List.not_mem_nil) | exact RR.cut (bad2 (Or.inr (fun z => by rcases z with e | e | ⟨e, _⟩ | ⟨_, c⟩; (rw [h34] at e; exact absurd e (by decide)); (rw [h34] at e; exact absurd e (by decide)); (rw [h34] at e; exact absurd e (by decide)); (exact h41 c)))) (fun _ h => absurd h List.not_mem_nil)
    · try simp only [Int32.reduceToInt] at h13
      first | exact RR.cut (bad (Or.inl (ix_none (fun z => h4 (by omega))))) (fun _ h => absurd h List.not_mem_nil) | exact RR.cut (bad (Or.inr (fun z => h13 (by rcases z with e | e | ⟨e, _⟩ | ⟨e, _⟩ <;> rw [e] <;> decide)))) (fun _ h => absurd h List.not_mem_nil)
