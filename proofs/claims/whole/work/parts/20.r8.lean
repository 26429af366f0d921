/-! the reference: whose, copy, slots, images -/
def whosF (V : Int32 → Int32 → Int32 → Int32) (n : Nat) (w : Nat → Int32) (S : Nat → Nat → Int32) (sheet q what : Int32) : Int32 := match ix sheet 4 with
  | none => vBAD
  | some a => if (0 ≤ q.toInt ∧ q.toInt ≤ 60) ∧ (0 ≤ what.toInt ∧ what.toInt ≤ 1) then (if S a 24 < 0 then vNOTH else wsoF V n w (S a) (S a 25).toNatClampNeg q.toNatClampNeg what) else vBAD
theorem ns {α : Type} {o : Option α} {a : α} (h : o = some a) (e : o = none) : False := by rw [h] at e; cases e
theorem se {α : Type} {o : Option α} {a b : α} (h : o = some a) (e : o = some b) : a = b := by rw [h] at e; exact Option.some.inj e
set_option maxHeartbeats 4000000 in
set_option maxRecDepth 100000 in
theorem c_X8_setAside {G : GM} {σ : SG} {k0 k1 r0 r1 : Nat} (h0 : lay k0 = lI 3171 r0 0) (h1 : lay k1 = lI 3171 r1 0) (hr : r0 ≠ r1) : CU G yX8_setAside cX8_setAside 4 none 0 [rf G 109, rf G k0, rf G k1] σ (fun s => s = sr σ r1 (cpL (σ r1) (σ r0) 2971)) := by
  refine Con.of cd_X8_setAside (Nat.le_of_ble_eq_true rfl) ?_
  intro X hX hZ
  have hX : Fx X G RX8 cX8_setAside 4 0 := hX
  show RR X G 4 0 (ll [(0, rf G 109), (1, rf G k0), (2, rf G k1)]) [] σ
  have loop := loopK 2971 (fun k => RR X G 4 2 (ll [(0, rf G 109), (1, rf G k0), (2, rf G k1), (3, .int (nI k))]) [] (sr σ r1 (cpL (σ r1) (σ r0) k))) (by
    intro k hk ih
    refine r_iload_n (i := 0) hX dX8_setAside_2 rfl (RR.pc (b := 3) rfl ?_)
    refine r_sipush (v := 2971) hX dX8_setAside_3 (by decide) (RR.pc (b := 6) rfl ?_)
    refine r_icmp_ge (tgt := 21) hX dX8_setAside_6 rfl (fun h6 => ?_) (fun h6 => RR.pc (b := 9) rfl ?_)
    · have hk2 : k = 2971 := by rw [show (2971 : Int32) = nI 2971 from rfl, nI_leI (by omega) (by omega)] at h6; omega
      subst hk2
      exact r_vret hX hZ dX8_setAside_21 ⟨rfl, rfl⟩
    · have hk2 : k < 2971 := by rw [show (2971 : Int32) = nI 2971 from rfl, nI_leI (by omega) (by omega)] at h6; omega
      refine r_aload_n hX dX8_setAside_9 rfl ⟨_, rfl⟩ (RR.pc (b := 10) rfl ?_)
      refine r_iload_n (i := 0) hX dX8_setAside_10 rfl (RR.pc (b := 11) rfl ?_)
      refine r_aload_n hX dX8_setAside_11 rfl ⟨_, rfl⟩ (RR.pc (b := 12) rfl ?_)
      refine r_iload_n (i := 0) hX dX8_setAside_12 rfl (RR.pc (b := 13) rfl ?_)
      refine r_iald hX dX8_setAside_13 h0 rfl (by omega) (by decide) (by first | exact Nat.zero_add _ | rfl) (RR.pc (b := 14) rfl ?_)
      rw [sr_ne hr]
      refine r_iast hX dX8_setAside_14 h1 rfl (by omega) (by decide) (by first | exact Nat.zero_add _ | rfl) (RR.pc (b := 15) rfl ?_)
      refine r_iinc hX dX8_setAside_15 rfl (by decide) (nI_1 k) (RR.pc (b := 18) rfl ?_)
      refine r_goto (tgt := 2) hX dX8_setAside_18 rfl ?_
      exact RR.eqs (by rw [su_sr, cpL_succ]) (RR.cut (ih hk2) (List.forall_mem_cons.mpr ⟨rfl, List.forall_mem_cons.mpr ⟨rfl, List.forall_mem_cons.mpr ⟨rfl, List.forall_mem_cons.mpr ⟨rfl, fun _ h => absurd h List.not_mem_nil⟩⟩⟩⟩))
    )
  refine r_iconst (v := 0) hX dX8_setAside_0 (by decide) (RR.pc (b := 1) rfl ?_)
  refine r_istore_n hX dX8_setAside_1 (by decide) (RR.pc (b := 2) rfl ?_)
  exact RR.eqs (show σ = sr σ r1 (cpL (σ r1) (σ r0) 0) from sr_self.symm) (RR.cut (loop 0 (by omega)) (List.forall_mem_cons.mpr ⟨rfl, List.forall_mem_cons.mpr ⟨rfl, List.forall_mem_cons.mpr ⟨rfl, List.forall_mem_cons.mpr ⟨rfl, fun _ h => absurd h List.not_mem_nil⟩⟩⟩⟩))
set_option maxHeartbeats 4000000 in
set_option maxRecDepth 100000 in
theorem c_X8_keep {G : GM} {σ : SG} : CI G yX8_keep cX8_keep 1 (some .int) 1 [rf G 109] σ (fun r s => r = σ 20 0 ∧ s = sr (su σ 38 0 1) 21 (cpL (σ 21) (σ 20) 2971)) := by
  refine Con.of cd_X8_keep (Nat.le_of_ble_eq_true rfl) ?_
  intro X hX hZ
  have hX : Fx X G RX8 cX8_keep 1 1 := hX
  show RR X G 1 0 (ll [(0, rf G 109)]) [] σ
  refine r_aload_n hX dX8_keep_0 rfl ⟨_, rfl⟩ (RR.pc (b := 1) rfl ?_)
  refine r_iconst (v := 1) hX dX8_keep_1 (by decide) (RR.pc (b := 2) rfl ?_)
  refine r_put hX dX8_keep_2 fl_X8_309 (by first | rfl | assumption) rfl ft_8_3 rfl rfl (RR.pc (b := 5) rfl ?_)
  refine r_aload_n hX dX8_keep_5 rfl ⟨_, rfl⟩ (RR.pc (b := 6) rfl ?_)
  refine r_aload_n hX dX8_keep_6 rfl ⟨_, rfl⟩ (RR.pc (b := 7) rfl ?_)
  refine r_getr hX dX8_keep_7 fl_X8_7 (by first | rfl | assumption) rfl (RR.pc (b := 10) rfl ?_)
  refine r_aload_n hX dX8_keep_10 rfl ⟨_, rfl⟩ (RR.pc (b := 11) rfl ?_)
  refine r_getr hX dX8_keep_11 fl_X8_13 (by first | rfl | assumption) rfl (RR.pc (b := 14) rfl ?_)
  refine r_callVve hX dX8_keep_14 ml_X8_313 cd_X8_setAside iv_X8_setAside (c_X8_setAside (r0 := 20) (r1 := 21) rfl rfl (by decide)) (by decide) (by first | rfl | assumption) rfl rfl rfl rfl (Nat.le_of_ble_eq_true rfl) (RR.pc (b := 17) rfl ?_)
  refine r_aload_n hX dX8_keep_17 rfl ⟨_, rfl⟩ (RR.pc (b := 18) rfl ?_)
  refine r_getr hX dX8_keep_18 fl_X8_7 (by first | rfl | assumption) rfl (RR.pc (b := 21) rfl ?_)
  refine r_iconst (v := 0) hX dX8_keep_21 (by decide) (RR.pc (b := 22) rfl ?_)
  refine r_iald hX dX8_keep_22 (by first | rfl | assumption) (by first | rfl | assumption) (by first | decide | assumption | omega) (by decide) (by first | exact Nat.zero_add _ | rfl) (RR.pc (b := 23) rfl ?_)
  rw [sr_ne (by decide), su_ne (by decide)]
  exact r_iret hX hZ dX8_keep_23 ⟨_, rfl, ⟨rfl, rfl⟩⟩
set_option maxHeartbeats 4000000 in
set_option maxRecDepth 100000 in
theorem c_X8_back {G : GM} {σ : SG} : CI G yX8_back cX8_back 1 (some .int) 1 [rf G 109] σ (fun r s => (σ 38 0 = 0 → r = vNO ∧ s = σ) ∧ (¬ σ 38 0 = 0 → r = σ 21 0 ∧ s = sr σ 20 (cpL (σ 20) (σ 21) 2971))) := by
  refine Con.of cd_X8_back (Nat.le_of_ble_eq_true rfl) ?_
  intro X hX hZ
  have hX : Fx X G RX8 cX8_back 1 1 := hX
  show RR X G 1 0 (ll [(0, rf G 109)]) [] σ
  refine r_aload_n hX dX8_back_0 rfl ⟨_, rfl⟩ (RR.pc (b := 1) rfl ?_)
  refine r_geti hX dX8_back_1 fl_X8_309 (by first | rfl | assumption) rfl (RR.pc (b := 4) rfl ?_)
  refine r_if_ne (tgt := 11) hX dX8_back_4 rfl (fun h4 => ?_) (fun h4 => RR.pc (b := 7) rfl ?_)
  · refine r_aload_n hX dX8_back_11 rfl ⟨_, rfl⟩ (RR.pc (b := 12) rfl ?_)
    refine r_aload_n hX dX8_back_12 rfl ⟨_, rfl⟩ (RR.pc (b := 13) rfl ?_)
    refine r_getr hX dX8_back_13 fl_X8_13 (by first | rfl | assumption) rfl (RR.pc (b := 16) rfl ?_)
    refine r_aload_n hX dX8_back_16 rfl ⟨_, rfl⟩ (RR.pc (b := 17) rfl ?_)
    refine r_getr hX dX8_back_17 fl_X8_7 (by first | rfl | assumption) rfl (RR.pc (b := 20) rfl ?_)
    refine r_callVve hX dX8_back_20 ml_X8_313 cd_X8_setAside iv_X8_setAside (c_X8_setAside (r0 := 21) (r1 := 20) rfl rfl (by decide)) (by decide) (by first | rfl | assumption) rfl rfl rfl rfl (Nat.le_of_ble_eq_true rfl) (RR.pc (b := 23) rfl ?_)
    refine r_aload_n hX dX8_back_23 rfl ⟨_, rfl⟩ (RR.pc (b := 24) rfl ?_)
    refine r_getr hX dX8_back_24 fl_X8_7 (by first | rfl | assumption) rfl (RR.pc (b := 27) rfl ?_)
    refine r_iconst (v := 0) hX dX8_back_27 (by decide) (RR.pc (b := 28) rfl ?_)
    refine r_iald hX dX8_back_28 (by first | rfl | assumption) (by first | rfl | assumption) (by first | decide | assumption | omega) (by decide) (by first | exact Nat.zero_add _ | rfl) (RR.pc (b := 29) rfl ?_)
    rw [sr_eq, show cpL (σ 20) (σ 21) 2971 0 = σ 21 0 from rfl]
    exact r_iret hX hZ dX8_back_29 ⟨_, rfl, ⟨fun h => absurd h h4, fun _ => ⟨rfl, rfl⟩⟩⟩
  · refine r_ldcw hX dX8_back_7 kc_X8_303 (RR.pc (b := 10) rfl ?_)
    exact r_iret hX hZ dX8_back_10 ⟨_, rfl, ⟨fun _ => ⟨rfl, rfl⟩, fun h => absurd h4 h⟩⟩
set_option maxHeartbeats 4000000 in
set_option maxRecDepth 100000 in
theorem c_X8_ask {G : GM} {σ : SG} {slot kind : Int32} : CI G yX8_ask cX8_ask 3 (some .int) 2 [rf G 109, .int slot, .int kind] σ (fun r s => s = σ ∧ (ix slot 5 = none → r = vBAD) ∧ (¬ (0 ≤ kind.toInt ∧ kind.toInt ≤ 5) → r = vBAD) ∧ (∀ i, ix slot 5 = some i → (0 ≤ kind.toInt ∧ kind.toInt ≤ 5) → r = if σ 26 i = 0 then vNOTH else if σ 26 i = 1 ∧ (σ 27 i = kind ∨ kind = 0 ∨ (kind = 1 ∧ σ 27 i = 3) ∨ (kind = 2 ∧ σ 27 i = 4)) then σ 28 i else vKIND)) := by
  refine Con.of cd_X8_ask (Nat.le_of_ble_eq_true rfl) ?_
  intro X hX hZ
  have hX : Fx X G RX8 cX8_ask 3 2 := hX
  show RR X G 3 0 (ll [(0, rf G 109), (1, .int slot), (2, .int kind)]) [] σ
  refine r_iload_n (i := 0) hX dX8_ask_0 rfl (RR.pc (b := 1) rfl ?_)
  refine r_callSie hX dX8_ask_1 ml_X8_300 cd_X8_isSlot st_X8_isSlot c_X8_isSlot (by decide) rfl rfl (Nat.le_of_ble_eq_true rfl) (RR.pc (b := 4) rfl ?_)
  refine r_if_eq_b (tgt := 19) hX dX8_ask_4 rfl (fun h4 => ?_) (fun h4 => RR.pc (b := 7) rfl ?_)
  · refine r_ldc hX dX8_ask_19 kc_X8_84 (RR.pc (b := 21) rfl ?_)
    exact r_iret hX hZ dX8_ask_21 ⟨_, rfl, ⟨rfl, fun _ => rfl, fun _ => rfl, fun i e h => by first | exact absurd h h16 | (obtain ⟨q1, rfl⟩ := ix_lt e (by omega); exact absurd ⟨by rw [nI_toInt (by omega)]; omega, by rw [nI_toInt (by omega)]; omega⟩ h4)⟩⟩
  · obtain ⟨a, ha, rfl⟩ := ix_of (n := 5) (k := slot) ⟨by omega, by omega⟩ (by omega)
    have hix := ix_some (n := 5) ha (by omega)
    refine r_iload_n (i := 0) hX dX8_ask_7 rfl (RR.pc (b := 8) rfl ?_)
    refine r_i2l hX dX8_ask_8 (RR.pc (b := 9) rfl ?_)
    refine r_lconst (v := 0) hX dX8_ask_9 rfl (RR.pc (b := 10) rfl ?_)
    refine r_ldc2 hX dX8_ask_10 k2_X8_76 (RR.pc (b := 13) rfl ?_)
    refine r_callSie hX dX8_ask_13 ml_X8_65 cd_X8_isIn st_X8_isIn c_X8_isIn (by decide) rfl rfl (Nat.le_of_ble_eq_true rfl) (RR.pc (b := 16) rfl ?_)
    refine r_if_ne_b (tgt := 22) hX dX8_ask_16 rfl (fun h16 => ?_) (fun h16 => RR.pc (b := 19) rfl ?_)
    · simp only [Int32.toInt_toInt64, Int64.reduceToInt] at h16
      refine r_aload_n hX dX8_ask_22 rfl ⟨_, rfl⟩ (RR.pc (b := 23) rfl ?_)
      refine r_getr hX dX8_ask_23 fl_X8_28 (by first | rfl | assumption) rfl (RR.pc (b := 26) rfl ?_)
      refine r_iload_n (i := 0) hX dX8_ask_26 rfl (RR.pc (b := 27) rfl ?_)
      refine r_iald hX dX8_ask_27 (by first | rfl | assumption) rfl (by omega) (by decide) (by first | exact Nat.zero_add _ | rfl) (RR.pc (b := 28) rfl ?_)
      refine r_if_ne (tgt := 35) hX dX8_ask_28 rfl (fun h28 => ?_) (fun h28 => RR.pc (b := 31) rfl ?_)
      · refine r_aload_n hX dX8_ask_35 rfl ⟨_, rfl⟩ (RR.pc (b := 36) rfl ?_)
        refine r_getr hX dX8_ask_36 fl_X8_28 (by first | rfl | assumption) rfl (RR.pc (b := 39) rfl ?_)
        refine r_iload_n (i := 0) hX dX8_ask_39 rfl (RR.pc (b := 40) rfl ?_)
        refine r_iald hX dX8_ask_40 (by first | rfl | assumption) rfl (by omega) (by decide) (by first | exact Nat.zero_add _ | rfl) (RR.pc (b := 41) rfl ?_)
        refine r_iconst (v := 1) hX dX8_ask_41 (by decide) (RR.pc (b := 42) rfl ?_)
        refine r_icmp_ne (tgt := 67) hX dX8_ask_42 rfl (fun h42 => ?_) (fun h42 => RR.pc (b := 45) rfl ?_)
        · have hcc : ¬ (σ 26 a = 1 ∧ (σ 27 a = kind ∨ kind = 0 ∨ (kind = 1 ∧ σ 27 a = 3) ∨ (kind = 2 ∧ σ 27 a = 4))) := fun q => by first | exact h42 q.1 | exact h55 q.2
          refine r_ldc hX dX8_ask_67 kc_X8_121 (RR.pc (b := 69) rfl ?_)
          exact r_iret hX hZ dX8_ask_69 ⟨_, rfl, ⟨rfl, fun e => (ns hix e).elim, fun h => absurd h16 h, fun i e _ => by have q := se hix e; subst q; rw [if_neg h28]; first | rw [if_pos hcc] | rw [if_neg hcc]⟩⟩
        · refine r_aload_n hX dX8_ask_45 rfl ⟨_, rfl⟩ (RR.pc (b := 46) rfl ?_)
          refine r_getr hX dX8_ask_46 fl_X8_31 (by first | rfl | assumption) rfl (RR.pc (b := 49) rfl ?_)
          refine r_iload_n (i := 0) hX dX8_ask_49 rfl (RR.pc (b := 50) rfl ?_)
          refine r_iald hX dX8_ask_50 (by first | rfl | assumption) rfl (by omega) (by decide) (by first | exact Nat.zero_add _ | rfl) (RR.pc (b := 51) rfl ?_)
          refine r_iload_n (i := 0) hX dX8_ask_51 rfl (RR.pc (b := 52) rfl ?_)
          refine r_callSie hX dX8_ask_52 ml_X8_117 cd_X8_isOf st_X8_isOf c_X8_isOf (by decide) rfl rfl (Nat.le_of_ble_eq_true rfl) (RR.pc (b := 55) rfl ?_)
          refine r_if_eq_b (tgt := 67) hX dX8_ask_55 rfl (fun h55 => ?_) (fun h55 => RR.pc (b := 58) rfl ?_)
          · have hcc : ¬ (σ 26 a = 1 ∧ (σ 27 a = kind ∨ kind = 0 ∨ (kind = 1 ∧ σ 27 a = 3) ∨ (kind = 2 ∧ σ 27 a = 4))) := fun q => by first | exact h42 q.1 | exact h55 q.2
            refine r_ldc hX dX8_ask_67 kc_X8_121 (RR.pc (b := 69) rfl ?_)
            exact r_iret hX hZ dX8_ask_69 ⟨_, rfl, ⟨rfl, fun e => (ns hix e).elim, fun h => absurd h16 h, fun i e _ => by have q := se hix e; subst q; rw [if_neg h28]; first | rw [if_pos hcc] | rw [if_neg hcc]⟩⟩
          · have hcc : (σ 26 a = 1 ∧ (σ 27 a = kind ∨ kind = 0 ∨ (kind = 1 ∧ σ 27 a = 3) ∨ (kind = 2 ∧ σ 27 a = 4))) := ⟨h42, h55⟩
            refine r_aload_n hX dX8_ask_58 rfl ⟨_, rfl⟩ (RR.pc (b := 59) rfl ?_)
            refine r_getr hX dX8_ask_59 fl_X8_34 (by first | rfl | assumption) rfl (RR.pc (b := 62) rfl ?_)
            refine r_iload_n (i := 0) hX dX8_ask_62 rfl (RR.pc (b := 63) rfl ?_)
            refine r_iald hX dX8_ask_63 (by first | rfl | assumption) rfl (by omega) (by decide) (by first | exact Nat.zero_add _ | rfl) (RR.pc (b := 64) rfl ?_)
            refine r_goto (tgt := 69) hX dX8_ask_64 rfl ?_
            exact r_iret hX hZ dX8_ask_69 ⟨_, rfl, ⟨rfl, fun e => (ns hix e).elim, fun h => absurd h16 h, fun i e _ => by have q := se hix e; subst q; rw [if_neg h28]; first | rw [if_pos hcc] | rw [if_neg hcc]⟩⟩
      · refine r_ldcw hX dX8_ask_31 kc_X8_291 (RR.pc (b := 34) rfl ?_)
        exact r_iret hX hZ dX8_ask_34 ⟨_, rfl, ⟨rfl, fun e => (ns hix e).elim, fun h => absurd h16 h, fun i e _ => by have q := se hix e; subst q; rw [if_pos h28]⟩⟩
    · simp only [Int32.toInt_toInt64, Int64.reduceToInt] at h16
      refine r_ldc hX dX8_ask_19 kc_X8_84 (RR.pc (b := 21) rfl ?_)
      exact r_iret hX hZ dX8_ask_21 ⟨_, rfl, ⟨rfl, fun _ => rfl, fun _ => rfl, fun i e h => by first | exact absurd h h16 | (obtain ⟨q1, rfl⟩ := ix_lt e (by omega); exact absurd ⟨by rw [nI_toInt (by omega)]; omega, by rw [nI_toInt (by omega)]; omega⟩ h4)⟩⟩
set_option maxHeartbeats 4000000 in
set_option maxRecDepth 100000 in
theorem c_X8_item {G : GM} {σ : SG} {slot place : Int32} (hz : ∀ i, i < 5 → ∃ z : Nat, z ≤ 24 ∧ σ 29 i = nI z) : CI G yX8_item cX8_item 4 (some .int) 2 [rf G 109, .int slot, .int place] σ (fun r s => s = σ ∧ (ix slot 5 = none → r = vBAD) ∧ (∀ i, ix slot 5 = some i → r = if σ 26 i = 2 then (match ix place (σ 29 i).toNatClampNeg with | none => vINDEX | some p => if σ 30 (24 * i + p) = vNONE then vKIND else σ 30 (24 * i + p)) else if σ 26 i = 0 then vNOTH else vKIND)) := by
  refine Con.of cd_X8_item (Nat.le_of_ble_eq_true rfl) ?_
  intro X hX hZ
  have hX : Fx X G RX8 cX8_item 4 2 := hX
  show RR X G 4 0 (ll [(0, rf G 109), (1, .int slot), (2, .int place)]) [] σ
  refine r_iload_n (i := 0) hX dX8_item_0 rfl (RR.pc (b := 1) rfl ?_)
  refine r_callSie hX dX8_item_1 ml_X8_300 cd_X8_isSlot st_X8_isSlot c_X8_isSlot (by decide) rfl rfl (Nat.le_of_ble_eq_true rfl) (RR.pc (b := 4) rfl ?_)
  refine r_if_ne_b (tgt := 10) hX dX8_item_4 rfl (fun h4 => ?_) (fun h4 => RR.pc (b := 7) rfl ?_)
  · obtain ⟨a, ha, rfl⟩ := ix_of (n := 5) (k := slot) ⟨by omega, by omega⟩ (by omega)
    have hix := ix_some (n := 5) ha (by omega)
    obtain ⟨z, hz1, hz2⟩ := hz a ha
    refine r_aload_n hX dX8_item_10 rfl ⟨_, rfl⟩ (RR.pc (b := 11) rfl ?_)
    refine r_getr hX dX8_item_11 fl_X8_28 (by first | rfl | assumption) rfl (RR.pc (b := 14) rfl ?_)
    refine r_iload_n (i := 0) hX dX8_item_14 rfl (RR.pc (b := 15) rfl ?_)
    refine r_iald hX dX8_item_15 (by first | rfl | assumption) rfl (by omega) (by decide) (by first | exact Nat.zero_add _ | rfl) (RR.pc (b := 16) rfl ?_)
    refine r_iconst (v := 2) hX dX8_item_16 (by decide) (RR.pc (b := 17) rfl ?_)
    refine r_icmp_eq (tgt := 38) hX dX8_item_17 rfl (fun h17 => ?_) (fun h17 => RR.pc (b := 20) rfl ?_)
    · refine r_iload_n (i := 0) hX dX8_item_38 rfl (RR.pc (b := 39) rfl ?_)
      refine r_i2l hX dX8_item_39 (RR.pc (b := 40) rfl ?_)
      refine r_lconst (v := 0) hX dX8_item_40 rfl (RR.pc (b := 41) rfl ?_)
      refine r_aload_n hX dX8_item_41 rfl ⟨_, rfl⟩ (RR.pc (b := 42) rfl ?_)
      refine r_getr hX dX8_item_42 fl_X8_37 (by first | rfl | assumption) rfl (RR.pc (b := 45) rfl ?_)
      refine r_iload_n (i := 0) hX dX8_item_45 rfl (RR.pc (b := 46) rfl ?_)
      refine r_iald hX dX8_item_46 (by first | rfl | assumption) rfl (by omega) (by decide) (by first | exact Nat.zero_add _ | rfl) (RR.pc (b := 47) rfl ?_)
      rw [hz2]
      refine r_iconst (v := 1) hX dX8_item_47 (by decide) (RR.pc (b := 48) rfl ?_)
      refine r_isub hX dX8_item_48 (RR.pc (b := 49) rfl ?_)
      refine r_i2l hX dX8_item_49 (RR.pc (b := 50) rfl ?_)
      refine r_callSie hX dX8_item_50 ml_X8_65 cd_X8_isIn st_X8_isIn c_X8_isIn (by decide) rfl rfl (Nat.le_of_ble_eq_true rfl) (RR.pc (b := 53) rfl ?_)
      refine r_if_ne_b (tgt := 60) hX dX8_item_53 rfl (fun h53 => ?_) (fun h53 => RR.pc (b := 56) rfl ?_)
      · simp only [Int32.toInt_toInt64, Int64.reduceToInt] at h53
        rw [sub1_toInt (by omega)] at h53
        obtain ⟨p, hp, rfl⟩ := ix_of (n := z) (k := place) ⟨by omega, by omega⟩ (by omega)
        refine r_aload_n hX dX8_item_60 rfl ⟨_, rfl⟩ (RR.pc (b := 61) rfl ?_)
        refine r_getr hX dX8_item_61 fl_X8_40 (by first | rfl | assumption) rfl (RR.pc (b := 64) rfl ?_)
        refine r_bipush (v := 24) hX dX8_item_64 (by decide) (RR.pc (b := 66) rfl ?_)
        refine r_iload_n (i := 0) hX dX8_item_66 rfl (RR.pc (b := 67) rfl ?_)
        refine r_imul hX dX8_item_67 (RR.pc (b := 68) rfl ?_)
        refine r_iload_n (i := 0) hX dX8_item_68 rfl (RR.pc (b := 69) rfl ?_)
        refine r_iadd hX dX8_item_69 (RR.pc (b := 70) rfl ?_)
        refine r_iald hX dX8_item_70 (by first | rfl | assumption) (ix24 a p) (by omega) (by decide) (by first | exact Nat.zero_add _ | rfl) (RR.pc (b := 71) rfl ?_)
        refine r_istore_n hX dX8_item_71 (by decide) (RR.pc (b := 72) rfl ?_)
        refine r_iload_n (i := 0) hX dX8_item_72 rfl (RR.pc (b := 73) rfl ?_)
        refine r_ldc hX dX8_item_73 kc_X8_64 (RR.pc (b := 75) rfl ?_)
        refine r_icmp_ne (tgt := 83) hX dX8_item_75 rfl (fun h75 => ?_) (fun h75 => RR.pc (b := 78) rfl ?_)
        · refine r_iload_n (i := 0) hX dX8_item_83 rfl (RR.pc (b := 84) rfl ?_)
          exact r_iret hX hZ dX8_item_84 ⟨_, rfl, ⟨rfl, fun e => (ns hix e).elim, fun i e => by have q := se hix e; subst q; rw [if_pos h17, hz2, nI_clamp (by omega), ix_some hp (by omega)]; dsimp only; first | rw [if_pos h75] | rw [if_neg h75]⟩⟩
        · refine r_ldc hX dX8_item_78 kc_X8_121 (RR.pc (b := 80) rfl ?_)
          refine r_goto (tgt := 84) hX dX8_item_80 rfl ?_
          exact r_iret hX hZ dX8_item_84 ⟨_, rfl, ⟨rfl, fun e => (ns hix e).elim, fun i e => by have q := se hix e; subst q; rw [if_pos h17, hz2, nI_clamp (by omega), ix_some hp (by omega)]; dsimp only; first | rw [if_pos h75] | rw [if_neg h75]⟩⟩
      · simp only [Int32.toInt_toInt64, Int64.reduceToInt] at h53
        rw [sub1_toInt (by omega)] at h53
        refine r_ldcw hX dX8_item_56 kc_X8_292 (RR.pc (b := 59) rfl ?_)
        exact r_iret hX hZ dX8_item_59 ⟨_, rfl, ⟨rfl, fun e => (ns hix e).elim, fun i e => by have q := se hix e; subst q; rw [if_pos h17, hz2, nI_clamp (by omega), ix_none (by omega)]⟩⟩
    · refine r_aload_n hX dX8_item_20 rfl ⟨_, rfl⟩ (RR.pc (b := 21) rfl ?_)
      refine r_getr hX dX8_item_21 fl_X8_28 (by first | rfl | assumption) rfl (RR.pc (b := 24) rfl ?_)
      refine r_iload_n (i := 0) hX dX8_item_24 rfl (RR.pc (b := 25) rfl ?_)
      refine r_iald hX dX8_item_25 (by first | rfl | assumption) rfl (by omega) (by decide) (by first | exact Nat.zero_add _ | rfl) (RR.pc (b := 26) rfl ?_)
      refine r_if_ne (tgt := 35) hX dX8_item_26 rfl (fun h26 => ?_) (fun h26 => RR.pc (b := 29) rfl ?_)
      · refine r_ldc hX dX8_item_35 kc_X8_121 (RR.pc (b := 37) rfl ?_)
        exact r_iret hX hZ dX8_item_37 ⟨_, rfl, ⟨rfl, fun e => (ns hix e).elim, fun i e => by have q := se hix e; subst q; rw [if_neg h17]; first | rw [if_pos h26] | rw [if_neg h26]⟩⟩
      · refine r_ldcw hX dX8_item_29 kc_X8_291 (RR.pc (b := 32) rfl ?_)
        refine r_goto (tgt := 37) hX dX8_item_32 rfl ?_
        exact r_iret hX hZ dX8_item_37 ⟨_, rfl, ⟨rfl, fun e => (ns hix e).elim, fun i e => by have q := se hix e; subst q; rw [if_neg h17]; first | rw [if_pos h26] | rw [if_neg h26]⟩⟩
  · refine r_ldc hX dX8_item_7 kc_X8_84 (RR.pc (b := 9) rfl ?_)
    exact r_iret hX hZ dX8_item_9 ⟨_, rfl, ⟨rfl, fun _ => rfl, fun i e => by obtain ⟨q1, rfl⟩ := ix_lt e (by omega); exact absurd ⟨by rw [nI_toInt (by omega)]; omega, by rw [nI_toInt (by omega)]; omega⟩ h4⟩⟩
set_option maxHeartbeats 4000000 in
set_option maxRecDepth 100000 in
theorem c_X8_rest {G : GM} {σ : SG} {slot n : Int32} : CI G yX8_rest cX8_rest 3 (some .int) 2 [rf G 109, .int slot, .int n] σ (fun r s => s = σ ∧ (ix slot 5 = none → r = vBAD) ∧ (∀ i, ix slot 5 = some i → r = if σ 26 i = 3 then (if n = 0 then vNO else σ 27 i - σ 27 i / n * n) else if σ 26 i = 0 then vNOTH else vKIND)) := by
  refine Con.of cd_X8_rest (Nat.le_of_ble_eq_true rfl) ?_
  intro X hX hZ
  have hX : Fx X G RX8 cX8_rest 3 2 := hX
  show RR X G 3 0 (ll [(0, rf G 109), (1, .int slot), (2, .int n)]) [] σ
  refine r_iload_n (i := 0) hX dX8_rest_0 rfl (RR.pc (b := 1) rfl ?_)
  refine r_callSie hX dX8_rest_1 ml_X8_300 cd_X8_isSlot st_X8_isSlot c_X8_isSlot (by decide) rfl rfl (Nat.le_of_ble_eq_true rfl) (RR.pc (b := 4) rfl ?_)
  refine r_if_ne_b (tgt := 10) hX dX8_rest_4 rfl (fun h4 => ?_) (fun h4 => RR.pc (b := 7) rfl ?_)
  · obtain ⟨a, ha, rfl⟩ := ix_of (n := 5) (k := slot) ⟨by omega, by omega⟩ (by omega)
    have hix := ix_some (n := 5) ha (by omega)
    refine r_aload_n hX dX8_rest_10 rfl ⟨_, rfl⟩ (RR.pc (b := 11) rfl ?_)
    refine r_getr hX dX8_rest_11 fl_X8_28 (by first | rfl | assumption) rfl (RR.pc (b := 14) rfl ?_)
    refine r_iload_n (i := 0) hX dX8_rest_14 rfl (RR.pc (b := 15) rfl ?_)
    refine r_iald hX dX8_rest_15 (by first | rfl | assumption) rfl (by omega) (by decide) (by first | exact Nat.zero_add _ | rfl) (RR.pc (b := 16) rfl ?_)
    refine r_iconst (v := 3) hX dX8_rest_16 (by decide) (RR.pc (b := 17) rfl ?_)
    refine r_icmp_eq (tgt := 38) hX dX8_rest_17 rfl (fun h17 => ?_) (fun h17 => RR.pc (b := 20) rfl ?_)
    · refine r_iload_n (i := 0) hX dX8_rest_38 rfl (RR.pc (b := 39) rfl ?_)
      refine r_if_ne (tgt := 48) hX dX8_rest_39 rfl (fun h39 => ?_) (fun h39 => RR.pc (b := 42) rfl ?_)
      · refine r_aload_n hX dX8_rest_48 rfl ⟨_, rfl⟩ (RR.pc (b := 49) rfl ?_)
        refine r_getr hX dX8_rest_49 fl_X8_31 (by first | rfl | assumption) rfl (RR.pc (b := 52) rfl ?_)
        refine r_iload_n (i := 0) hX dX8_rest_52 rfl (RR.pc (b := 53) rfl ?_)
        refine r_iald hX dX8_rest_53 (by first | rfl | assumption) rfl (by omega) (by decide) (by first | exact Nat.zero_add _ | rfl) (RR.pc (b := 54) rfl ?_)
        refine r_iload_n (i := 0) hX dX8_rest_54 rfl (RR.pc (b := 55) rfl ?_)
        refine r_irem hX dX8_rest_55 h39 (RR.pc (b := 56) rfl ?_)
        exact r_iret hX hZ dX8_rest_56 ⟨_, rfl, ⟨rfl, fun e => (ns hix e).elim, fun i e => by have q := se hix e; subst q; rw [if_pos h17]; first | rw [if_pos h39] | rw [if_neg h39]⟩⟩
      · refine r_ldcw hX dX8_rest_42 kc_X8_303 (RR.pc (b := 45) rfl ?_)
        refine r_goto (tgt := 56) hX dX8_rest_45 rfl ?_
        exact r_iret hX hZ dX8_rest_56 ⟨_, rfl, ⟨rfl, fun e => (ns hix e).elim, fun i e => by have q := se hix e; subst q; rw [if_pos h17]; first | rw [if_pos h39] | rw [if_neg h39]⟩⟩
    · refine r_aload_n hX dX8_rest_20 rfl ⟨_, rfl⟩ (RR.pc (b := 21) rfl ?_)
      refine r_getr hX dX8_rest_21 fl_X8_28 (by first | rfl | assumption) rfl (RR.pc (b := 24) rfl ?_)
      refine r_iload_n (i := 0) hX dX8_rest_24 rfl (RR.pc (b := 25) rfl ?_)
      refine r_iald hX dX8_rest_25 (by first | rfl | assumption) rfl (by omega) (by decide) (by first | exact Nat.zero_add _ | rfl) (RR.pc (b := 26) rfl ?_)
      refine r_if_ne (tgt := 35) hX dX8_rest_26 rfl (fun h26 => ?_) (fun h26 => RR.pc (b := 29) rfl ?_)
      · refine r_ldc hX dX8_rest_35 kc_X8_121 (RR.pc (b := 37) rfl ?_)
        exact r_iret hX hZ dX8_rest_37 ⟨_, rfl, ⟨rfl, fun e => (ns hix e).elim, fun i e => by have q := se hix e; subst q; rw [if_neg h17]; first | rw [if_pos h26] | rw [if_neg h26]⟩⟩
      · refine r_ldcw hX dX8_rest_29 kc_X8_291 (RR.pc (b := 32) rfl ?_)
        refine r_goto (tgt := 37) hX dX8_rest_32 rfl ?_
        exact r_iret hX hZ dX8_rest_37 ⟨_, rfl, ⟨rfl, fun e => (ns hix e).elim, fun i e => by have q := se hix e; subst q; rw [if_neg h17]; first | rw [if_pos h26] | rw [if_neg h26]⟩⟩
  · refine r_ldc hX dX8_rest_7 kc_X8_84 (RR.pc (b := 9) rfl ?_)
    exact r_iret hX hZ dX8_rest_9 ⟨_, rfl, ⟨rfl, fun _ => rfl, fun i e => by obtain ⟨q1, rfl⟩ := ix_lt e (by omega); exact absurd ⟨by rw [nI_toInt (by omega)]; omega, by rw [nI_toInt (by omega)]; omega⟩ h4⟩⟩
