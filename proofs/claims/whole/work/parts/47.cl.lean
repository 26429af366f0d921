/-! the class: levels, pieces -/
def LvC (G : GM) (tp : Nat → Int32) (L : Nat) (key : Int32) (f : Nat) : Prop := ∀ (c o n : Nat) (st : St) (σ : SG), c ≤ 5 → o ≤ 8 → n ≤ 8 → VS tp L st → st.2.2.2.2.length ≤ st.2.1 → 13 * (L - st.2.1) + (6 - c) < f → PSC tp L key σ st → CI G yX5_readLevel cX5_readLevel 7 (some .boolean) (dpt o n + (6 - c)) [rf G 33, .int (nI c), .int (nI o), .int (nI n)] σ (PQ tp L key σ (ps tp L key f c o n st))
def PcC (G : GM) (tp : Nat → Int32) (L : Nat) (key : Int32) (f : Nat) : Prop := ∀ (o n : Nat) (st : St) (σ : SG), o ≤ 8 → n ≤ 8 → VS tp L st → st.2.2.2.2.length ≤ st.2.1 → 13 * (L - st.2.1) + 1 < f → PSC tp L key σ st → CI G yX5_readPiece cX5_readPiece 3 (some .boolean) (dpt o n) [rf G 33, .int (nI o), .int (nI n)] σ (PQ tp L key σ (ps tp L key f 5 o n st))
def LpC (G : GM) (tp : Nat → Int32) (L : Nat) (key : Int32) (f : Nat) : Prop := ∀ (X : CX) (c o n : Nat) (st : St) (σ σ0 : SG) (i : Nat), Fx X G RX5 cX5_readLevel 7 (dpt o n + (6 - c)) → MZ X G (some .boolean) (fun v s => ∃ r, v = some (.int r) ∧ PQ tp L key σ0 (ps tp L key f (c + 6) o n st) r s) → c < 5 → o ≤ 8 → n ≤ 8 → VS tp L st → st.2.2.2.2.length ≤ st.2.1 → 13 * (L - st.2.1) < f → PSC tp L key σ st → PF σ0 σ → i ≤ st.2.1 → (c = 2 → i = 0) → RR X G 7 42 (ll [(0, rf G 33), (1, .int (nI c)), (2, .int (nI o)), (3, .int (nI n)), (4, .int (if c = 2 then 1 else 96)), (5, .int (nI i))]) [] σ
theorem NW.len {key : Int32} {c : Nat} {st s : St} (h : NW key c st s) (hl : st.2.2.2.2.length ≤ st.2.1) : s.2.2.2.2.length ≤ s.2.1 ∧ s.2.2.2.2.length + st.2.1 ≤ st.2.2.2.2.length + s.2.1 := by
  obtain ⟨a1, a2, new, b1, b2, _⟩ := h
  rw [b1, List.length_append]
  omega
theorem sgI : ∀ c, c < 5 → (if nI c = 0 then 6 else if nI c = 1 then 7 else if nI c = 2 then 8 else if nI c = 3 then 9 else 10) = 6 + c := by decide +kernel
theorem mostI : ∀ c, c < 5 → (if nI c = 2 then (1 : Int32) else 96) = if c = 2 then 1 else 96 := by decide +kernel
set_option maxHeartbeats 4000000 in
set_option maxRecDepth 100000 in
theorem pcC_step {G : GM} {tp : Nat → Int32} {L : Nat} {key : Int32} {f o n : Nat} {st : St} {σ : SG} (hk : key = 0 ∨ key = 1 ∨ key = 2) (iA : LvC G tp L key f) (iB : PcC G tp L key f) (ho : o ≤ 8) (hn : n ≤ 8) (hV : VS tp L st) (hl : st.2.2.2.2.length ≤ st.2.1) (hm : 13 * (L - st.2.1) + 1 < f + 1) (h : PSC tp L key σ st) : CI G yX5_readPiece cX5_readPiece 3 (some .boolean) (dpt o n) [rf G 33, .int (nI o), .int (nI n)] σ (PQ tp L key σ (ps tp L key (f + 1) 5 o n st)) := by
  refine Con.of cd_X5_readPiece (Nat.le_of_ble_eq_true rfl) ?_
  intro X hX hZ
  have hX : Fx X G RX5 cX5_readPiece 3 (dpt o n) := hX
  show RR X G 3 0 (ll [(0, rf G 33), (1, .int (nI o)), (2, .int (nI n))]) [] σ
  have h96 := h.1.1
  have hdq : 10 ≤ dpt o n := by unfold dpt; omega
  have heL := hV.2.1
  have hk4 := hV.2.2.1
  have hb := hV.2.2.2.2.1
  obtain ⟨g1, g2⟩ := nx_VS (tp := tp) (L := L) (st := st) hV.2.1
  have g3 := g1.1
  rw [ps_pc] at hZ
  refine r_aload_n hX dX5_readPiece_0 rfl ⟨_, rfl⟩ (RR.pc (b := 1) rfl ?_)
  refine r_geti hX dX5_readPiece_1 fl_X5_23 (by first | rfl | assumption) rfl (RR.pc (b := 4) rfl ?_)
  rw [h.2.1.2.2]
  refine r_iconst (v := 3) hX dX5_readPiece_4 (by decide) (RR.pc (b := 5) rfl ?_)
  refine r_icmp_ne (tgt := 25) hX dX5_readPiece_5 rfl (fun h5 => ?_) (fun h5 => RR.pc (b := 8) rfl ?_)
  · have k3 : ¬ st.1 = 3 := fun z => h5 (by rw [z]; rfl)
    refine r_aload_n hX dX5_readPiece_25 rfl ⟨_, rfl⟩ (RR.pc (b := 26) rfl ?_)
    refine r_geti hX dX5_readPiece_26 fl_X5_23 (by first | rfl | assumption) rfl (RR.pc (b := 29) rfl ?_)
    rw [h.2.1.2.2]
    refine r_iconst (v := 2) hX dX5_readPiece_29 (by decide) (RR.pc (b := 30) rfl ?_)
    refine r_icmp_ne (tgt := 38) hX dX5_readPiece_30 rfl (fun h30 => ?_) (fun h30 => RR.pc (b := 33) rfl ?_)
    · have k2 : ¬ st.1 = 2 := fun z => h30 (by rw [z]; rfl)
      refine r_aload_n hX dX5_readPiece_38 rfl ⟨_, rfl⟩ (RR.pc (b := 39) rfl ?_)
      refine r_ldcS (i := 11) hX dX5_readPiece_39 (by decide) rfl (RR.pc (b := 41) rfl ?_)
      refine r_callVie hX dX5_readPiece_41 ml_X5_58 cd_X5_isOneOf iv_X5_isOneOf (c_X5_isOneOf (i := 11) h.1 h.2.1 hk4 (fun z => (hb (by omega)).1) (by decide)) (by omega) (by first | rfl | assumption) rfl rfl rfl rfl (Nat.le_of_ble_eq_true rfl) (RR.pc (b := 44) rfl ?_)
      refine r_if_eq_b (tgt := 54) hX dX5_readPiece_44 rfl (fun h44 => ?_) (fun h44 => RR.pc (b := 47) rfl ?_)
      · have k1 : ¬ (st.1 = 1 ∧ tp st.2.1 = 33) := fun z => h44 ⟨z.1, by rw [z.2]; exact List.mem_cons_self⟩
        refine r_aload_n hX dX5_readPiece_54 rfl ⟨_, rfl⟩ (RR.pc (b := 55) rfl ?_)
        refine r_ldcS (i := 12) hX dX5_readPiece_55 (by decide) rfl (RR.pc (b := 57) rfl ?_)
        refine r_callVie hX dX5_readPiece_57 ml_X5_58 cd_X5_isOneOf iv_X5_isOneOf (c_X5_isOneOf (i := 12) h.1 h.2.1 hk4 (fun z => (hb (by omega)).1) (by decide)) (by omega) (by first | rfl | assumption) rfl rfl rfl rfl (Nat.le_of_ble_eq_true rfl) (RR.pc (b := 60) rfl ?_)
        refine r_if_eq_b (tgt := 76) hX dX5_readPiece_60 rfl (fun h60 => ?_) (fun h60 => RR.pc (b := 63) rfl ?_)
        · refine r_iconst (v := 0) hX dX5_readPiece_76 (by decide) (RR.pc (b := 77) rfl ?_)
          exact r_zret hX hZ dX5_readPiece_77 (by first | rfl | exact nar_bz _) ⟨_, rfl, (by first | (rw [if_neg k3, if_neg k2, if_neg k1, if_neg (fun z => h60 ⟨z.1, by rw [z.2]; exact List.mem_cons_self⟩)]; exact ⟨rfl, h, PF.rf⟩) | (rw [if_neg k3, if_neg k2, if_neg k1, if_pos k0]; first | exact ⟨(bz_tt h69).symm, hp, hpf⟩ | exact ⟨(bz_ff h69).symm, hp, hpf⟩))⟩
        · have k0 : st.1 = 1 ∧ tp st.2.1 = 40 := ⟨h60.1, List.mem_singleton.mp h60.2⟩
          have hb1 := hb (by omega)
          refine r_aload_n hX dX5_readPiece_63 rfl ⟨_, rfl⟩ (RR.pc (b := 64) rfl ?_)
          refine r_iload_n (i := 0) hX dX5_readPiece_64 rfl (RR.pc (b := 65) rfl ?_)
          refine r_iload_n (i := 0) hX dX5_readPiece_65 rfl (RR.pc (b := 66) rfl ?_)
          refine r_callVi hX dX5_readPiece_66 ml_X5_90 cd_X5_readBrackets iv_X5_readBrackets (c_X5_readBrackets (f := f) h hV h96 ho hn (fun s o8 hs => iA 0 (o + 1) n (nx tp L st) s (by omega) (by omega) hn g1 (by show st.2.2.2.2.length ≤ _; omega) (by omega) hs)) (by omega) (by first | rfl | assumption) rfl rfl rfl rfl (Nat.le_of_ble_eq_true rfl) (fun r_66 s_66 e_66 => RR.pc (b := 69) rfl ?_)
          obtain ⟨rfl, hp, hpf⟩ := e_66
          refine r_if_eq_b (tgt := 76) hX dX5_readPiece_69 rfl (fun h69 => ?_) (fun h69 => RR.pc (b := 72) rfl ?_)
          · refine r_iconst (v := 0) hX dX5_readPiece_76 (by decide) (RR.pc (b := 77) rfl ?_)
            exact r_zret hX hZ dX5_readPiece_77 (by first | rfl | exact nar_bz _) ⟨_, rfl, (by first | (rw [if_neg k3, if_neg k2, if_neg k1, if_neg (fun z => h60 ⟨z.1, by rw [z.2]; exact List.mem_cons_self⟩)]; exact ⟨rfl, h, PF.rf⟩) | (rw [if_neg k3, if_neg k2, if_neg k1, if_pos k0]; first | exact ⟨(bz_tt h69).symm, hp, hpf⟩ | exact ⟨(bz_ff h69).symm, hp, hpf⟩))⟩
          · refine r_iconst (v := 1) hX dX5_readPiece_72 (by decide) (RR.pc (b := 73) rfl ?_)
            refine r_goto (tgt := 77) hX dX5_readPiece_73 rfl ?_
            exact r_zret hX hZ dX5_readPiece_77 (by first | rfl | exact nar_bz _) ⟨_, rfl, (by first | (rw [if_neg k3, if_neg k2, if_neg k1, if_neg (fun z => h60 ⟨z.1, by rw [z.2]; exact List.mem_cons_self⟩)]; exact ⟨rfl, h, PF.rf⟩) | (rw [if_neg k3, if_neg k2, if_neg k1, if_pos k0]; first | exact ⟨(bz_tt h69).symm, hp, hpf⟩ | exact ⟨(bz_ff h69).symm, hp, hpf⟩))⟩
      · have k1 : st.1 = 1 ∧ tp st.2.1 = 33 := ⟨h44.1, List.mem_singleton.mp h44.2⟩
        have hb1 := hb (by omega)
        refine r_aload_n hX dX5_readPiece_47 rfl ⟨_, rfl⟩ (RR.pc (b := 48) rfl ?_)
        refine r_iload_n (i := 0) hX dX5_readPiece_48 rfl (RR.pc (b := 49) rfl ?_)
        refine r_iload_n (i := 0) hX dX5_readPiece_49 rfl (RR.pc (b := 50) rfl ?_)
        refine r_callVi hX dX5_readPiece_50 ml_X5_85 cd_X5_readNot iv_X5_readNot (c_X5_readNot (f := f) h hV hl h96 ho hn k1.1 (fun s n8 hs => iB o (n + 1) (nx tp L st) s ho (by omega) g1 (by show st.2.2.2.2.length ≤ _; omega) (by omega) hs)) (by omega) (by first | rfl | assumption) rfl rfl rfl rfl (Nat.le_of_ble_eq_true rfl) (fun r_50 s_50 e_50 => RR.pc (b := 53) rfl ?_)
        obtain ⟨rfl, hp, hpf⟩ := e_50
        exact r_zret hX hZ dX5_readPiece_53 (by first | rfl | exact nar_bz _) ⟨_, rfl, (by rw [if_neg k3, if_neg k2, if_pos k1]; exact ⟨rfl, hp, hpf⟩)⟩
    · have k2 : st.1 = 2 := (nI_eq (b := 2) (by omega) (by omega)).mp h30
      refine r_aload_n hX dX5_readPiece_33 rfl ⟨_, rfl⟩ (RR.pc (b := 34) rfl ?_)
      refine r_callVi hX dX5_readPiece_34 ml_X5_80 cd_X5_readName iv_X5_readName (c_X5_readName hk h hV hl k2) (by omega) (by first | rfl | assumption) rfl rfl rfl rfl (Nat.le_of_ble_eq_true rfl) (fun r_34 s_34 e_34 => RR.pc (b := 37) rfl ?_)
      obtain ⟨rfl, hp, hpf⟩ := e_34
      exact r_zret hX hZ dX5_readPiece_37 (by first | rfl | exact nar_bz _) ⟨_, rfl, (by rw [if_neg k3, if_pos k2]; exact ⟨rfl, hp, hpf⟩)⟩
  · have k3 : st.1 = 3 := (nI_eq (b := 3) (by omega) (by omega)).mp h5
    have hb3 := hb (by omega)
    refine r_aload_n hX dX5_readPiece_8 rfl ⟨_, rfl⟩ (RR.pc (b := 9) rfl ?_)
    refine r_getr hX dX5_readPiece_9 fl_X5_15 (by first | rfl | assumption) rfl (RR.pc (b := 12) rfl ?_)
    refine r_aload_n hX dX5_readPiece_12 rfl ⟨_, rfl⟩ (RR.pc (b := 13) rfl ?_)
    refine r_callVie hX dX5_readPiece_13 ml_X5_73 cd_X5_number iv_X5_number (c_X5_number h.1 h.2.1 (by omega) heL) (by omega) (by first | rfl | assumption) rfl rfl rfl rfl (Nat.le_of_ble_eq_true rfl) (RR.pc (b := 16) rfl ?_)
    refine r_callVv hX dX5_readPiece_16 ml_X5_77 cd_X4_addNumber iv_X4_addNumber (c_X4_addNumber h.2.2 (by omega)) (by omega) (by first | rfl | assumption) rfl rfl rfl rfl (Nat.le_of_ble_eq_true rfl) (fun s_16 e_16 => RR.pc (b := 19) rfl ?_)
    obtain ⟨f', rfl, hf, hff⟩ := e_16
    refine r_aload_n hX dX5_readPiece_19 rfl ⟨_, rfl⟩ (RR.pc (b := 20) rfl ?_)
    refine r_callVv hX dX5_readPiece_20 ml_X5_26 cd_X5_stepOn iv_X5_stepOn (c_step (st := addLf st (0, numF tp st.2.1 (st.2.2.1 - st.2.1))) (h.w3 rfl rfl rfl hf) hV) (by omega) (by first | rfl | assumption) rfl rfl rfl rfl (Nat.le_of_ble_eq_true rfl) (fun s_20 e_20 => RR.pc (b := 23) rfl ?_)
    obtain ⟨hp, hpf⟩ := e_20
    refine r_iconst (v := 1) hX dX5_readPiece_23 (by decide) (RR.pc (b := 24) rfl ?_)
    exact r_zret hX hZ dX5_readPiece_24 (by first | rfl | exact nar_bz _) ⟨_, rfl, (by rw [if_pos k3]; exact ⟨rfl, hp, (PF.w3 hff).tr hpf⟩)⟩
set_option maxHeartbeats 4000000 in
set_option maxRecDepth 100000 in
theorem lvC_step {G : GM} {tp : Nat → Int32} {L : Nat} {key : Int32} {f c o n : Nat} {st : St} {σ : SG} (iA : LvC G tp L key f) (iC : LpC G tp L key f) (iB : PcC G tp L key (f + 1)) (hc : c ≤ 5) (ho : o ≤ 8) (hn : n ≤ 8) (hV : VS tp L st) (hl : st.2.2.2.2.length ≤ st.2.1) (hm : 13 * (L - st.2.1) + (6 - c) < f + 1) (h : PSC tp L key σ st) : CI G yX5_readLevel cX5_readLevel 7 (some .boolean) (dpt o n + (6 - c)) [rf G 33, .int (nI c), .int (nI o), .int (nI n)] σ (PQ tp L key σ (ps tp L key (f + 1) c o n st)) := by
  refine Con.of cd_X5_readLevel (Nat.le_of_ble_eq_true rfl) ?_
  intro X hX hZ
  have hX : Fx X G RX5 cX5_readLevel 7 (dpt o n + (6 - c)) := hX
  show RR X G 7 0 (ll [(0, rf G 33), (1, .int (nI c)), (2, .int (nI o)), (3, .int (nI n))]) [] σ
  have h96 := h.1.1
  have hdq : 10 ≤ dpt o n := by unfold dpt; omega
  by_cases c5 : c = 5
  · subst c5
    refine r_iload_n (i := 0) hX dX5_readLevel_0 rfl (RR.pc (b := 1) rfl ?_)
    refine r_iconst (v := 5) hX dX5_readLevel_1 (by decide) (RR.pc (b := 2) rfl ?_)
    refine r_icmp_lt (tgt := 12) hX dX5_readLevel_2 rfl (fun h2 => absurd h2 (nI_nlt (a := 5) (b := 5) (by omega) (by omega))) (fun h2 => RR.pc (b := 5) rfl ?_)
    refine r_aload_n hX dX5_readLevel_5 rfl ⟨_, rfl⟩ (RR.pc (b := 6) rfl ?_)
    refine r_iload_n (i := 0) hX dX5_readLevel_6 rfl (RR.pc (b := 7) rfl ?_)
    refine r_iload_n (i := 0) hX dX5_readLevel_7 rfl (RR.pc (b := 8) rfl ?_)
    refine r_callVi hX dX5_readLevel_8 ml_X5_51 cd_X5_readPiece iv_X5_readPiece (iB o n st σ ho hn hV hl (by omega) h) (by omega) (by first | rfl | assumption) rfl rfl rfl rfl (Nat.le_of_ble_eq_true rfl) (fun r_8 s_8 e_8 => RR.pc (b := 11) rfl ?_)
    obtain ⟨rfl, hp, hpf⟩ := e_8
    exact r_zret hX hZ dX5_readLevel_11 (by first | rfl | exact nar_bz _) ⟨_, rfl, ⟨rfl, hp, hpf⟩⟩
  · have c5' : c < 5 := by omega
    have hd1 : dpt o n + (6 - (c + 1)) + 1 ≤ dpt o n + (6 - c) := by omega
    refine r_iload_n (i := 0) hX dX5_readLevel_0 rfl (RR.pc (b := 1) rfl ?_)
    refine r_iconst (v := 5) hX dX5_readLevel_1 (by decide) (RR.pc (b := 2) rfl ?_)
    refine r_icmp_lt (tgt := 12) hX dX5_readLevel_2 rfl (fun h2 => ?_) (fun h2 => absurd (nI_lt (b := 5) c5' (by omega)) h2)
    refine r_aload_n hX dX5_readLevel_12 rfl ⟨_, rfl⟩ (RR.pc (b := 13) rfl ?_)
    refine r_iload_n (i := 0) hX dX5_readLevel_13 rfl (RR.pc (b := 14) rfl ?_)
    refine r_iconst (v := 1) hX dX5_readLevel_14 (by decide) (RR.pc (b := 15) rfl ?_)
    refine r_iadd hX dX5_readLevel_15 (RR.pc (b := 16) rfl ?_)
    rw [nI_1]
    refine r_iload_n (i := 0) hX dX5_readLevel_16 rfl (RR.pc (b := 17) rfl ?_)
    refine r_iload_n (i := 0) hX dX5_readLevel_17 rfl (RR.pc (b := 18) rfl ?_)
    have hok := ps_ok (tp := tp) (L := L) (key := key) f (c + 1) o n st
    have eF := ps_lvF (tp := tp) (L := L) (key := key) (f := f) (o := o) (n := n) (st := st) c5'
    have eT := ps_lvT (tp := tp) (L := L) (key := key) (f := f) (o := o) (n := n) (st := st) c5'
    have iA1 := iA (c + 1) o n st σ (by omega) ho hn hV hl (by omega) h
    generalize ps tp L key f (c + 1) o n st = R at hok eF eT iA1
    refine r_callVi hX dX5_readLevel_18 ml_X5_33 cd_X5_readLevel iv_X5_readLevel iA1 (by omega) (by first | rfl | assumption) rfl rfl rfl rfl (Nat.le_of_ble_eq_true rfl) (fun r_18 s_18 e_18 => RR.pc (b := 21) rfl ?_)
    obtain ⟨rfl, hp, hpf⟩ := e_18
    refine r_if_ne_b (tgt := 26) hX dX5_readLevel_21 rfl (fun h21 => ?_) (fun h21 => RR.pc (b := 24) rfl ?_)
    · rw [eT h21] at hZ
      have hok1 := hok R.2 (by omega) hV (by rw [← h21])
      have hb1 := hok1.2.2.1 (by omega)
      have hv1 := hok1.1.1
      refine r_iload_n (i := 0) hX dX5_readLevel_26 rfl (RR.pc (b := 27) rfl ?_)
      refine r_iconst (v := 2) hX dX5_readLevel_27 (by decide) (RR.pc (b := 28) rfl ?_)
      refine r_dia2 37 (if nI c = 2 then 1 else 96) (fun hj28 => ?_) ?_
      · refine r_icmp_ne (tgt := 35) hX dX5_readLevel_28 rfl (fun h28 => ?_) (fun h28 => RR.pc (b := 31) rfl ?_)
        · refine r_bipush (v := 96) hX dX5_readLevel_35 (by decide) (RR.pc (b := 37) rfl ?_)
          exact RR.eqt (congrArg (fun q => Value.int q :: _) (if_neg h28).symm) hj28
        · refine r_iconst (v := 1) hX dX5_readLevel_31 (by decide) (RR.pc (b := 32) rfl ?_)
          refine r_goto (tgt := 37) hX dX5_readLevel_32 rfl ?_
          exact RR.eqt (congrArg (fun q => Value.int q :: _) (if_pos h28).symm) hj28
      rw [mostI c c5']
      refine r_istore hX dX5_readLevel_37 (by decide) (RR.pc (b := 39) rfl ?_)
      refine r_iconst (v := 0) hX dX5_readLevel_39 (by decide) (RR.pc (b := 40) rfl ?_)
      refine r_istore hX dX5_readLevel_40 (by decide) (RR.pc (b := 42) rfl ?_)
      exact RR.cut (iC X c o n R.2 _ σ 0 hX hZ c5' ho hn hok1.1 (hok1.2.len hl).1 (by omega) hp hpf (by omega) (fun _ => rfl)) (List.forall_mem_cons.mpr ⟨rfl, List.forall_mem_cons.mpr ⟨rfl, List.forall_mem_cons.mpr ⟨rfl, List.forall_mem_cons.mpr ⟨rfl, List.forall_mem_cons.mpr ⟨rfl, List.forall_mem_cons.mpr ⟨rfl, fun _ h => absurd h List.not_mem_nil⟩⟩⟩⟩⟩⟩)
    · refine r_iconst (v := 0) hX dX5_readLevel_24 (by decide) (RR.pc (b := 25) rfl ?_)
      exact r_zret hX hZ dX5_readLevel_25 (by first | rfl | exact nar_bz _) ⟨_, rfl, (by rw [eF h21]; exact ⟨rfl, hp, hpf⟩)⟩
theorem lp_end {X : CX} {G : GM} {d : Nat} {σ : SG} {P : Int32 → SG → Prop} (hX : Fx X G RX5 cX5_readLevel 7 d) (hZ : MZ X G (some .boolean) (fun v s => ∃ r, v = some (.int r) ∧ P r s)) (h : P 1 σ) : RR X G 7 42 (ll [(4, .int 1), (5, .int (nI (0 + 1)))]) [] σ := by
  refine r_iload hX dX5_readLevel_42 rfl (RR.pc (b := 44) rfl ?_)
  refine r_iload hX dX5_readLevel_44 rfl (RR.pc (b := 46) rfl ?_)
  refine r_icmp_ge (tgt := 106) hX dX5_readLevel_46 rfl (fun h46 => ?_) (fun h46 => absurd (by decide) h46)
  refine r_iconst (v := 1) hX dX5_readLevel_106 (by decide) (RR.pc (b := 107) rfl ?_)
  exact r_zret hX hZ dX5_readLevel_107 (by first | rfl | exact nar_bz _) ⟨_, rfl, h⟩
theorem lpC_step {G : GM} {tp : Nat → Int32} {L : Nat} {key : Int32} {f : Nat} (iA : LvC G tp L key f) (iC : LpC G tp L key f) : LpC G tp L key (f + 1) := by
  intro X c o n st σ σ0 i hX hZ c5 ho hn hV hl hm h hpf0 hi hc2
  have h96 := h.1.1
  have hdq : 10 ≤ dpt o n := by unfold dpt; omega
  have hk4 := hV.2.2.1
  obtain ⟨g1, g2⟩ := nx_VS (tp := tp) (L := L) (st := st) hV.2.1
  have g3 := g1.1
  have eI := sgI c c5
  by_cases hc : st.1 = 1 ∧ tp st.2.1 ∈ sgL c
  · have hb := hV.2.2.2.2.1 (by omega)
    have hlt : ¬ (if c = 2 then (1 : Int32) else 96) ≤ nI i := by
      by_cases e : c = 2
      · rw [if_pos e, hc2 e]; decide
      · rw [if_neg e]; exact nI_ge (b := 96) (by omega) (by omega)
    refine r_iload hX dX5_readLevel_42 rfl (RR.pc (b := 44) rfl ?_)
    refine r_iload hX dX5_readLevel_44 rfl (RR.pc (b := 46) rfl ?_)
    refine r_icmp_ge (tgt := 106) hX dX5_readLevel_46 rfl (fun h46 => absurd h46 hlt) (fun h46 => RR.pc (b := 49) rfl ?_)
    refine r_aload_n hX dX5_readLevel_49 rfl ⟨_, rfl⟩ (RR.pc (b := 50) rfl ?_)
    refine r_iload_n (i := 0) hX dX5_readLevel_50 rfl (RR.pc (b := 51) rfl ?_)
    refine r_callSre hX dX5_readLevel_51 ml_X5_55 cd_X5_signsOf st_X5_signsOf (c_X5_signsOf (k := nI c)) (by omega) rfl rfl (Nat.le_of_ble_eq_true rfl) (RR.pc (b := 54) rfl ?_)
    rw [eI]
    rw [ps_lp hc] at hZ
    have hok := ps_ok (tp := tp) (L := L) (key := key) f (c + 1) o n (nx tp L st)
    have iA1 := fun s => iA (c + 1) o n (nx tp L st) s (by omega) ho hn g1 (by show st.2.2.2.2.length ≤ _; omega) (by omega)
    generalize ps tp L key f (c + 1) o n (nx tp L st) = R at hok hZ iA1
    have hd1 : dpt o n + (6 - (c + 1)) + 1 ≤ dpt o n + (6 - c) := by omega
    refine r_callVie hX dX5_readLevel_54 ml_X5_58 cd_X5_isOneOf iv_X5_isOneOf (c_X5_isOneOf (i := 6 + c) h.1 h.2.1 hk4 (fun z => hb.1) (by omega)) (by omega) (by first | rfl | assumption) rfl rfl rfl rfl (Nat.le_of_ble_eq_true rfl) (RR.pc (b := 57) rfl ?_)
    refine r_if_eq_b (tgt := 106) hX dX5_readLevel_57 rfl (fun h57 => absurd hc h57) (fun h57 => RR.pc (b := 60) rfl ?_)
    refine r_aload_n hX dX5_readLevel_60 rfl ⟨_, rfl⟩ (RR.pc (b := 61) rfl ?_)
    refine r_getr hX dX5_readLevel_61 fl_X5_9 (by first | rfl | assumption) rfl (RR.pc (b := 64) rfl ?_)
    refine r_aload_n hX dX5_readLevel_64 rfl ⟨_, rfl⟩ (RR.pc (b := 65) rfl ?_)
    refine r_geti hX dX5_readLevel_65 fl_X5_61 (by first | rfl | assumption) rfl (RR.pc (b := 68) rfl ?_)
    rw [h.2.1.1]
    refine r_callVi hX dX5_readLevel_68 ml_X5_64 cd_X3_byteAt iv_X3_byteAt (c_X3_byteAt (p := st.2.1) h.1 (by omega)) (by omega) (by first | rfl | assumption) rfl rfl rfl rfl (Nat.le_of_ble_eq_true rfl) (fun r_68 s_68 e_68 => RR.pc (b := 71) rfl ?_)
    obtain ⟨rfl, rfl⟩ := e_68
    rw [if_pos hb.1]
    refine r_istore hX dX5_readLevel_71 (by decide) (RR.pc (b := 73) rfl ?_)
    refine r_aload_n hX dX5_readLevel_73 rfl ⟨_, rfl⟩ (RR.pc (b := 74) rfl ?_)
    refine r_callVv hX dX5_readLevel_74 ml_X5_26 cd_X5_stepOn iv_X5_stepOn (c_step h hV) (by omega) (by first | rfl | assumption) rfl rfl rfl rfl (Nat.le_of_ble_eq_true rfl) (fun s_74 e_74 => RR.pc (b := 77) rfl ?_)
    obtain ⟨hp, hpf⟩ := e_74
    refine r_aload_n hX dX5_readLevel_77 rfl ⟨_, rfl⟩ (RR.pc (b := 78) rfl ?_)
    refine r_iload_n (i := 0) hX dX5_readLevel_78 rfl (RR.pc (b := 79) rfl ?_)
    refine r_iconst (v := 1) hX dX5_readLevel_79 (by decide) (RR.pc (b := 80) rfl ?_)
    refine r_iadd hX dX5_readLevel_80 (RR.pc (b := 81) rfl ?_)
    rw [nI_1]
    refine r_iload_n (i := 0) hX dX5_readLevel_81 rfl (RR.pc (b := 82) rfl ?_)
    refine r_iload_n (i := 0) hX dX5_readLevel_82 rfl (RR.pc (b := 83) rfl ?_)
    refine r_callVi hX dX5_readLevel_83 ml_X5_33 cd_X5_readLevel iv_X5_readLevel (iA1 _ hp) (by omega) (by first | rfl | assumption) rfl rfl rfl rfl (Nat.le_of_ble_eq_true rfl) (fun r_83 s_83 e_83 => RR.pc (b := 86) rfl ?_)
    obtain ⟨rfl, hp2, hpf2⟩ := e_83
    refine r_if_ne_b (tgt := 91) hX dX5_readLevel_86 rfl (fun h86 => ?_) (fun h86 => RR.pc (b := 89) rfl ?_)
    · rw [if_pos h86] at hZ
      have hok1 := hok R.2 (by omega) g1 (by rw [← h86])
      have hb1 := hok1.2.2.1 (by omega)
      have hv1 := hok1.1.1
      have hl1 := hok1.2.len (by show st.2.2.2.2.length ≤ _; omega)
      have hl2 : R.2.2.2.2.2.length + (nx tp L st).2.1 ≤ st.2.2.2.2.length + R.2.2.1 := hl1.2
      refine r_aload_n hX dX5_readLevel_91 rfl ⟨_, rfl⟩ (RR.pc (b := 92) rfl ?_)
      refine r_getr hX dX5_readLevel_92 fl_X5_15 (by first | rfl | assumption) rfl (RR.pc (b := 95) rfl ?_)
      refine r_iload hX dX5_readLevel_95 rfl (RR.pc (b := 97) rfl ?_)
      refine r_callVv hX dX5_readLevel_97 ml_X5_70 cd_X4_addSign iv_X4_addSign (c_X4_addSign (c := tp st.2.1) hp2.2.2 (by omega)) (by omega) (by first | rfl | assumption) rfl rfl rfl rfl (Nat.le_of_ble_eq_true rfl) (fun s_97 e_97 => RR.pc (b := 100) rfl ?_)
      obtain ⟨f', rfl, hf, hff⟩ := e_97
      refine r_iinc hX dX5_readLevel_100 rfl (by decide) (nI_1 i) (RR.pc (b := 103) rfl ?_)
      refine r_goto (tgt := 42) hX dX5_readLevel_103 rfl ?_
      have hp3 : PSC tp L key (sr s_83 3 f') (addSg R.2 (tp st.2.1)) := hp2.w3 rfl rfl rfl hf
      have hpf3 : PF σ0 (sr s_83 3 f') := ((hpf0.tr hpf).tr hpf2).tr (PF.w3 hff)
      by_cases e2 : c = 2
      · rw [if_pos e2] at hZ
        have i0 := hc2 e2
        subst i0
        rw [if_pos e2]
        exact RR.cut (lp_end hX hZ ⟨rfl, hp3, hpf3⟩) (List.forall_mem_cons.mpr ⟨rfl, List.forall_mem_cons.mpr ⟨rfl, fun _ h => absurd h List.not_mem_nil⟩⟩)
      · rw [if_neg e2] at hZ
        exact RR.cut (iC X c o n (addSg R.2 (tp st.2.1)) _ σ0 (i + 1) hX hZ c5 ho hn hok1.1 (by show (R.2.2.2.2.2 ++ [(2, tp st.2.1)]).length ≤ R.2.2.1; rw [List.length_append]; simp only [List.length_cons, List.length_nil]; omega) (by show 13 * (L - R.2.2.1) < f; omega) hp3 hpf3 (by show i + 1 ≤ R.2.2.1; omega) (fun z => absurd z e2)) (List.forall_mem_cons.mpr ⟨rfl, List.forall_mem_cons.mpr ⟨rfl, List.forall_mem_cons.mpr ⟨rfl, List.forall_mem_cons.mpr ⟨rfl, List.forall_mem_cons.mpr ⟨rfl, List.forall_mem_cons.mpr ⟨rfl, fun _ h => absurd h List.not_mem_nil⟩⟩⟩⟩⟩⟩)
    · refine r_iconst (v := 0) hX dX5_readLevel_89 (by decide) (RR.pc (b := 90) rfl ?_)
      exact r_zret hX hZ dX5_readLevel_90 (by first | rfl | exact nar_bz _) ⟨_, rfl, (by rw [if_neg h86]; exact ⟨rfl, hp2, (hpf0.tr hpf).tr hpf2⟩)⟩
  · rw [ps_lpN hc] at hZ
    have t106 : RR X G 7 106 (ll []) [] σ := by
      refine r_iconst (v := 1) hX dX5_readLevel_106 (by decide) (RR.pc (b := 107) rfl ?_)
      exact r_zret hX hZ dX5_readLevel_107 (by first | rfl | exact nar_bz _) ⟨_, rfl, ⟨rfl, h, hpf0⟩⟩
    refine r_iload hX dX5_readLevel_42 rfl (RR.pc (b := 44) rfl ?_)
    refine r_iload hX dX5_readLevel_44 rfl (RR.pc (b := 46) rfl ?_)
    refine r_icmp_ge (tgt := 106) hX dX5_readLevel_46 rfl (fun _ => RR.cut t106 (fun _ h => absurd h List.not_mem_nil)) (fun _ => RR.pc (b := 49) rfl ?_)
    refine r_aload_n hX dX5_readLevel_49 rfl ⟨_, rfl⟩ (RR.pc (b := 50) rfl ?_)
    refine r_iload_n (i := 0) hX dX5_readLevel_50 rfl (RR.pc (b := 51) rfl ?_)
    refine r_callSre hX dX5_readLevel_51 ml_X5_55 cd_X5_signsOf st_X5_signsOf (c_X5_signsOf (k := nI c)) (by omega) rfl rfl (Nat.le_of_ble_eq_true rfl) (RR.pc (b := 54) rfl ?_)
    rw [eI]
    refine r_callVie hX dX5_readLevel_54 ml_X5_58 cd_X5_isOneOf iv_X5_isOneOf (c_X5_isOneOf (i := 6 + c) h.1 h.2.1 hk4 (fun z => (hV.2.2.2.2.1 (by omega)).1) (by omega)) (by omega) (by first | rfl | assumption) rfl rfl rfl rfl (Nat.le_of_ble_eq_true rfl) (RR.pc (b := 57) rfl ?_)
    refine r_if_eq_b (tgt := 106) hX dX5_readLevel_57 rfl (fun h57 => ?_) (fun h57 => absurd h57 hc)
    exact RR.cut t106 (fun _ h => absurd h List.not_mem_nil)
theorem all_C {G : GM} {tp : Nat → Int32} {L : Nat} {key : Int32} (hk : key = 0 ∨ key = 1 ∨ key = 2) : ∀ f, LvC G tp L key f ∧ PcC G tp L key f ∧ LpC G tp L key f := by
  intro f
  induction f with
  | zero => exact ⟨fun _ _ _ _ _ _ _ _ _ _ h _ => absurd h (Nat.not_lt_zero _), fun _ _ _ _ _ _ _ _ h _ => absurd h (Nat.not_lt_zero _), fun _ _ _ _ _ _ _ _ _ _ _ _ _ _ _ h _ _ _ _ => absurd h (Nat.not_lt_zero _)⟩
  | succ f ih =>
    obtain ⟨iA, iB, iC⟩ := ih
    have hB : PcC G tp L key (f + 1) := fun o n st σ ho hn hV hl hm h => pcC_step hk iA iB ho hn hV hl hm h
    exact ⟨fun c o n st σ hc ho hn hV hl hm h => lvC_step iA iC hB hc ho hn hV hl hm h, hB, lpC_step iA iC⟩
