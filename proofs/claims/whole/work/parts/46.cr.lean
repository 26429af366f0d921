/-! the class: a text is read -/
section PSE
variable {tp : Nat → Int32} {L : Nat} {key : Int32} {f c o n : Nat} {st : St}
theorem ps_lvF (hc : c < 5) (h : ¬ (ps tp L key f (c + 1) o n st).1 = true) : ps tp L key (f + 1) c o n st = (false, (ps tp L key f (c + 1) o n st).2) := by
  rw [ps, if_pos hc]
  generalize ps tp L key f (c + 1) o n st = R at h
  obtain ⟨r, s⟩ := R
  cases r
  · rfl
  · exact absurd rfl h
theorem ps_lvT (hc : c < 5) (h : (ps tp L key f (c + 1) o n st).1 = true) : ps tp L key (f + 1) c o n st = ps tp L key f (c + 6) o n (ps tp L key f (c + 1) o n st).2 := by
  rw [ps, if_pos hc]
  generalize ps tp L key f (c + 1) o n st = R at h
  obtain ⟨r, s⟩ := R
  cases r
  · exact absurd h (by simp)
  · rfl
theorem ps_pc : ps tp L key (f + 1) 5 o n st = (if st.1 = 3 then (true, nx tp L (addLf st (0, numF tp st.2.1 (st.2.2.1 - st.2.1))))
      else if st.1 = 2 then (if st.2.2.1 - st.2.1 = 1 ∧ tp st.2.1 ∈ nmK key then (true, nx tp L (addLf st (1, tp st.2.1))) else (false, st))
      else if st.1 = 1 ∧ tp st.2.1 = 33 then (if n < 8 then (if (ps tp L key f 5 o (n + 1) (nx tp L st)).1 = true then (true, addSg (ps tp L key f 5 o (n + 1) (nx tp L st)).2 33) else (false, (ps tp L key f 5 o (n + 1) (nx tp L st)).2)) else (false, st))
      else if st.1 = 1 ∧ tp st.2.1 = 40 then (if o < 8 then (if (ps tp L key f 0 (o + 1) n (nx tp L st)).1 = true then (if (ps tp L key f 0 (o + 1) n (nx tp L st)).2.1 = 1 ∧ tp (ps tp L key f 0 (o + 1) n (nx tp L st)).2.2.1 = 41 then (true, nx tp L (ps tp L key f 0 (o + 1) n (nx tp L st)).2) else (false, (ps tp L key f 0 (o + 1) n (nx tp L st)).2)) else (false, (ps tp L key f 0 (o + 1) n (nx tp L st)).2)) else (false, st))
      else (false, st)) := by
  rw [ps, if_neg (by decide), if_pos rfl]
  generalize ps tp L key f 5 o (n + 1) (nx tp L st) = R1
  generalize ps tp L key f 0 (o + 1) n (nx tp L st) = R2
  obtain ⟨r1, s1⟩ := R1
  obtain ⟨r2, s2⟩ := R2
  cases r1 <;> cases r2 <;> rfl
theorem ps_lpN (h : ¬ (st.1 = 1 ∧ tp st.2.1 ∈ sgL c)) : ps tp L key (f + 1) (c + 6) o n st = (true, st) := by
  rw [ps, if_neg (by omega), if_neg (by omega), show c + 6 - 6 = c by omega, if_neg h]
theorem ps_lp (h : st.1 = 1 ∧ tp st.2.1 ∈ sgL c) : ps tp L key (f + 1) (c + 6) o n st = (if (ps tp L key f (c + 1) o n (nx tp L st)).1 = true then (if c = 2 then (true, addSg (ps tp L key f (c + 1) o n (nx tp L st)).2 (tp st.2.1)) else ps tp L key f (c + 6) o n (addSg (ps tp L key f (c + 1) o n (nx tp L st)).2 (tp st.2.1))) else (false, (ps tp L key f (c + 1) o n (nx tp L st)).2)) := by
  rw [ps, if_neg (by omega), if_neg (by omega), show c + 6 - 6 = c by omega, if_pos h, show c + 6 - 5 = c + 1 by omega]
  generalize ps tp L key f (c + 1) o n (nx tp L st) = R
  obtain ⟨r, s⟩ := R
  cases r
  · rfl
  · by_cases e : c = 2
    · rw [if_pos rfl, if_pos e]
      exact if_pos (by omega)
    · rw [if_pos rfl, if_neg e]
      exact if_neg (by omega)
end PSE
/-- the class's store holds a state of the reading -/
def PSC (tp : Nat → Int32) (L : Nat) (key : Int32) (σ : SG) (st : St) : Prop := TP σ tp L ∧ RS σ st.1 st.2.1 st.2.2.1 ∧ TC (σ 3) 14 (key, nI st.2.2.2.1, st.2.2.2.2)
def PQ (tp : Nat → Int32) (L : Nat) (key : Int32) (σ : SG) (R : Bool × St) (r : Int32) (s : SG) : Prop := r = bz (R.1 = true) ∧ PSC tp L key s R.2 ∧ PF σ s
theorem PSC.w3 {tp : Nat → Int32} {L : Nat} {key : Int32} {σ : SG} {st st' : St} {f : Nat → Int32} (h : PSC tp L key σ st) (e1 : st'.1 = st.1) (e2 : st'.2.1 = st.2.1) (e3 : st'.2.2.1 = st.2.2.1) (hT : TC f 14 (key, nI st'.2.2.2.1, st'.2.2.2.2)) : PSC tp L key (sr σ 3 f) st' := by
  refine ⟨h.1.same (sr_ne (by decide)), ?_, by rw [sr_eq]; exact hT⟩
  unfold RS
  rw [e1, e2, e3, sr_ne (by decide)]
  exact h.2.1
theorem c_step {G : GM} {tp : Nat → Int32} {L : Nat} {key : Int32} {σ : SG} {st : St} (h : PSC tp L key σ st) (hV : VS tp L st) : CU G yX5_stepOn cX5_stepOn 4 none 2 [rf G 33] σ (fun s => PSC tp L key s (nx tp L st) ∧ PF σ s) := by
  refine Con.mono (c_X5_stepOn h.1 h.2.1.2.1 h.2.1.2.2 hV.2.1 hV.2.2.1) ?_
  rintro v s ⟨e, hR, hs⟩
  exact ⟨e, ⟨h.1.same (hs 5 (by decide)), hR, by rw [hs 3 (by decide)]; exact h.2.2⟩, hs.mono (by simp), fun i _ => by rw [hs 3 (by decide)]⟩
theorem bz_tt {a : Bool} (h : a = true) : bz (a = true) = 1 := bz_t h
theorem bz_ff {a : Bool} (h : ¬ a = true) : bz (a = true) = 0 := bz_f h
def dpt (o n : Nat) : Nat := 8 * (8 - o) + 2 * (8 - n) + 10
/-- the names' places -/
theorem nm_ix {key v : Int32} (hk : key = 0 ∨ key = 1 ∨ key = 2) : (v ∈ nmK key → -1 - ixF v (kByt.getD (if key = 0 then 3 else if key = 1 then 4 else 5) []) 0 = encN key v) ∧ (v ∈ nmK key ↔ v ∈ kByt.getD (if key = 0 then 3 else if key = 1 then 4 else 5) []) := by
  rcases hk with rfl | rfl | rfl
  · refine ⟨fun h => ?_, Iff.rfl⟩
    have h : v ∈ [(104 : Int32), 112, 103] := h
    simp only [List.mem_cons, List.not_mem_nil, or_false] at h
    rcases h with rfl | rfl | rfl <;> decide +kernel
  · refine ⟨fun h => ?_, Iff.rfl⟩
    have h : v ∈ [(101 : Int32), 98] := h
    simp only [List.mem_cons, List.not_mem_nil, or_false] at h
    rcases h with rfl | rfl <;> decide +kernel
  · refine ⟨fun h => ?_, Iff.rfl⟩
    have h : v ∈ [(103 : Int32), 121] := h
    simp only [List.mem_cons, List.not_mem_nil, or_false] at h
    rcases h with rfl | rfl <;> decide +kernel
set_option maxHeartbeats 4000000 in
set_option maxRecDepth 100000 in
theorem c_X5_readName {G : GM} {σ : SG} {tp : Nat → Int32} {L : Nat} {key : Int32} {st : St} (hk : key = 0 ∨ key = 1 ∨ key = 2) (h : PSC tp L key σ st) (hV : VS tp L st) (hl : st.2.2.2.2.length ≤ st.2.1) (k2 : st.1 = 2) : CI G yX5_readName cX5_readName 2 (some .boolean) 7 [rf G 33] σ (PQ tp L key σ (if st.2.2.1 - st.2.1 = 1 ∧ tp st.2.1 ∈ nmK key then (true, nx tp L (addLf st (1, tp st.2.1))) else (false, st))) := by
  refine Con.of cd_X5_readName (Nat.le_of_ble_eq_true rfl) ?_
  intro X hX hZ
  have hX : Fx X G RX5 cX5_readName 2 7 := hX
  show RR X G 2 0 (ll [(0, rf G 33)]) [] σ
  have h96 := h.1.1
  have hb := hV.2.2.2.2.1 (by omega)
  have heL := hV.2.1
  obtain ⟨x, hx, ex⟩ := h.1.2.2.2 st.2.1 (by omega)
  obtain ⟨n1, n2⟩ := nm_ix (v := tp st.2.1) hk
  have hi : (if key = 0 then 3 else if key = 1 then 4 else 5) < 14 := by split; decide; split <;> decide
  have hl4 := kLen_lt _ hi
  generalize hI : (if key = 0 then 3 else if key = 1 then 4 else 5) = I at n1 n2 hi hl4
  refine r_aload_n hX dX5_readName_0 rfl ⟨_, rfl⟩ (RR.pc (b := 1) rfl ?_)
  refine r_getr hX dX5_readName_1 fl_X5_15 (by first | rfl | assumption) rfl (RR.pc (b := 4) rfl ?_)
  refine r_geti hX dX5_readName_4 fl_X5_93 (by first | rfl | assumption) rfl (RR.pc (b := 7) rfl ?_)
  refine r_callSre hX dX5_readName_7 ml_X5_96 cd_X5_namesOf st_X5_namesOf (c_X5_namesOf (k := σ 3 1497)) (by decide) rfl rfl (Nat.le_of_ble_eq_true rfl) (RR.pc (b := 10) rfl ?_)
  rw [show σ 3 1497 = key from h.2.2.2.1, hI]
  refine r_aload_n hX dX5_readName_10 rfl ⟨_, rfl⟩ (RR.pc (b := 11) rfl ?_)
  refine r_getr hX dX5_readName_11 fl_X5_9 (by first | rfl | assumption) rfl (RR.pc (b := 14) rfl ?_)
  refine r_aload_n hX dX5_readName_14 rfl ⟨_, rfl⟩ (RR.pc (b := 15) rfl ?_)
  refine r_geti hX dX5_readName_15 fl_X5_61 (by first | rfl | assumption) rfl (RR.pc (b := 18) rfl ?_)
  rw [h.2.1.1]
  refine r_callVi hX dX5_readName_18 ml_X5_64 cd_X3_byteAt iv_X3_byteAt (c_X3_byteAt (p := st.2.1) h.1 (by omega)) (by decide) (by first | rfl | assumption) rfl rfl rfl rfl (Nat.le_of_ble_eq_true rfl) (fun r_18 s_18 e_18 => RR.pc (b := 21) rfl ?_)
  obtain ⟨rfl, rfl⟩ := e_18
  rw [if_pos hb.1, ex]
  refine r_i2c hX dX5_readName_21 (RR.pc (b := 22) rfl ?_)
  rw [i2c_b x hx]
  refine r_callVKie hX dX5_readName_22 ml_X5_99 cd_J0_indexOf_0f7a4 iv_J0_indexOf_0f7a4 (c_J0_indexOf_0f7a4 hi hx) (by decide) (by assumption) rfl rfl rfl (Nat.le_of_ble_eq_true rfl) (RR.pc (b := 25) rfl ?_)
  refine r_istore_n hX dX5_readName_25 (by decide) (RR.pc (b := 26) rfl ?_)
  refine r_aload_n hX dX5_readName_26 rfl ⟨_, rfl⟩ (RR.pc (b := 27) rfl ?_)
  refine r_geti hX dX5_readName_27 fl_X5_19 (by first | rfl | assumption) rfl (RR.pc (b := 30) rfl ?_)
  rw [h.2.1.2.1]
  refine r_aload_n hX dX5_readName_30 rfl ⟨_, rfl⟩ (RR.pc (b := 31) rfl ?_)
  refine r_geti hX dX5_readName_31 fl_X5_61 (by first | rfl | assumption) rfl (RR.pc (b := 34) rfl ?_)
  rw [h.2.1.1]
  refine r_isub hX dX5_readName_34 (RR.pc (b := 35) rfl ?_)
  rw [pk_sub (by omega), ← ex]
  have nn := ixF_nn (c := tp st.2.1) (l := kByt.getD I []) (k := 0) (by omega)
  refine r_iconst (v := 1) hX dX5_readName_35 (by decide) (RR.pc (b := 36) rfl ?_)
  refine r_icmp_ne (tgt := 43) hX dX5_readName_36 rfl (fun h36 => ?_) (fun h36 => RR.pc (b := 39) rfl ?_)
  · refine r_iconst (v := 0) hX dX5_readName_43 (by decide) (RR.pc (b := 44) rfl ?_)
    exact r_zret hX hZ dX5_readName_44 (by first | rfl | exact nar_bz _) ⟨_, rfl, (by rw [if_neg (fun z => by first | exact h36 (by rw [z.1]; rfl) | exact absurd (Int32.not_le.mp h40) (fun y => (nn.mp y) (n2.mp z.2)))]; exact ⟨rfl, h, PF.rf⟩)⟩
  · refine r_iload_n (i := 0) hX dX5_readName_39 rfl (RR.pc (b := 40) rfl ?_)
    refine r_if_ge (tgt := 45) hX dX5_readName_40 rfl (fun h40 => ?_) (fun h40 => RR.pc (b := 43) rfl ?_)
    · refine r_aload_n hX dX5_readName_45 rfl ⟨_, rfl⟩ (RR.pc (b := 46) rfl ?_)
      refine r_getr hX dX5_readName_46 fl_X5_15 (by first | rfl | assumption) rfl (RR.pc (b := 49) rfl ?_)
      refine r_iload_n (i := 0) hX dX5_readName_49 rfl (RR.pc (b := 50) rfl ?_)
      refine r_callVv hX dX5_readName_50 ml_X5_104 cd_X4_addName iv_X4_addName (c_X4_addName (c := tp st.2.1) h.2.2 (by omega) (n1 (n2.mpr (Decidable.byContradiction (fun z => absurd (nn.mpr z) (Int32.not_lt.mpr h40)))))) (by decide) (by first | rfl | assumption) rfl rfl rfl rfl (Nat.le_of_ble_eq_true rfl) (fun s_50 e_50 => RR.pc (b := 53) rfl ?_)
      obtain ⟨f, rfl, hf, hff⟩ := e_50
      refine r_aload_n hX dX5_readName_53 rfl ⟨_, rfl⟩ (RR.pc (b := 54) rfl ?_)
      refine r_callVv hX dX5_readName_54 ml_X5_26 cd_X5_stepOn iv_X5_stepOn (c_step (st := addLf st (1, tp st.2.1)) (h.w3 rfl rfl rfl hf) hV) (by decide) (by first | rfl | assumption) rfl rfl rfl rfl (Nat.le_of_ble_eq_true rfl) (fun s_54 e_54 => RR.pc (b := 57) rfl ?_)
      obtain ⟨hp, hpf⟩ := e_54
      refine r_iconst (v := 1) hX dX5_readName_57 (by decide) (RR.pc (b := 58) rfl ?_)
      exact r_zret hX hZ dX5_readName_58 (by first | rfl | exact nar_bz _) ⟨_, rfl, (by rw [if_pos ⟨(nI_eq (b := 1) (by omega) (by omega)).mp h36, n2.mpr (Decidable.byContradiction (fun z => absurd (nn.mpr z) (Int32.not_lt.mpr h40)))⟩]; exact ⟨rfl, hp, (PF.w3 hff).tr hpf⟩)⟩
    · refine r_iconst (v := 0) hX dX5_readName_43 (by decide) (RR.pc (b := 44) rfl ?_)
      exact r_zret hX hZ dX5_readName_44 (by first | rfl | exact nar_bz _) ⟨_, rfl, (by rw [if_neg (fun z => by first | exact h36 (by rw [z.1]; rfl) | exact absurd (Int32.not_le.mp h40) (fun y => (nn.mp y) (n2.mp z.2)))]; exact ⟨rfl, h, PF.rf⟩)⟩
set_option maxHeartbeats 4000000 in
set_option maxRecDepth 100000 in
theorem c_X5_readNot {G : GM} {σ : SG} {tp : Nat → Int32} {L : Nat} {key : Int32} {f o n : Nat} {st : St} (h : PSC tp L key σ st) (hV : VS tp L st) (hl : st.2.2.2.2.length ≤ st.2.1) (hL : L ≤ 96) (ho : o ≤ 8) (hn : n ≤ 8) (k1 : st.1 = 1) (ih : ∀ s, n < 8 → PSC tp L key s (nx tp L st) → CI G yX5_readPiece cX5_readPiece 3 (some .boolean) (dpt o (n + 1)) [rf G 33, .int (nI o), .int (nI (n + 1))] s (PQ tp L key s (ps tp L key f 5 o (n + 1) (nx tp L st)))) : CI G yX5_readNot cX5_readNot 3 (some .boolean) (dpt o n - 1) [rf G 33, .int (nI o), .int (nI n)] σ (PQ tp L key σ (if n < 8 then (if (ps tp L key f 5 o (n + 1) (nx tp L st)).1 = true then (true, addSg (ps tp L key f 5 o (n + 1) (nx tp L st)).2 33) else (false, (ps tp L key f 5 o (n + 1) (nx tp L st)).2)) else (false, st))) := by
  refine Con.of cd_X5_readNot (Nat.le_of_ble_eq_true rfl) ?_
  intro X hX hZ
  have hX : Fx X G RX5 cX5_readNot 3 (dpt o n - 1) := hX
  show RR X G 3 0 (ll [(0, rf G 33), (1, .int (nI o)), (2, .int (nI n))]) [] σ
  have hb := hV.2.2.2.2.1 (by omega)
  by_cases n8 : n < 8
  · rw [if_pos n8] at hZ
    obtain ⟨g1, g2⟩ := nx_VS (tp := tp) (L := L) (st := st) hV.2.1
    generalize hR : ps tp L key f 5 o (n + 1) (nx tp L st) = R at hZ ih
    have hdp : dpt o (n + 1) + 2 ≤ dpt o n := by unfold dpt; omega
    have hdq : 10 ≤ dpt o n := by unfold dpt; omega
    refine r_iload_n (i := 0) hX dX5_readNot_0 rfl (RR.pc (b := 1) rfl ?_)
    refine r_bipush (v := 8) hX dX5_readNot_1 (by decide) (RR.pc (b := 3) rfl ?_)
    refine r_icmp_lt (tgt := 8) hX dX5_readNot_3 rfl (fun h3 => ?_) (fun h3 => absurd (nI_lt (b := 8) n8 (by omega)) h3)
    refine r_aload_n hX dX5_readNot_8 rfl ⟨_, rfl⟩ (RR.pc (b := 9) rfl ?_)
    refine r_callVv hX dX5_readNot_9 ml_X5_26 cd_X5_stepOn iv_X5_stepOn (c_step h hV) (by unfold dpt; omega) (by first | rfl | assumption) rfl rfl rfl rfl (Nat.le_of_ble_eq_true rfl) (fun s_9 e_9 => RR.pc (b := 12) rfl ?_)
    obtain ⟨hp, hpf⟩ := e_9
    refine r_aload_n hX dX5_readNot_12 rfl ⟨_, rfl⟩ (RR.pc (b := 13) rfl ?_)
    refine r_iload_n (i := 0) hX dX5_readNot_13 rfl (RR.pc (b := 14) rfl ?_)
    refine r_iload_n (i := 0) hX dX5_readNot_14 rfl (RR.pc (b := 15) rfl ?_)
    refine r_iconst (v := 1) hX dX5_readNot_15 (by decide) (RR.pc (b := 16) rfl ?_)
    refine r_iadd hX dX5_readNot_16 (RR.pc (b := 17) rfl ?_)
    rw [nI_1]
    refine r_callVi hX dX5_readNot_17 ml_X5_51 cd_X5_readPiece iv_X5_readPiece (ih _ n8 hp) (by omega) (by first | rfl | assumption) rfl rfl rfl rfl (Nat.le_of_ble_eq_true rfl) (fun r_17 s_17 e_17 => RR.pc (b := 20) rfl ?_)
    obtain ⟨rfl, hp2, hpf2⟩ := e_17
    refine r_if_ne_b (tgt := 25) hX dX5_readNot_20 rfl (fun h20 => ?_) (fun h20 => RR.pc (b := 23) rfl ?_)
    · have hok := ps_ok (tp := tp) (L := L) (key := key) f 5 o (n + 1) (nx tp L st) R.2 (by omega) g1 (by rw [hR, ← h20])
      refine r_aload_n hX dX5_readNot_25 rfl ⟨_, rfl⟩ (RR.pc (b := 26) rfl ?_)
      refine r_getr hX dX5_readNot_26 fl_X5_15 (by first | rfl | assumption) rfl (RR.pc (b := 29) rfl ?_)
      refine r_bipush (v := 33) hX dX5_readNot_29 (by decide) (RR.pc (b := 31) rfl ?_)
      refine r_callVv hX dX5_readNot_31 ml_X5_70 cd_X4_addSign iv_X4_addSign (c_X4_addSign (c := 33) hp2.2.2 (by obtain ⟨hv2, a1, a2, new, b1, b2, _⟩ := hok; rw [b1, List.length_append]; have a3 := a2 (by omega); have := hv2.1; have e0 : (nx tp L st).2.2.2.2 = st.2.2.2.2 := rfl; rw [e0]; omega)) (by omega) (by first | rfl | assumption) rfl rfl rfl rfl (Nat.le_of_ble_eq_true rfl) (fun s_31 e_31 => RR.pc (b := 34) rfl ?_)
      obtain ⟨f', rfl, hf, hff⟩ := e_31
      refine r_iconst (v := 1) hX dX5_readNot_34 (by decide) (RR.pc (b := 35) rfl ?_)
      exact r_zret hX hZ dX5_readNot_35 (by first | rfl | exact nar_bz _) ⟨_, rfl, (by rw [if_pos h20]; exact ⟨rfl, hp2.w3 rfl rfl rfl hf, (hpf.tr hpf2).tr (PF.w3 hff)⟩)⟩
    · refine r_iconst (v := 0) hX dX5_readNot_23 (by decide) (RR.pc (b := 24) rfl ?_)
      exact r_zret hX hZ dX5_readNot_24 (by first | rfl | exact nar_bz _) ⟨_, rfl, (by rw [if_neg h20]; exact ⟨rfl, hp2, hpf.tr hpf2⟩)⟩
  · rw [if_neg n8] at hZ
    refine r_iload_n (i := 0) hX dX5_readNot_0 rfl (RR.pc (b := 1) rfl ?_)
    refine r_bipush (v := 8) hX dX5_readNot_1 (by decide) (RR.pc (b := 3) rfl ?_)
    refine r_icmp_lt (tgt := 8) hX dX5_readNot_3 rfl (fun h3 => absurd h3 (nI_nlt (b := 8) (by omega) (by omega))) (fun h3 => RR.pc (b := 6) rfl ?_)
    refine r_iconst (v := 0) hX dX5_readNot_6 (by decide) (RR.pc (b := 7) rfl ?_)
    exact r_zret hX hZ dX5_readNot_7 (by first | rfl | exact nar_bz _) ⟨_, rfl, ⟨rfl, h, PF.rf⟩⟩
set_option maxHeartbeats 4000000 in
set_option maxRecDepth 100000 in
theorem c_X5_readBrackets {G : GM} {σ : SG} {tp : Nat → Int32} {L : Nat} {key : Int32} {f o n : Nat} {st : St} (h : PSC tp L key σ st) (hV : VS tp L st) (hL : L ≤ 96) (ho : o ≤ 8) (hn : n ≤ 8) (ih : ∀ s, o < 8 → PSC tp L key s (nx tp L st) → CI G yX5_readLevel cX5_readLevel 7 (some .boolean) (dpt (o + 1) n + 6) [rf G 33, .int (nI 0), .int (nI (o + 1)), .int (nI n)] s (PQ tp L key s (ps tp L key f 0 (o + 1) n (nx tp L st)))) : CI G yX5_readBrackets cX5_readBrackets 3 (some .boolean) (dpt o n - 1) [rf G 33, .int (nI o), .int (nI n)] σ (PQ tp L key σ (if o < 8 then (if (ps tp L key f 0 (o + 1) n (nx tp L st)).1 = true then (if (ps tp L key f 0 (o + 1) n (nx tp L st)).2.1 = 1 ∧ tp (ps tp L key f 0 (o + 1) n (nx tp L st)).2.2.1 = 41 then (true, nx tp L (ps tp L key f 0 (o + 1) n (nx tp L st)).2) else (false, (ps tp L key f 0 (o + 1) n (nx tp L st)).2)) else (false, (ps tp L key f 0 (o + 1) n (nx tp L st)).2)) else (false, st))) := by
  refine Con.of cd_X5_readBrackets (Nat.le_of_ble_eq_true rfl) ?_
  intro X hX hZ
  have hX : Fx X G RX5 cX5_readBrackets 3 (dpt o n - 1) := hX
  show RR X G 3 0 (ll [(0, rf G 33), (1, .int (nI o)), (2, .int (nI n))]) [] σ
  by_cases o8 : o < 8
  · rw [if_pos o8] at hZ
    obtain ⟨g1, g2⟩ := nx_VS (tp := tp) (L := L) (st := st) hV.2.1
    generalize hR : ps tp L key f 0 (o + 1) n (nx tp L st) = R at hZ ih
    have hdp : dpt (o + 1) n + 8 ≤ dpt o n := by unfold dpt; omega
    have hdq : 18 ≤ dpt o n := by unfold dpt; omega
    refine r_iload_n (i := 0) hX dX5_readBrackets_0 rfl (RR.pc (b := 1) rfl ?_)
    refine r_bipush (v := 8) hX dX5_readBrackets_1 (by decide) (RR.pc (b := 3) rfl ?_)
    refine r_icmp_lt (tgt := 8) hX dX5_readBrackets_3 rfl (fun h3 => ?_) (fun h3 => absurd (nI_lt (b := 8) o8 (by omega)) h3)
    refine r_aload_n hX dX5_readBrackets_8 rfl ⟨_, rfl⟩ (RR.pc (b := 9) rfl ?_)
    refine r_callVv hX dX5_readBrackets_9 ml_X5_26 cd_X5_stepOn iv_X5_stepOn (c_step h hV) (by omega) (by first | rfl | assumption) rfl rfl rfl rfl (Nat.le_of_ble_eq_true rfl) (fun s_9 e_9 => RR.pc (b := 12) rfl ?_)
    obtain ⟨hp, hpf⟩ := e_9
    refine r_aload_n hX dX5_readBrackets_12 rfl ⟨_, rfl⟩ (RR.pc (b := 13) rfl ?_)
    refine r_iconst (v := 0) hX dX5_readBrackets_13 (by decide) (RR.pc (b := 14) rfl ?_)
    refine r_iload_n (i := 0) hX dX5_readBrackets_14 rfl (RR.pc (b := 15) rfl ?_)
    refine r_iconst (v := 1) hX dX5_readBrackets_15 (by decide) (RR.pc (b := 16) rfl ?_)
    refine r_iadd hX dX5_readBrackets_16 (RR.pc (b := 17) rfl ?_)
    rw [nI_1]
    refine r_iload_n (i := 0) hX dX5_readBrackets_17 rfl (RR.pc (b := 18) rfl ?_)
    refine r_callVi hX dX5_readBrackets_18 ml_X5_33 cd_X5_readLevel iv_X5_readLevel (ih _ o8 hp) (by omega) (by first | rfl | assumption) rfl rfl rfl rfl (Nat.le_of_ble_eq_true rfl) (fun r_18 s_18 e_18 => RR.pc (b := 21) rfl ?_)
    obtain ⟨rfl, hp2, hpf2⟩ := e_18
    refine r_if_eq_b (tgt := 33) hX dX5_readBrackets_21 rfl (fun h21 => ?_) (fun h21 => RR.pc (b := 24) rfl ?_)
    · refine r_iconst (v := 0) hX dX5_readBrackets_33 (by decide) (RR.pc (b := 34) rfl ?_)
      exact r_zret hX hZ dX5_readBrackets_34 (by first | rfl | exact nar_bz _) ⟨_, rfl, (by first | (rw [if_neg h21]; exact ⟨rfl, hp2, hpf.tr hpf2⟩) | (rw [if_pos h21, if_neg (fun z => h30 ⟨z.1, by rw [z.2]; exact List.mem_cons_self⟩)]; exact ⟨rfl, hp2, hpf.tr hpf2⟩))⟩
    · have hok := ps_ok (tp := tp) (L := L) (key := key) f 0 (o + 1) n (nx tp L st) R.2 (by omega) g1 (by rw [hR, ← h21])
      refine r_aload_n hX dX5_readBrackets_24 rfl ⟨_, rfl⟩ (RR.pc (b := 25) rfl ?_)
      refine r_ldcS (i := 13) hX dX5_readBrackets_25 (by decide) rfl (RR.pc (b := 27) rfl ?_)
      refine r_callVie hX dX5_readBrackets_27 ml_X5_58 cd_X5_isOneOf iv_X5_isOneOf (c_X5_isOneOf (i := 13) hp2.1 hp2.2.1 hok.1.2.2.1 (fun z => (hok.1.2.2.2.2.1 (by omega)).1) (by decide)) (by omega) (by first | rfl | assumption) rfl rfl rfl rfl (Nat.le_of_ble_eq_true rfl) (RR.pc (b := 30) rfl ?_)
      refine r_if_ne_b (tgt := 35) hX dX5_readBrackets_30 rfl (fun h30 => ?_) (fun h30 => RR.pc (b := 33) rfl ?_)
      · refine r_aload_n hX dX5_readBrackets_35 rfl ⟨_, rfl⟩ (RR.pc (b := 36) rfl ?_)
        refine r_callVv hX dX5_readBrackets_36 ml_X5_26 cd_X5_stepOn iv_X5_stepOn (c_step hp2 hok.1) (by omega) (by first | rfl | assumption) rfl rfl rfl rfl (Nat.le_of_ble_eq_true rfl) (fun s_36 e_36 => RR.pc (b := 39) rfl ?_)
        obtain ⟨hp3, hpf3⟩ := e_36
        refine r_iconst (v := 1) hX dX5_readBrackets_39 (by decide) (RR.pc (b := 40) rfl ?_)
        exact r_zret hX hZ dX5_readBrackets_40 (by first | rfl | exact nar_bz _) ⟨_, rfl, (by rw [if_pos h21, if_pos ⟨h30.1, List.mem_singleton.mp h30.2⟩]; exact ⟨rfl, hp3, (hpf.tr hpf2).tr hpf3⟩)⟩
      · refine r_iconst (v := 0) hX dX5_readBrackets_33 (by decide) (RR.pc (b := 34) rfl ?_)
        exact r_zret hX hZ dX5_readBrackets_34 (by first | rfl | exact nar_bz _) ⟨_, rfl, (by first | (rw [if_neg h21]; exact ⟨rfl, hp2, hpf.tr hpf2⟩) | (rw [if_pos h21, if_neg (fun z => h30 ⟨z.1, by rw [z.2]; exact List.mem_cons_self⟩)]; exact ⟨rfl, hp2, hpf.tr hpf2⟩))⟩
  · rw [if_neg o8] at hZ
    refine r_iload_n (i := 0) hX dX5_readBrackets_0 rfl (RR.pc (b := 1) rfl ?_)
    refine r_bipush (v := 8) hX dX5_readBrackets_1 (by decide) (RR.pc (b := 3) rfl ?_)
    refine r_icmp_lt (tgt := 8) hX dX5_readBrackets_3 rfl (fun h3 => absurd h3 (nI_nlt (b := 8) (by omega) (by omega))) (fun h3 => RR.pc (b := 6) rfl ?_)
    refine r_iconst (v := 0) hX dX5_readBrackets_6 (by decide) (RR.pc (b := 7) rfl ?_)
    exact r_zret hX hZ dX5_readBrackets_7 (by first | rfl | exact nar_bz _) ⟨_, rfl, ⟨rfl, h, PF.rf⟩⟩
