/-! the reference: check, feed -/
def dueF (V : Int32 → Int32 → Int32 → Int32) (n : Nat) (w : Nat → Int32) (j : Nat) : Int32 := if j % 2 = 0 then sumW (minN V n w (j / 2 + 1)) 11 60 else minN V n w (j / 2 + 1) 4
/-- how long a row is right -/
def matN (wt du : Nat → Int32) : Nat → Nat
  | 0 => 0
  | k + 1 => if matN wt du k = k ∧ wt k = du k then k + 1 else matN wt du k
theorem matN_le {wt du : Nat → Int32} : ∀ k, matN wt du k ≤ k := by
  intro k
  induction k with
  | zero => exact Nat.le_refl _
  | succ k ih => unfold matN; split <;> omega
theorem matN_stop {wt du : Nat → Int32} {k : Nat} (h : matN wt du k = k) (hn : ¬ wt k = du k) : ∀ j, k < j → matN wt du j = k := by
  intro j
  induction j with
  | zero => intro h; omega
  | succ j ih =>
    intro hj
    unfold matN
    by_cases e : j = k
    · subst e
      rw [if_neg (fun z => hn z.2), h]
    · have := ih (by omega)
      rw [if_neg (fun z => by omega), this]
def chkA (wt du : Nat → Int32) (many due : Nat) : Int32 := if matN wt du (min many due) = many ∧ matN wt du (min many due) = due then 0 else nI (1 + matN wt du (min many due))
theorem RT.cp {w g : Nat → Int32} {Ts : Nat → Tx} {nt : Nat} (h : RT w Ts nt) : RT (cpL g w 2971) Ts nt := by
  have e : ∀ i, i < 2971 → cpL g w 2971 i = w i := fun i hi => if_pos hi
  obtain ⟨h1, h2, h3⟩ := h
  refine ⟨by rw [e 1 (by omega)]; exact h1, h2, fun t ht => ?_⟩
  obtain ⟨⟨a1, a2, a3, a4⟩, ho⟩ := h3 t ht
  have hl := ho.2.2.1
  exact ⟨⟨by rw [e _ (by omega)]; exact a1, by rw [e _ (by omega)]; exact a2, by rw [e _ (by omega)]; exact a3, fun k hk => ⟨by rw [e _ (by omega)]; exact (a4 k hk).1, by rw [e _ (by omega)]; exact (a4 k hk).2⟩⟩, ho⟩
theorem WO.cp {w g : Nat → Int32} {n m : Nat} (h : WO w n m) : WO (cpL g w 2971) n m := by
  have e : ∀ i, i < 2971 → cpL g w 2971 i = w i := fun i hi => if_pos hi
  obtain ⟨h0, h8, hM, hm, t, ht, et⟩ := h
  exact ⟨by rw [e _ (by omega)]; exact h0, h8, fun a ha => (hM a ha).congr (fun j hj => e _ (by omega)), by rw [e _ (by omega)]; exact hm, t, ht, by rw [e _ (by omega)]; exact et⟩
def chkF (V : Int32 → Int32 → Int32 → Int32) (n m : Nat) (w wt : Nat → Int32) (many : Nat) (q : Int32) : Int32 := chkA wt (dueF V n w) many (2 * min q.toNatClampNeg (9999 - m))
set_option maxHeartbeats 4000000 in
set_option maxRecDepth 100000 in
theorem c_X8_check {G : GM} {σ : SG} {Ts : Nat → Tx} {nt n m many : Nat} {q : Int32} (hI : ¬ σ 38 0 = 0 → RT (σ 21) Ts nt ∧ WO (σ 21) n m ∧ m ≤ 9999) (hk : σ 38 12 = nI many) (h60 : many ≤ 60) : CI G yX8_check cX8_check 5 (some .int) 5 [rf G 109, .int q] σ (fun r s => same [22, 33, 34, 37, 38] σ s ∧ s 38 = upd (σ 38) 12 0 ∧ (¬ (1 ≤ q.toInt ∧ q.toInt ≤ 30) → r = vBAD) ∧ ((1 ≤ q.toInt ∧ q.toInt ≤ 30) → (σ 38 0 = 0 → r = vNO) ∧ (¬ σ 38 0 = 0 → r = chkF (lkV Ts nt) n m (cpL (σ 20) (σ 21) 2971) (σ 36) many q))) := by
  refine Con.of cd_X8_check (Nat.le_of_ble_eq_true rfl) ?_
  intro X hX hZ
  have hX : Fx X G RX8 cX8_check 5 5 := hX
  show RR X G 5 0 (ll [(0, rf G 109), (1, .int q)]) [] σ
  have hs0 : same [22, 33, 34, 37, 38] σ (su σ 38 12 0) := same.rf.su (by simp)
  have go : ∀ c, c < 31 → q = nI c → ¬ σ 38 0 = 0 → (1 ≤ q.toInt ∧ q.toInt ≤ 30) → RR X G 5 36 (ll [(0, rf G 109), (1, .int q), (2, .int (nI many))]) [] (su σ 38 12 0) := by
    intro c hc e hi hq
    subst e
    obtain ⟨hT, hW, hm⟩ := hI hi
    have hV : VO (lkV Ts nt) := lkV_VO
    have hT0 : RT (cpL (σ 20) (σ 21) 2971) Ts nt := hT.cp
    have hW0 : WO (cpL (σ 20) (σ 21) 2971) n m := hW.cp
    have hF : chkF (lkV Ts nt) n m (cpL (σ 20) (σ 21) 2971) (σ 36) many (nI c) = chkA (σ 36) (dueF (lkV Ts nt) n (cpL (σ 20) (σ 21) 2971)) many (2 * min c (9999 - m)) := by unfold chkF; rw [nI_clamp (by omega)]
    have hou : ∀ i, 2971 ≤ i → cpL (σ 20) (σ 21) 2971 i = σ 20 i := fun i hi => if_neg (by omega)
    generalize hw0 : cpL (σ 20) (σ 21) 2971 = w0 at hT0 hW0 hF hou
    -- the comparing
    have cmp : ∀ τ : SG, (∀ j, j < 2 * min c (9999 - m) → τ 37 j = dueF (lkV Ts nt) n w0 j) → same [22, 33, 34, 37, 38] σ τ → τ 38 = upd (σ 38) 12 0 → RR X G 5 134 (ll [(0, rf G 109), (1, .int (nI c)), (2, .int (nI many)), (3, .int (nI (2 * min c (9999 - m))))]) [] τ := by
      intro τ t37 ts t38
      have t36 : τ 36 = σ 36 := ts 36 (by decide)
      have fin : ∀ k, k = matN (σ 36) (dueF (lkV Ts nt) n w0) (min many (2 * min c (9999 - m))) → RR X G 5 172 (ll [(2, .int (nI many)), (3, .int (nI (2 * min c (9999 - m)))), (4, .int (nI k))]) [] τ := by
        intro k ek
        have hkl := matN_le (wt := σ 36) (du := dueF (lkV Ts nt) n w0) (min many (2 * min c (9999 - m)))
        refine r_iload hX dX8_check_172 rfl (RR.pc (b := 174) rfl ?_)
        refine r_iload_n (i := 0) hX dX8_check_174 rfl (RR.pc (b := 175) rfl ?_)
        refine r_icmp_ne (tgt := 188) hX dX8_check_175 rfl (fun h175 => ?_) (fun h175 => RR.pc (b := 178) rfl ?_)
        · have hcc : ¬ (k = many ∧ k = 2 * min c (9999 - m)) := fun z => by first | exact h175 (congrArg nI z.1) | exact h181 (congrArg nI z.2)
          refine r_iconst (v := 1) hX dX8_check_188 (by decide) (RR.pc (b := 189) rfl ?_)
          refine r_iload hX dX8_check_189 rfl (RR.pc (b := 191) rfl ?_)
          refine r_iadd hX dX8_check_191 (RR.pc (b := 192) rfl ?_)
          exact r_iret hX hZ dX8_check_192 ⟨_, rfl, ⟨ts, t38, fun z => absurd hq z, fun _ => ⟨fun z => absurd z hi, fun _ => by rw [hw0, hF, chkA, ← ek]; first | (rw [if_neg hcc, ← nI_add]; rfl) | (rw [if_pos hcc])⟩⟩⟩
        · refine r_iload hX dX8_check_178 rfl (RR.pc (b := 180) rfl ?_)
          refine r_iload_n (i := 0) hX dX8_check_180 rfl (RR.pc (b := 181) rfl ?_)
          refine r_icmp_ne (tgt := 188) hX dX8_check_181 rfl (fun h181 => ?_) (fun h181 => RR.pc (b := 184) rfl ?_)
          · have hcc : ¬ (k = many ∧ k = 2 * min c (9999 - m)) := fun z => by first | exact h175 (congrArg nI z.1) | exact h181 (congrArg nI z.2)
            refine r_iconst (v := 1) hX dX8_check_188 (by decide) (RR.pc (b := 189) rfl ?_)
            refine r_iload hX dX8_check_189 rfl (RR.pc (b := 191) rfl ?_)
            refine r_iadd hX dX8_check_191 (RR.pc (b := 192) rfl ?_)
            exact r_iret hX hZ dX8_check_192 ⟨_, rfl, ⟨ts, t38, fun z => absurd hq z, fun _ => ⟨fun z => absurd z hi, fun _ => by rw [hw0, hF, chkA, ← ek]; first | (rw [if_neg hcc, ← nI_add]; rfl) | (rw [if_pos hcc])⟩⟩⟩
          · have hcc : (k = many ∧ k = 2 * min c (9999 - m)) := ⟨(nI_eq (by omega) (by omega)).mp h175, (nI_eq (by omega) (by omega)).mp h181⟩
            refine r_iconst (v := 0) hX dX8_check_184 (by decide) (RR.pc (b := 185) rfl ?_)
            refine r_goto (tgt := 192) hX dX8_check_185 rfl ?_
            exact r_iret hX hZ dX8_check_192 ⟨_, rfl, ⟨ts, t38, fun z => absurd hq z, fun _ => ⟨fun z => absurd z hi, fun _ => by rw [hw0, hF, chkA, ← ek]; first | (rw [if_neg hcc, ← nI_add]; rfl) | (rw [if_pos hcc])⟩⟩⟩
      have loop := loopK (min many (2 * min c (9999 - m))) (fun k => matN (σ 36) (dueF (lkV Ts nt) n w0) k = k → RR X G 5 137 (ll [(0, rf G 109), (2, .int (nI many)), (3, .int (nI (2 * min c (9999 - m)))), (4, .int (nI k))]) [] τ) (by
        intro k hk ih he
        refine r_iload hX dX8_check_137 rfl (RR.pc (b := 139) rfl ?_)
        refine r_iload_n (i := 0) hX dX8_check_139 rfl (RR.pc (b := 140) rfl ?_)
        refine r_icmp_ge (tgt := 172) hX dX8_check_140 rfl (fun h140 => ?_) (fun h140 => RR.pc (b := 143) rfl ?_)
        · refine RR.cut (fin k ?_) (List.forall_mem_cons.mpr ⟨rfl, List.forall_mem_cons.mpr ⟨rfl, List.forall_mem_cons.mpr ⟨rfl, fun _ h => absurd h List.not_mem_nil⟩⟩⟩)
          first | exact (matN_stop he h163 _ (by omega)).symm | (rw [show min many (2 * min c (9999 - m)) = k from by first | (rw [nI_leI (by omega) (by omega)] at h146; omega) | (rw [nI_leI (by omega) (by omega)] at h140; omega)]; exact he.symm)
        · have g1 : k < many := by rw [nI_leI (by omega) (by omega)] at h140; omega
          refine r_iload hX dX8_check_143 rfl (RR.pc (b := 145) rfl ?_)
          refine r_iload_n (i := 0) hX dX8_check_145 rfl (RR.pc (b := 146) rfl ?_)
          refine r_icmp_ge (tgt := 172) hX dX8_check_146 rfl (fun h146 => ?_) (fun h146 => RR.pc (b := 149) rfl ?_)
          · refine RR.cut (fin k ?_) (List.forall_mem_cons.mpr ⟨rfl, List.forall_mem_cons.mpr ⟨rfl, List.forall_mem_cons.mpr ⟨rfl, fun _ h => absurd h List.not_mem_nil⟩⟩⟩)
            first | exact (matN_stop he h163 _ (by omega)).symm | (rw [show min many (2 * min c (9999 - m)) = k from by first | (rw [nI_leI (by omega) (by omega)] at h146; omega) | (rw [nI_leI (by omega) (by omega)] at h140; omega)]; exact he.symm)
          · have g2 : k < 2 * min c (9999 - m) := by rw [nI_leI (by omega) (by omega)] at h146; omega
            refine r_aload_n hX dX8_check_149 rfl ⟨_, rfl⟩ (RR.pc (b := 150) rfl ?_)
            refine r_getr hX dX8_check_150 fl_X8_58 (by first | rfl | assumption) rfl (RR.pc (b := 153) rfl ?_)
            refine r_iload hX dX8_check_153 rfl (RR.pc (b := 155) rfl ?_)
            refine r_iald hX dX8_check_155 (by first | rfl | assumption) rfl (by omega) (by decide) (by first | exact Nat.zero_add _ | rfl) (RR.pc (b := 156) rfl ?_)
            refine r_aload_n hX dX8_check_156 rfl ⟨_, rfl⟩ (RR.pc (b := 157) rfl ?_)
            refine r_getr hX dX8_check_157 fl_X8_61 (by first | rfl | assumption) rfl (RR.pc (b := 160) rfl ?_)
            refine r_iload hX dX8_check_160 rfl (RR.pc (b := 162) rfl ?_)
            refine r_iald hX dX8_check_162 (by first | rfl | assumption) rfl (by omega) (by decide) (by first | exact Nat.zero_add _ | rfl) (RR.pc (b := 163) rfl ?_)
            rw [t36, t37 k g2]
            refine r_icmp_ne (tgt := 172) hX dX8_check_163 rfl (fun h163 => ?_) (fun h163 => RR.pc (b := 166) rfl ?_)
            · refine RR.cut (fin k ?_) (List.forall_mem_cons.mpr ⟨rfl, List.forall_mem_cons.mpr ⟨rfl, List.forall_mem_cons.mpr ⟨rfl, fun _ h => absurd h List.not_mem_nil⟩⟩⟩)
              first | exact (matN_stop he h163 _ (by omega)).symm | (rw [show min many (2 * min c (9999 - m)) = k from by first | (rw [nI_leI (by omega) (by omega)] at h146; omega) | (rw [nI_leI (by omega) (by omega)] at h140; omega)]; exact he.symm)
            · refine r_iinc hX dX8_check_166 rfl (by decide) (nI_1 k) (RR.pc (b := 169) rfl ?_)
              refine r_goto (tgt := 137) hX dX8_check_169 rfl ?_
              exact RR.cut (ih (by omega) (by rw [matN, if_pos ⟨he, h163⟩])) (List.forall_mem_cons.mpr ⟨rfl, List.forall_mem_cons.mpr ⟨rfl, List.forall_mem_cons.mpr ⟨rfl, List.forall_mem_cons.mpr ⟨rfl, fun _ h => absurd h List.not_mem_nil⟩⟩⟩⟩)
        )
      refine r_iconst (v := 0) hX dX8_check_134 (by decide) (RR.pc (b := 135) rfl ?_)
      refine r_istore hX dX8_check_135 (by decide) (RR.pc (b := 137) rfl ?_)
      exact RR.cut (loop 0 (by omega) rfl) (List.forall_mem_cons.mpr ⟨rfl, List.forall_mem_cons.mpr ⟨rfl, List.forall_mem_cons.mpr ⟨rfl, List.forall_mem_cons.mpr ⟨rfl, fun _ h => absurd h List.not_mem_nil⟩⟩⟩⟩)
    -- the minutes
    have mins := loopK (min c (9999 - m)) (fun k => ∀ τ : SG, τ 20 = minN (lkV Ts nt) n w0 k → (∀ j, j < 2 * k → τ 37 j = dueF (lkV Ts nt) n w0 j) → (∀ i, i < 2971 → τ 22 i = σ 20 i) → same [20, 22, 33, 34, 37, 38] σ τ → τ 38 = upd (σ 38) 12 0 → RR X G 5 65 (ll [(0, rf G 109), (1, .int (nI c)), (2, .int (nI many)), (3, .int (nI (2 * k))), (4, .int (nI k))]) [] τ) (by
      intro k hk ih τ t20 t37 t22 ts t38
      have hW1 : WO (τ 20) n (m + k) := by rw [t20]; exact minN_WO hV hW0 k
      have hT1 : RT (τ 20) Ts nt := RT_after hT0 (fun i hi => by rw [t20]; exact minN_out hV hW0 hi k)
      have out : k = min c (9999 - m) → RR X G 5 122 (ll [(0, rf G 109), (1, .int (nI c)), (2, .int (nI many)), (3, .int (nI (2 * k)))]) [] τ := by
        intro ek
        subst ek
        refine r_aload_n hX dX8_check_122 rfl ⟨_, rfl⟩ (RR.pc (b := 123) rfl ?_)
        refine r_aload_n hX dX8_check_123 rfl ⟨_, rfl⟩ (RR.pc (b := 124) rfl ?_)
        refine r_getr hX dX8_check_124 fl_X8_16 (by first | rfl | assumption) rfl (RR.pc (b := 127) rfl ?_)
        refine r_aload_n hX dX8_check_127 rfl ⟨_, rfl⟩ (RR.pc (b := 128) rfl ?_)
        refine r_getr hX dX8_check_128 fl_X8_7 (by first | rfl | assumption) rfl (RR.pc (b := 131) rfl ?_)
        refine r_callVve hX dX8_check_131 ml_X8_313 cd_X8_setAside iv_X8_setAside (c_X8_setAside (r0 := 22) (r1 := 20) rfl rfl (by decide)) (by decide) (by first | rfl | assumption) rfl rfl rfl rfl (Nat.le_of_ble_eq_true rfl) (RR.pc (b := 134) rfl ?_)
        refine RR.cut (cmp _ (fun j hj => by rw [sr_ne (by decide)]; exact t37 j hj) (fun r hr => ?_) (by rw [sr_ne (by decide)]; exact t38)) (List.forall_mem_cons.mpr ⟨rfl, List.forall_mem_cons.mpr ⟨rfl, List.forall_mem_cons.mpr ⟨rfl, List.forall_mem_cons.mpr ⟨rfl, fun _ h => absurd h List.not_mem_nil⟩⟩⟩⟩)
        by_cases e : r = 20
        · subst e
          rw [sr_eq]
          funext i
          unfold cpL
          by_cases hi2 : i < 2971
          · rw [if_pos hi2]; exact t22 i hi2
          · rw [if_neg hi2, t20, minN_out hV hW0 (by omega)]; exact hou i (by omega)
        · rw [sr_ne e]
          exact ts r (fun z => by simp only [List.mem_cons, List.not_mem_nil, or_false] at z hr; omega)
      refine r_iload hX dX8_check_65 rfl (RR.pc (b := 67) rfl ?_)
      refine r_iload_n (i := 0) hX dX8_check_67 rfl (RR.pc (b := 68) rfl ?_)
      refine r_icmp_ge (tgt := 122) hX dX8_check_68 rfl (fun h68 => ?_) (fun h68 => RR.pc (b := 71) rfl ?_)
      · exact RR.cut (out (by first | (rw [nI_leI (by omega) (by omega)] at h68; omega) | (rw [show (9999 : Int32) = nI 9999 from rfl, nI_leI (by omega) (by omega)] at h80; omega))) (List.forall_mem_cons.mpr ⟨rfl, List.forall_mem_cons.mpr ⟨rfl, List.forall_mem_cons.mpr ⟨rfl, List.forall_mem_cons.mpr ⟨rfl, fun _ h => absurd h List.not_mem_nil⟩⟩⟩⟩)
      · have g1 : k < c := by rw [nI_leI (by omega) (by omega)] at h68; omega
        refine r_aload_n hX dX8_check_71 rfl ⟨_, rfl⟩ (RR.pc (b := 72) rfl ?_)
        refine r_getr hX dX8_check_72 fl_X8_7 (by first | rfl | assumption) rfl (RR.pc (b := 75) rfl ?_)
        refine r_iconst (v := 2) hX dX8_check_75 (by decide) (RR.pc (b := 76) rfl ?_)
        refine r_iald hX dX8_check_76 (by first | rfl | assumption) (by first | rfl | assumption) (by first | decide | assumption | omega) (by decide) (by first | exact Nat.zero_add _ | rfl) (RR.pc (b := 77) rfl ?_)
        rw [hW1.2.2.2.1]
        refine r_sipush (v := 9999) hX dX8_check_77 (by decide) (RR.pc (b := 80) rfl ?_)
        refine r_icmp_ge (tgt := 122) hX dX8_check_80 rfl (fun h80 => ?_) (fun h80 => RR.pc (b := 83) rfl ?_)
        · exact RR.cut (out (by first | (rw [nI_leI (by omega) (by omega)] at h68; omega) | (rw [show (9999 : Int32) = nI 9999 from rfl, nI_leI (by omega) (by omega)] at h80; omega))) (List.forall_mem_cons.mpr ⟨rfl, List.forall_mem_cons.mpr ⟨rfl, List.forall_mem_cons.mpr ⟨rfl, List.forall_mem_cons.mpr ⟨rfl, fun _ h => absurd h List.not_mem_nil⟩⟩⟩⟩)
        · have g2 : m + k < 9999 := by rw [show (9999 : Int32) = nI 9999 from rfl, nI_leI (by omega) (by omega)] at h80; omega
          refine r_aload_n hX dX8_check_83 rfl ⟨_, rfl⟩ (RR.pc (b := 84) rfl ?_)
          refine r_callVv hX dX8_check_84 ml_X8_154 cd_X8_goesOn iv_X8_goesOn (c_X8_goesOn hT1 hW1 (by omega)) (by decide) (by first | rfl | assumption) rfl rfl rfl rfl (Nat.le_of_ble_eq_true rfl) (fun s_84 e_84 => RR.pc (b := 87) rfl ?_)
          obtain ⟨e8, hs8⟩ := e_84
          refine r_aload_n hX dX8_check_87 rfl ⟨_, rfl⟩ (RR.pc (b := 88) rfl ?_)
          refine r_getr hX dX8_check_88 fl_X8_61 (by first | rfl | assumption) rfl (RR.pc (b := 91) rfl ?_)
          refine r_iload_n (i := 0) hX dX8_check_91 rfl (RR.pc (b := 92) rfl ?_)
          refine r_aload_n hX dX8_check_92 rfl ⟨_, rfl⟩ (RR.pc (b := 93) rfl ?_)
          refine r_bipush (v := 11) hX dX8_check_93 (by decide) (RR.pc (b := 95) rfl ?_)
          refine r_callVie hX dX8_check_95 ml_X8_157 cd_X8_allOf iv_X8_allOf (c_X8_allOf (o := 11) (by decide)) (by decide) (by first | rfl | assumption) rfl rfl rfl rfl (Nat.le_of_ble_eq_true rfl) (RR.pc (b := 98) rfl ?_)
          refine r_iast hX dX8_check_98 (by first | rfl | assumption) rfl (by omega) (by decide) (by first | exact Nat.zero_add _ | rfl) (RR.pc (b := 99) rfl ?_)
          refine r_aload_n hX dX8_check_99 rfl ⟨_, rfl⟩ (RR.pc (b := 100) rfl ?_)
          refine r_getr hX dX8_check_100 fl_X8_61 (by first | rfl | assumption) rfl (RR.pc (b := 103) rfl ?_)
          refine r_iload_n (i := 0) hX dX8_check_103 rfl (RR.pc (b := 104) rfl ?_)
          refine r_iconst (v := 1) hX dX8_check_104 (by decide) (RR.pc (b := 105) rfl ?_)
          refine r_iadd hX dX8_check_105 (RR.pc (b := 106) rfl ?_)
          refine r_aload_n hX dX8_check_106 rfl ⟨_, rfl⟩ (RR.pc (b := 107) rfl ?_)
          refine r_getr hX dX8_check_107 fl_X8_7 (by first | rfl | assumption) rfl (RR.pc (b := 110) rfl ?_)
          refine r_iconst (v := 4) hX dX8_check_110 (by decide) (RR.pc (b := 111) rfl ?_)
          refine r_iald hX dX8_check_111 (by first | rfl | assumption) (by first | rfl | assumption) (by first | decide | assumption | omega) (by decide) (by first | exact Nat.zero_add _ | rfl) (RR.pc (b := 112) rfl ?_)
          refine r_iast hX dX8_check_112 (by first | rfl | assumption) (nI_add _ 1) (by omega) (by decide) (by first | exact Nat.zero_add _ | rfl) (RR.pc (b := 113) rfl ?_)
          refine r_iinc hX dX8_check_113 rfl (by decide) (show nI (2 * k) + nI 2 = nI (2 * (k + 1)) by rw [nI_add]; rfl) (RR.pc (b := 116) rfl ?_)
          refine r_iinc hX dX8_check_116 rfl (by decide) (nI_1 k) (RR.pc (b := 119) rfl ?_)
          refine r_goto (tgt := 65) hX dX8_check_119 rfl ?_
          have e9 : s_84 20 = minN (lkV Ts nt) n w0 (k + 1) := by rw [e8, t20]; rfl
          refine RR.cut (ih (by omega) _ (by rw [su_ne (by decide), su_ne (by decide)]; exact e9) (fun j hj => ?_) (fun i hi2 => by rw [su_ne (by decide), su_ne (by decide), hs8 22 (by decide)]; exact t22 i hi2) (((ts.tr (hs8.mono (by simp))).su (by simp)).su (by simp)) (by rw [su_ne (by decide), su_ne (by decide), hs8 38 (by decide)]; exact t38)) (List.forall_mem_cons.mpr ⟨rfl, List.forall_mem_cons.mpr ⟨rfl, List.forall_mem_cons.mpr ⟨rfl, List.forall_mem_cons.mpr ⟨rfl, List.forall_mem_cons.mpr ⟨rfl, fun _ h => absurd h List.not_mem_nil⟩⟩⟩⟩⟩)
          rw [su_eq, su_eq, su_ne (by decide), e9]
          by_cases j1 : j = 2 * k + 1
          · subst j1
            rw [pk_us, dueF, if_neg (by omega), show (2 * k + 1) / 2 + 1 = k + 1 by omega]
          · rw [pk_un j1]
            by_cases j2 : j = 2 * k
            · subst j2
              rw [pk_us, dueF, if_pos (by omega), show 2 * k / 2 + 1 = k + 1 by omega]
            · rw [pk_un j2, hs8 37 (by decide)]; exact t37 j (by omega)
      )
    refine r_aload_n hX dX8_check_36 rfl ⟨_, rfl⟩ (RR.pc (b := 37) rfl ?_)
    refine r_aload_n hX dX8_check_37 rfl ⟨_, rfl⟩ (RR.pc (b := 38) rfl ?_)
    refine r_getr hX dX8_check_38 fl_X8_7 (by first | rfl | assumption) rfl (RR.pc (b := 41) rfl ?_)
    refine r_aload_n hX dX8_check_41 rfl ⟨_, rfl⟩ (RR.pc (b := 42) rfl ?_)
    refine r_getr hX dX8_check_42 fl_X8_16 (by first | rfl | assumption) rfl (RR.pc (b := 45) rfl ?_)
    refine r_callVve hX dX8_check_45 ml_X8_313 cd_X8_setAside iv_X8_setAside (c_X8_setAside (r0 := 20) (r1 := 22) rfl rfl (by decide)) (by decide) (by first | rfl | assumption) rfl rfl rfl rfl (Nat.le_of_ble_eq_true rfl) (RR.pc (b := 48) rfl ?_)
    refine r_aload_n hX dX8_check_48 rfl ⟨_, rfl⟩ (RR.pc (b := 49) rfl ?_)
    refine r_aload_n hX dX8_check_49 rfl ⟨_, rfl⟩ (RR.pc (b := 50) rfl ?_)
    refine r_getr hX dX8_check_50 fl_X8_13 (by first | rfl | assumption) rfl (RR.pc (b := 53) rfl ?_)
    refine r_aload_n hX dX8_check_53 rfl ⟨_, rfl⟩ (RR.pc (b := 54) rfl ?_)
    refine r_getr hX dX8_check_54 fl_X8_7 (by first | rfl | assumption) rfl (RR.pc (b := 57) rfl ?_)
    refine r_callVve hX dX8_check_57 ml_X8_313 cd_X8_setAside iv_X8_setAside (c_X8_setAside (r0 := 21) (r1 := 20) rfl rfl (by decide)) (by decide) (by first | rfl | assumption) rfl rfl rfl rfl (Nat.le_of_ble_eq_true rfl) (RR.pc (b := 60) rfl ?_)
    refine r_iconst (v := 0) hX dX8_check_60 (by decide) (RR.pc (b := 61) rfl ?_)
    refine r_istore_n hX dX8_check_61 (by decide) (RR.pc (b := 62) rfl ?_)
    refine r_iconst (v := 0) hX dX8_check_62 (by decide) (RR.pc (b := 63) rfl ?_)
    refine r_istore hX dX8_check_63 (by decide) (RR.pc (b := 65) rfl ?_)
    refine RR.cut (mins 0 (by omega) _ ?_ (fun j hj => by omega) (fun i hi2 => ?_) (((hs0.mono (by simp)).sr (by simp)).sr (by simp)) ?_) (List.forall_mem_cons.mpr ⟨rfl, List.forall_mem_cons.mpr ⟨rfl, List.forall_mem_cons.mpr ⟨rfl, List.forall_mem_cons.mpr ⟨rfl, List.forall_mem_cons.mpr ⟨rfl, fun _ h => absurd h List.not_mem_nil⟩⟩⟩⟩⟩)
    · rw [sr_eq, sr_ne (by decide), sr_ne (by decide), su_ne (by decide), su_ne (by decide)]
      exact hw0
    · rw [sr_ne (by decide), sr_eq, su_ne (by decide), su_ne (by decide)]
      exact if_pos hi2
    · rw [sr_ne (by decide), sr_ne (by decide), su_eq]
  refine r_aload_n hX dX8_check_0 rfl ⟨_, rfl⟩ (RR.pc (b := 1) rfl ?_)
  refine r_geti hX dX8_check_1 fl_X8_304 (by first | rfl | assumption) rfl (RR.pc (b := 4) rfl ?_)
  rw [hk]
  refine r_istore_n hX dX8_check_4 (by decide) (RR.pc (b := 5) rfl ?_)
  refine r_aload_n hX dX8_check_5 rfl ⟨_, rfl⟩ (RR.pc (b := 6) rfl ?_)
  refine r_iconst (v := 0) hX dX8_check_6 (by decide) (RR.pc (b := 7) rfl ?_)
  refine r_puti hX dX8_check_7 fl_X8_304 (by first | rfl | assumption) rfl ft_8_29 (RR.pc (b := 10) rfl ?_)
  refine r_iload_n (i := 0) hX dX8_check_10 rfl (RR.pc (b := 11) rfl ?_)
  refine r_i2l hX dX8_check_11 (RR.pc (b := 12) rfl ?_)
  refine r_lconst (v := 1) hX dX8_check_12 rfl (RR.pc (b := 13) rfl ?_)
  refine r_ldc2 hX dX8_check_13 k2_X8_307 (RR.pc (b := 16) rfl ?_)
  refine r_callSie hX dX8_check_16 ml_X8_65 cd_X8_isIn st_X8_isIn c_X8_isIn (by decide) rfl rfl (Nat.le_of_ble_eq_true rfl) (RR.pc (b := 19) rfl ?_)
  refine r_if_ne_b (tgt := 25) hX dX8_check_19 rfl (fun h19 => ?_) (fun h19 => RR.pc (b := 22) rfl ?_)
  · simp only [Int32.toInt_toInt64, Int64.reduceToInt] at h19
    refine r_aload_n hX dX8_check_25 rfl ⟨_, rfl⟩ (RR.pc (b := 26) rfl ?_)
    refine r_geti hX dX8_check_26 fl_X8_309 (by first | rfl | assumption) rfl (RR.pc (b := 29) rfl ?_)
    rw [su_eq, pk_un (by decide)]
    refine r_if_ne (tgt := 36) hX dX8_check_29 rfl (fun h29 => ?_) (fun h29 => RR.pc (b := 32) rfl ?_)
    · obtain ⟨c, hc, e⟩ := ix_of (n := 31) (k := q) ⟨by omega, by omega⟩ (by omega)
      exact RR.cut (go c hc e h29 h19) (List.forall_mem_cons.mpr ⟨rfl, List.forall_mem_cons.mpr ⟨rfl, List.forall_mem_cons.mpr ⟨rfl, fun _ h => absurd h List.not_mem_nil⟩⟩⟩)
    · refine r_ldcw hX dX8_check_32 kc_X8_303 (RR.pc (b := 35) rfl ?_)
      exact r_iret hX hZ dX8_check_35 ⟨_, rfl, ⟨hs0, su_eq, fun z => absurd h19 z, fun _ => ⟨fun _ => rfl, fun z => absurd h29 z⟩⟩⟩
  · simp only [Int32.toInt_toInt64, Int64.reduceToInt] at h19
    refine r_ldc hX dX8_check_22 kc_X8_84 (RR.pc (b := 24) rfl ?_)
    exact r_iret hX hZ dX8_check_24 ⟨_, rfl, ⟨hs0, su_eq, fun _ => rfl, fun z => absurd z h19⟩⟩
/-- feed: the bytes of three numbers -/
def fedB (a b c : Int32) (j : Nat) : Int32 := ((if j < 4 then a else if j < 8 then b else c) >>> ((nI (24 - 8 * (j % 4))) &&& 31)) &&& 255
def fedL (f : Nat → Int32) (a b c : Int32) (k : Nat) : Nat → (Nat → Int32)
  | 0 => f
  | j + 1 => upd (fedL f a b c k j) (k + j) (fedB a b c j)
theorem sub24 : ∀ j, j < 12 → (24 : Int32) - 8 * (nI j - nI j / 4 * 4) = nI (24 - 8 * (j % 4)) := by decide +kernel
set_option maxHeartbeats 4000000 in
set_option maxRecDepth 100000 in
theorem c_X8_feed {G : GM} {σ : SG} {a b c : Int32} {k : Nat} (hk : σ 38 1 = nI k) (h96 : k ≤ 96) : CI G yX8_feed cX8_feed 6 (some .int) 0 [rf G 109, .int a, .int b, .int c] σ (fun r s => (96 < k + 12 → r = vFULL ∧ s = σ) ∧ (k + 12 ≤ 96 → r = nI (k + 12) ∧ s = su (sr σ 32 (fedL (σ 32) a b c k 12)) 38 1 (nI (k + 12)))) := by
  refine Con.of cd_X8_feed (Nat.le_of_ble_eq_true rfl) ?_
  intro X hX hZ
  have hX : Fx X G RX8 cX8_feed 6 0 := hX
  show RR X G 6 0 (ll [(0, rf G 109), (1, .int a), (2, .int b), (3, .int c)]) [] σ
  have loop : k + 12 ≤ 96 → ∀ j, j ≤ 12 → RR X G 6 18 (ll [(0, rf G 109), (1, .int a), (2, .int b), (3, .int c), (4, .int (nI j))]) [] (su (sr σ 32 (fedL (σ 32) a b c k j)) 38 1 (nI (k + j))) := fun hkk => loopK 12 (fun j => RR X G 6 18 (ll [(0, rf G 109), (1, .int a), (2, .int b), (3, .int c), (4, .int (nI j))]) [] (su (sr σ 32 (fedL (σ 32) a b c k j)) 38 1 (nI (k + j)))) (by
    intro j hj ih
    refine r_iload hX dX8_feed_18 rfl (RR.pc (b := 20) rfl ?_)
    refine r_bipush (v := 12) hX dX8_feed_20 (by decide) (RR.pc (b := 22) rfl ?_)
    refine r_icmp_ge (tgt := 91) hX dX8_feed_22 rfl (fun h22 => ?_) (fun h22 => RR.pc (b := 25) rfl ?_)
    · have hj2 : j = 12 := by rw [show (12 : Int32) = nI 12 from rfl, nI_leI (by omega) (by omega)] at h22; omega
      subst hj2
      refine r_aload_n hX dX8_feed_91 rfl ⟨_, rfl⟩ (RR.pc (b := 92) rfl ?_)
      refine r_geti hX dX8_feed_92 fl_X8_184 (by first | rfl | assumption) rfl (RR.pc (b := 95) rfl ?_)
      rw [su_eq, pk_us]
      exact r_iret hX hZ dX8_feed_95 ⟨_, rfl, ⟨fun z => absurd z (by omega), fun _ => ⟨rfl, rfl⟩⟩⟩
    · have hj2 : j < 12 := by rw [show (12 : Int32) = nI 12 from rfl, nI_leI (by omega) (by omega)] at h22; omega
      have go : RR X G 6 47 (ll [(0, rf G 109), (1, .int a), (2, .int b), (3, .int c), (4, .int (nI j))]) [.int (if j < 4 then a else if j < 8 then b else c)] (su (sr σ 32 (fedL (σ 32) a b c k j)) 38 1 (nI (k + j))) := by
        refine r_istore hX dX8_feed_47 (by decide) (RR.pc (b := 49) rfl ?_)
        refine r_aload_n hX dX8_feed_49 rfl ⟨_, rfl⟩ (RR.pc (b := 50) rfl ?_)
        refine r_getr hX dX8_feed_50 fl_X8_46 (by first | rfl | assumption) rfl (RR.pc (b := 53) rfl ?_)
        refine r_aload_n hX dX8_feed_53 rfl ⟨_, rfl⟩ (RR.pc (b := 54) rfl ?_)
        refine r_geti hX dX8_feed_54 fl_X8_184 (by first | rfl | assumption) rfl (RR.pc (b := 57) rfl ?_)
        rw [su_eq, pk_us]
        refine r_iload hX dX8_feed_57 rfl (RR.pc (b := 59) rfl ?_)
        refine r_bipush (v := 24) hX dX8_feed_59 (by decide) (RR.pc (b := 61) rfl ?_)
        refine r_bipush (v := 8) hX dX8_feed_61 (by decide) (RR.pc (b := 63) rfl ?_)
        refine r_iload hX dX8_feed_63 rfl (RR.pc (b := 65) rfl ?_)
        refine r_iconst (v := 4) hX dX8_feed_65 (by decide) (RR.pc (b := 66) rfl ?_)
        refine r_irem hX dX8_feed_66 (by decide) (RR.pc (b := 67) rfl ?_)
        refine r_imul hX dX8_feed_67 (RR.pc (b := 68) rfl ?_)
        refine r_isub hX dX8_feed_68 (RR.pc (b := 69) rfl ?_)
        rw [sub24 j hj2]
        refine r_ishr hX dX8_feed_69 (RR.pc (b := 70) rfl ?_)
        refine r_sipush (v := 255) hX dX8_feed_70 (by decide) (RR.pc (b := 73) rfl ?_)
        refine r_iand hX dX8_feed_73 (RR.pc (b := 74) rfl ?_)
        refine r_iast hX dX8_feed_74 (by first | rfl | assumption) rfl (by omega) (by decide) (by first | exact Nat.zero_add _ | rfl) (RR.pc (b := 75) rfl ?_)
        refine r_aload_n hX dX8_feed_75 rfl ⟨_, rfl⟩ (RR.pc (b := 76) rfl ?_)
        refine r_dup hX dX8_feed_76 rfl (RR.pc (b := 77) rfl ?_)
        refine r_geti hX dX8_feed_77 fl_X8_184 (by first | rfl | assumption) rfl (RR.pc (b := 80) rfl ?_)
        rw [su_ne (by decide), su_eq, pk_us]
        refine r_iconst (v := 1) hX dX8_feed_80 (by decide) (RR.pc (b := 81) rfl ?_)
        refine r_iadd hX dX8_feed_81 (RR.pc (b := 82) rfl ?_)
        rw [nI_1]
        refine r_puti hX dX8_feed_82 fl_X8_184 (by first | rfl | assumption) rfl ft_8_14 (RR.pc (b := 85) rfl ?_)
        refine r_iinc hX dX8_feed_85 rfl (by decide) (nI_1 j) (RR.pc (b := 88) rfl ?_)
        refine r_goto (tgt := 18) hX dX8_feed_88 rfl ?_
        refine RR.eqs ?_ (RR.cut (ih hj2) (List.forall_mem_cons.mpr ⟨rfl, List.forall_mem_cons.mpr ⟨rfl, List.forall_mem_cons.mpr ⟨rfl, List.forall_mem_cons.mpr ⟨rfl, List.forall_mem_cons.mpr ⟨rfl, fun _ h => absurd h List.not_mem_nil⟩⟩⟩⟩⟩))
        funext r
        unfold su
        by_cases e1 : r = 38
        · subst e1
          simp only [sr_eq, sr_ne (show (38 : Nat) ≠ 32 by decide), upd_upd]
          rfl
        · rw [sr_ne e1, sr_ne e1]
          by_cases e2 : r = 32
          · subst e2
            simp only [sr_eq, sr_ne (show (32 : Nat) ≠ 38 by decide)]
            rfl
          · rw [sr_ne e2, sr_ne e1, sr_ne e2, sr_ne e2]
      refine r_iload hX dX8_feed_25 rfl (RR.pc (b := 27) rfl ?_)
      refine r_iconst (v := 4) hX dX8_feed_27 (by decide) (RR.pc (b := 28) rfl ?_)
      refine r_icmp_ge (tgt := 35) hX dX8_feed_28 rfl (fun h28 => ?_) (fun h28 => RR.pc (b := 31) rfl ?_)
      · refine r_iload hX dX8_feed_35 rfl (RR.pc (b := 37) rfl ?_)
        refine r_bipush (v := 8) hX dX8_feed_37 (by decide) (RR.pc (b := 39) rfl ?_)
        refine r_icmp_ge (tgt := 46) hX dX8_feed_39 rfl (fun h39 => ?_) (fun h39 => RR.pc (b := 42) rfl ?_)
        · refine r_iload_n (i := 0) hX dX8_feed_46 rfl (RR.pc (b := 47) rfl ?_)
          refine RR.eqt ?_ (RR.cut go (List.forall_mem_cons.mpr ⟨rfl, List.forall_mem_cons.mpr ⟨rfl, List.forall_mem_cons.mpr ⟨rfl, List.forall_mem_cons.mpr ⟨rfl, List.forall_mem_cons.mpr ⟨rfl, fun _ h => absurd h List.not_mem_nil⟩⟩⟩⟩⟩))
          congr 2
          first | (rw [if_pos (by rw [show (4 : Int32) = nI 4 from rfl, nI_leI (by omega) (by omega)] at h28; omega)]) | (rw [if_neg (by rw [show (4 : Int32) = nI 4 from rfl, nI_leI (by omega) (by omega)] at h28; omega), if_pos (by rw [show (8 : Int32) = nI 8 from rfl, nI_leI (by omega) (by omega)] at h39; omega)]) | (rw [if_neg (by rw [show (4 : Int32) = nI 4 from rfl, nI_leI (by omega) (by omega)] at h28; omega), if_neg (by rw [show (8 : Int32) = nI 8 from rfl, nI_leI (by omega) (by omega)] at h39; omega)])
        · refine r_iload_n (i := 0) hX dX8_feed_42 rfl (RR.pc (b := 43) rfl ?_)
          refine r_goto (tgt := 47) hX dX8_feed_43 rfl ?_
          refine RR.eqt ?_ (RR.cut go (List.forall_mem_cons.mpr ⟨rfl, List.forall_mem_cons.mpr ⟨rfl, List.forall_mem_cons.mpr ⟨rfl, List.forall_mem_cons.mpr ⟨rfl, List.forall_mem_cons.mpr ⟨rfl, fun _ h => absurd h List.not_mem_nil⟩⟩⟩⟩⟩))
          congr 2
          first | (rw [if_pos (by rw [show (4 : Int32) = nI 4 from rfl, nI_leI (by omega) (by omega)] at h28; omega)]) | (rw [if_neg (by rw [show (4 : Int32) = nI 4 from rfl, nI_leI (by omega) (by omega)] at h28; omega), if_pos (by rw [show (8 : Int32) = nI 8 from rfl, nI_leI (by omega) (by omega)] at h39; omega)]) | (rw [if_neg (by rw [show (4 : Int32) = nI 4 from rfl, nI_leI (by omega) (by omega)] at h28; omega), if_neg (by rw [show (8 : Int32) = nI 8 from rfl, nI_leI (by omega) (by omega)] at h39; omega)])
      · refine r_iload_n (i := 0) hX dX8_feed_31 rfl (RR.pc (b := 32) rfl ?_)
        refine r_goto (tgt := 47) hX dX8_feed_32 rfl ?_
        refine RR.eqt ?_ (RR.cut go (List.forall_mem_cons.mpr ⟨rfl, List.forall_mem_cons.mpr ⟨rfl, List.forall_mem_cons.mpr ⟨rfl, List.forall_mem_cons.mpr ⟨rfl, List.forall_mem_cons.mpr ⟨rfl, fun _ h => absurd h List.not_mem_nil⟩⟩⟩⟩⟩))
        congr 2
        first | (rw [if_pos (by rw [show (4 : Int32) = nI 4 from rfl, nI_leI (by omega) (by omega)] at h28; omega)]) | (rw [if_neg (by rw [show (4 : Int32) = nI 4 from rfl, nI_leI (by omega) (by omega)] at h28; omega), if_pos (by rw [show (8 : Int32) = nI 8 from rfl, nI_leI (by omega) (by omega)] at h39; omega)]) | (rw [if_neg (by rw [show (4 : Int32) = nI 4 from rfl, nI_leI (by omega) (by omega)] at h28; omega), if_neg (by rw [show (8 : Int32) = nI 8 from rfl, nI_leI (by omega) (by omega)] at h39; omega)])
    )
  refine r_aload_n hX dX8_feed_0 rfl ⟨_, rfl⟩ (RR.pc (b := 1) rfl ?_)
  refine r_geti hX dX8_feed_1 fl_X8_184 (by first | rfl | assumption) rfl (RR.pc (b := 4) rfl ?_)
  refine r_bipush (v := 12) hX dX8_feed_4 (by decide) (RR.pc (b := 6) rfl ?_)
  rw [hk, show (12 : Int32) = nI 12 from rfl]
  refine r_iadd hX dX8_feed_6 (RR.pc (b := 7) rfl ?_)
  rw [nI_add]
  refine r_bipush (v := 96) hX dX8_feed_7 (by decide) (RR.pc (b := 9) rfl ?_)
  refine r_icmp_le (tgt := 15) hX dX8_feed_9 rfl (fun h9 => ?_) (fun h9 => RR.pc (b := 12) rfl ?_)
  · have hc : k + 12 ≤ 96 := by rw [show (96 : Int32) = nI 96 from rfl, nI_leI (by omega) (by omega)] at h9; omega
    refine r_iconst (v := 0) hX dX8_feed_15 (by decide) (RR.pc (b := 16) rfl ?_)
    refine r_istore hX dX8_feed_16 (by decide) (RR.pc (b := 18) rfl ?_)
    refine RR.eqs ?_ (RR.cut (loop hc 0 (by omega)) (List.forall_mem_cons.mpr ⟨rfl, List.forall_mem_cons.mpr ⟨rfl, List.forall_mem_cons.mpr ⟨rfl, List.forall_mem_cons.mpr ⟨rfl, List.forall_mem_cons.mpr ⟨rfl, fun _ h => absurd h List.not_mem_nil⟩⟩⟩⟩⟩))
    show σ = su (sr σ 32 (σ 32)) 38 1 (nI (k + 0))
    rw [sr_self, Nat.add_zero, ← hk]
    funext r
    unfold su
    by_cases e : r = 38
    · subst e
      rw [sr_eq]
      funext i
      unfold upd
      by_cases e2 : i = 1
      · subst e2; rw [if_pos rfl]
      · rw [if_neg e2]
    · rw [sr_ne e]
  · have hc : 96 < k + 12 := by rw [show (96 : Int32) = nI 96 from rfl, nI_leI (by omega) (by omega)] at h9; omega
    refine r_ldc hX dX8_feed_12 kc_X8_85 (RR.pc (b := 14) rfl ?_)
    exact r_iret hX hZ dX8_feed_14 ⟨_, rfl, ⟨fun _ => ⟨rfl, rfl⟩, fun z => absurd hc (by omega)⟩⟩
