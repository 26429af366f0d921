/-! constructors: the class's own -/
theorem EqE.tr' {G : GM} {a b c : va_E} (h : EqE G a c) (e : b = a) : EqE G b c := e ▸ h
def FR_ (G : GM) (lo hi : Nat) (ad : Nat → Nat) (c : Nat → va_E) : Prop := ∀ j, lo ≤ j → j < hi → EqE G (c j) (ce (GA G ad) σ0 j)
def rAll (lo hi : Nat) : Bool := (List.range hi).all (fun j => decide (j < lo) || rOK hi j)
theorem FR_.step {G : GM} {lo hi : Nat} {ad ad' : Nat → Nat} {c c' : Nat → va_E} (h : FR_ G lo hi ad c) (hr : rAll lo hi = true) (ea : ∀ j, j < hi → ad' j = ad j) (ec : ∀ j, lo ≤ j → j < hi → c' j = c j) : FR_ G lo hi ad' c' := by
  intro j h2 hj
  have h1 := List.all_eq_true.mp hr j (List.mem_range.mpr hj)
  have h3 : rOK hi j = true := by
    rw [Bool.or_eq_true] at h1
    exact h1.resolve_left (fun z => absurd (of_decide_eq_true z) (by omega))
  rw [ec j h2 hj]
  exact (h j h2 hj).tr (EqE_ad h3 ea)
theorem rTx : ∀ i, i < 15 → rAll 2 (3 + 2 * i) = true := by decide +kernel
theorem rSh : ∀ i, i < 5 → rAll 79 (79 + 2 * i) = true := by decide +kernel
theorem rSl : ∀ i, i < 6 → rAll 88 (88 + 4 * i) = true := by decide +kernel
theorem rBig : rAll 2 31 = true ∧ rAll 2 36 = true ∧ rAll 2 50 = true ∧ rAll 2 64 = true ∧ rAll 2 78 = true ∧ rAll 2 87 = true ∧ rAll 2 108 = true := by decide +kernel
theorem s07 {o : Nat} : σ0 7 o = if o % 32 = 24 then -1 else 0 := rfl
theorem s08 {o : Nat} : σ0 8 o = if o % 64 = 34 then -1 else 0 := rfl
theorem c_X7_init {G : GM} {a : Nat} {ad : Nat → Nat} {c : Nat → va_E} (ha : ad 0 = a) (hc : c 0 = .inr (7, df_7)) : CC G yX7_init cX7_init 3 3 108 2649 [.ref a] 1 ad c 109 (fun ad' c' => ad' 0 = a ∧ FR_ G 0 109 ad' c') := by
  refine CC.of cd_X7_init (Nat.le_of_ble_eq_true rfl) ?_
  intro X hX hZ hN
  have hX : FC X G RX7 cX7_init 3 3 108 2649 := hX
  show RC X G 3 0 0 1 ad c 0 (ll [(0, .ref a)]) []
  obtain ⟨b31, b36, b50, b64, b78, b87, b108⟩ := rBig
  -- waiting
  have tF : ∀ (ad1 : Nat → Nat) (c1 : Nat → va_E), ad1 0 = a → c1 0 = .inr (7, [.ref (ad1 1), .ref (ad1 31), .ref (ad1 33), .ref (ad1 36), .ref (ad1 50), .ref (ad1 64), .ref (ad1 78), .ref (ad1 87), .null, .int 0, .int 0]) → (∃ f, c1 1 = .inl (G.2.1 4, 14, .inr (.inr (.inr (.inr f)))) ∧ ∀ i, i < 14 → f i = some (ad1 (3 + 2 * i))) → FR_ G 2 108 ad1 c1 → RC X G 3 107 2589 108 ad1 c1 193 (ll [(0, .ref a)]) [] := by
    intro ad1 c1 a0 h0 h1 hF
    have fin : ∀ q : Nat, FR_ G 0 109 (up ad1 108 q) (up (up c1 108 (zI G 60)) 0 (.inr (7, [.ref (ad1 1), .ref (ad1 31), .ref (ad1 33), .ref (ad1 36), .ref (ad1 50), .ref (ad1 64), .ref (ad1 78), .ref (ad1 87), .ref q, .int 0, .int 0]))) := by
      intro q j h2 hj
      have ea : ∀ j, j < 108 → up ad1 108 q j = ad1 j := fun j hj => up_n (by omega)
      by_cases j0 : j = 0
      · subst j0
        rw [up_s]
        refine EqE_obj (rfl : lay 0 = lO 7 [fR 1, fR 31, fR 33, fR 36, fR 50, fR 64, fR 78, fR 87, fR 108, fI 9 60, fI 9 61]) ?_
        simp only [List.map_cons, List.map_nil, fv, rf, GA]
        rw [ea 1 (by omega), ea 31 (by omega), ea 33 (by omega), ea 36 (by omega), ea 50 (by omega), ea 64 (by omega), ea 78 (by omega), ea 87 (by omega), up_s]
        rfl
      · by_cases j1 : j = 1
        · subst j1
          obtain ⟨f, f1, f2⟩ := h1
          rw [up_n (by omega), up_n (by omega), f1]
          exact EqE_ref (rfl : lay 1 = lR 4 14 (fun i => 3 + 2 * i)) (fun i hi => by rw [f2 i hi, ea _ (by omega)])
        · by_cases j8 : j = 108
          · subst j8
            rw [up_n (by omega), up_s]
            exact EqE_zI (rfl : lay 108 = lI 60 9 0) (fun i hi => rfl)
          · exact (hF.step b108 ea (fun j g1 g2 => by rw [up_n (by omega), up_n (by omega)])) j (by omega) (by omega)
    refine k_aload_n hX dX7_init_193 rfl ⟨_, rfl⟩ (RC.go (b := 194) rfl ?_)
    refine k_bipush (v := 60) hX dX7_init_194 (by decide) (RC.go (b := 196) rfl ?_)
    refine k_newi (N := 60) hX dX7_init_196 rfl (by decide) (by omega) (by omega) (fun q_196 => RC.go (b := 198) rfl ?_)
    refine k_put hX hN dX7_init_198 fl_X7_63 fu_7_8 (k := 0) (by rw [up_n (by omega)]; exact a0) (by omega) (by rw [up_n (by omega)]; exact h0) (Nat.le_of_ble_eq_true rfl) rfl rfl (RC.go (b := 201) rfl ?_)
    exact k_ret (n0 := 0) hX hZ dX7_init_201 (by omega) (by omega) rfl (⟨by rw [up_n (by omega)]; exact a0, fin q_196⟩)
  -- slots
  have tE := loopK 5 (fun i => ∀ (ad1 : Nat → Nat) (c1 : Nat → va_E), ad1 0 = a → c1 0 = .inr (7, [.ref (ad1 1), .ref (ad1 31), .ref (ad1 33), .ref (ad1 36), .ref (ad1 50), .ref (ad1 64), .ref (ad1 78), .ref (ad1 87), .null, .int 0, .int 0]) → (∃ f, c1 1 = .inl (G.2.1 4, 14, .inr (.inr (.inr (.inr f)))) ∧ ∀ i, i < 14 → f i = some (ad1 (3 + 2 * i))) → FR_ G 2 87 ad1 c1 → (∃ f, c1 87 = .inl (G.2.1 3, 5, .inr (.inr (.inr (.inr f)))) ∧ ∀ q, q < i → f q = some (ad1 (88 + 4 * q))) → FR_ G 88 (88 + 4 * i) ad1 c1 → RC X G 3 (87 + 4 * i) (2409 + 36 * i) (88 + 4 * i) ad1 c1 169 (ll [(0, .ref a), (2, .int (nI i))]) []) (by
    intro i hi ih ad1 c1 a0 h0 h1 hF h87 hS
    obtain ⟨f, f1, f2⟩ := h87
    refine k_iload_n hX dX7_init_169 rfl (RC.go (b := 170) rfl ?_)
    refine k_iconst (v := 5) hX dX7_init_170 (by decide) (RC.go (b := 171) rfl ?_)
    refine k_icmp_ge (tgt := 193) hX dX7_init_171 rfl (fun h => ?_) (fun h => RC.go (b := 174) rfl ?_)
    · have hi2 : i = 5 := by rw [show (5 : Int32) = nI 5 from rfl, nI_leI (by omega) (by omega)] at h; omega
      subst hi2
      refine RC.cut (tF ad1 c1 a0 h0 h1 (fun j g1 g2 => ?_)) (List.forall_mem_cons.mpr ⟨rfl, fun _ h => absurd h List.not_mem_nil⟩)
      by_cases j1 : j < 87
      · exact hF j g1 j1
      · by_cases j2 : j = 87
        · subst j2
          rw [f1]
          exact EqE_ref (rfl : lay 87 = lR 3 5 (fun i => 88 + 4 * i)) f2
        · exact hS j (by omega) (by omega)
    · have hi2 : i < 5 := by rw [show (5 : Int32) = nI 5 from rfl, nI_leI (by omega) (by omega)] at h; omega
      obtain ⟨l0, l1, l2⟩ := laySl hi2
      have lm := layS hi2
      refine k_aload_n hX dX7_init_174 rfl ⟨_, rfl⟩ (RC.go (b := 175) rfl ?_)
      refine k_get hX dX7_init_175 fl_X7_58 (k := 0) a0 (by omega) h0 rfl (RC.go (b := 178) rfl ?_)
      refine k_iload_n hX dX7_init_178 rfl (RC.go (b := 179) rfl ?_)
      refine k_new (ci := 2) (fs := df_2) tyX2 hX dX7_init_179 kl_X7_56 in_X2 ii_X2 rfl tyX2_ok df_2_ok (by omega) (by omega) (fun q_179 => RC.go (b := 182) rfl ?_)
      refine k_dup hX dX7_init_182 rfl (RC.go (b := 183) rfl ?_)
      refine k_callIN hX dX7_init_183 (List.mem_of_getElem? (i := 8) rfl) im_X2_init rfl cd_X2_init (c_X2_init (k := 88 + 4 * i) up_s (by omega) up_s) (by decide) (by omega) (by omega) rfl rfl (Nat.le_of_ble_eq_true rfl) (fun ad_183 c_183 e_183 => RC.go (b := 186) rfl ?_)
      obtain ⟨q1, q2, q3, rfl, g1, g2, g3, g4, g5⟩ := e_183
      have ea : ∀ j, j < 88 + 4 * i → up (up (up (up ad1 (88 + 4 * i) q_179) (88 + 4 * i + 1) q1) (88 + 4 * i + 1 + 1) q2) (88 + 4 * i + 1 + 2) q3 j = ad1 j := fun j hj => by rw [up_n (by omega), up_n (by omega), up_n (by omega), up_n (by omega)]
      have e0 : up (up (up (up ad1 (88 + 4 * i) q_179) (88 + 4 * i + 1) q1) (88 + 4 * i + 1 + 1) q2) (88 + 4 * i + 1 + 2) q3 (88 + 4 * i) = q_179 := by rw [up_n (by omega), up_n (by omega), up_n (by omega), up_s]
      have e1 : up (up (up (up ad1 (88 + 4 * i) q_179) (88 + 4 * i + 1) q1) (88 + 4 * i + 1 + 1) q2) (88 + 4 * i + 1 + 2) q3 (89 + 4 * i) = q1 := by rw [show 89 + 4 * i = 88 + 4 * i + 1 by omega, up_n (by omega), up_n (by omega), up_s]
      have e2 : up (up (up (up ad1 (88 + 4 * i) q_179) (88 + 4 * i + 1) q1) (88 + 4 * i + 1 + 1) q2) (88 + 4 * i + 1 + 2) q3 (90 + 4 * i) = q2 := by rw [show 90 + 4 * i = 88 + 4 * i + 1 + 1 by omega, up_n (by omega), up_s]
      have e3 : up (up (up (up ad1 (88 + 4 * i) q_179) (88 + 4 * i + 1) q1) (88 + 4 * i + 1 + 1) q2) (88 + 4 * i + 1 + 2) q3 (91 + 4 * i) = q3 := by rw [show 91 + 4 * i = 88 + 4 * i + 1 + 2 by omega, up_s]
      have ec : ∀ j, j < 88 + 4 * i → c_183 j = c1 j := fun j hj => by rw [g1 j (by omega) (by omega), up_n (by omega)]
      generalize up (up (up (up ad1 (88 + 4 * i) q_179) (88 + 4 * i + 1) q1) (88 + 4 * i + 1 + 1) q2) (88 + 4 * i + 1 + 2) q3 = ad2 at ea e0 e1 e2 e3
      refine k_astq hX dX7_init_186 (k := 87) (kv := 88 + 4 * i) (t := 3) (j := i) (ci := 2) (ea 87 (by omega)) (by omega) (by rw [ec 87 (by omega)]; exact f1) rfl e0 (by omega) g2 rfl rfl hi2 (by omega) (RC.go (b := 187) rfl ?_)
      refine k_iinc hX dX7_init_187 rfl (by decide) (nI_1 i) (RC.go (b := 190) rfl ?_)
      refine k_goto (tgt := 169) hX dX7_init_190 rfl ?_
      refine RC.cut (ih hi2 ad2 _ (by rw [ea 0 (by omega)]; exact a0) ?_ ?_ ?_ ⟨_, up_s, fun q hq => ?_⟩ (fun j j1 j2 => ?_)) (List.forall_mem_cons.mpr ⟨rfl, List.forall_mem_cons.mpr ⟨rfl, fun _ h => absurd h List.not_mem_nil⟩⟩)
      · rw [up_n (by omega), ec 0 (by omega), ea 1 (by omega), ea 31 (by omega), ea 33 (by omega), ea 36 (by omega), ea 50 (by omega), ea 64 (by omega), ea 78 (by omega), ea 87 (by omega)]
        exact h0
      · obtain ⟨f', f1', f2'⟩ := h1
        exact ⟨f', by rw [up_n (by omega), ec 1 (by omega)]; exact f1', fun q hq => by rw [ea _ (by omega)]; exact f2' q hq⟩
      · exact hF.step b87 (fun j hj => ea j (by omega)) (fun j j1 j2 => by rw [up_n (by omega), ec j (by omega)])
      · by_cases eq : q = i
        · subst eq
          rw [va_up_self, e0]
        · rw [va_up_ne _ _ eq, f2 q (by omega), ea _ (by omega)]
      · rw [up_n (by omega)]
        by_cases j3 : j < 88 + 4 * i
        · exact (hS.step (rSl i (by omega)) ea (fun j g1 g2 => ec j g2)) j j1 j3
        · rcases (show j = 88 + 4 * i ∨ j = 89 + 4 * i ∨ j = 90 + 4 * i ∨ j = 91 + 4 * i by omega) with rfl | rfl | rfl | rfl
          · rw [g2]
            refine EqE_obj l0 ?_
            simp only [List.map_cons, List.map_nil, fv, rf, GA]
            rw [e1, e2, s08, s08, if_neg (by omega), if_neg (by omega)]
          · rw [show 89 + 4 * i = 88 + 4 * i + 1 by omega, g3, show 88 + 4 * i + 1 = 89 + 4 * i by omega]
            refine EqE_obj lm ?_
            simp only [List.map_cons, List.map_nil, fv, s08]
            rw [if_neg (by omega), if_neg (by omega), if_neg (by omega), if_neg (by omega), if_neg (by omega)]
            rfl
          · rw [show 90 + 4 * i = 88 + 4 * i + 1 + 1 by omega, g4, show 88 + 4 * i + 1 + 1 = 90 + 4 * i by omega]
            refine EqE_obj l1 ?_
            simp only [List.map_cons, List.map_nil, fv, rf, GA, s08]
            rw [e3, if_pos (by omega), if_neg (by omega)]
          · rw [show 91 + 4 * i = 88 + 4 * i + 1 + 2 by omega, g5, show 88 + 4 * i + 1 + 2 = 91 + 4 * i by omega]
            exact EqE_zI l2 (fun q hq => by rw [s08, if_neg (by omega)])
    )
  -- sheets
  have tD := loopK 4 (fun i => ∀ (ad1 : Nat → Nat) (c1 : Nat → va_E), ad1 0 = a → c1 0 = .inr (7, [.ref (ad1 1), .ref (ad1 31), .ref (ad1 33), .ref (ad1 36), .ref (ad1 50), .ref (ad1 64), .ref (ad1 78), .null, .null, .int 0, .int 0]) → (∃ f, c1 1 = .inl (G.2.1 4, 14, .inr (.inr (.inr (.inr f)))) ∧ ∀ i, i < 14 → f i = some (ad1 (3 + 2 * i))) → FR_ G 2 78 ad1 c1 → (∃ f, c1 78 = .inl (G.2.1 2, 4, .inr (.inr (.inr (.inr f)))) ∧ ∀ q, q < i → f q = some (ad1 (79 + 2 * q))) → FR_ G 79 (79 + 2 * i) ad1 c1 → RC X G 3 (78 + 2 * i) (2296 + 27 * i) (79 + 2 * i) ad1 c1 135 (ll [(0, .ref a), (2, .int (nI i))]) []) (by
    intro i hi ih ad1 c1 a0 h0 h1 hF h78 hS
    obtain ⟨f, f1, f2⟩ := h78
    refine k_iload_n hX dX7_init_135 rfl (RC.go (b := 136) rfl ?_)
    refine k_iconst (v := 4) hX dX7_init_136 (by decide) (RC.go (b := 137) rfl ?_)
    refine k_icmp_ge (tgt := 159) hX dX7_init_137 rfl (fun h => ?_) (fun h => RC.go (b := 140) rfl ?_)
    · have hi2 : i = 4 := by rw [show (4 : Int32) = nI 4 from rfl, nI_leI (by omega) (by omega)] at h; omega
      subst hi2
      have hF2 : FR_ G 2 87 ad1 c1 := fun j g1 g2 => by
        by_cases j1 : j < 78
        · exact hF j g1 j1
        · by_cases j2 : j = 78
          · subst j2
            rw [f1]
            exact EqE_ref (rfl : lay 78 = lR 2 4 (fun i => 79 + 2 * i)) f2
          · exact hS j (by omega) (by omega)
      refine k_aload_n hX dX7_init_159 rfl ⟨_, rfl⟩ (RC.go (b := 160) rfl ?_)
      refine k_iconst (v := 5) hX dX7_init_160 (by decide) (RC.go (b := 161) rfl ?_)
      refine k_newq (N := 5) (t := 3) hX dX7_init_161 kl_X7_56 (hX.2.2.2.2.2.2.1.2.1.2.2.1) rfl rfl (by decide) (by omega) (by omega) (fun q_161 => RC.go (b := 164) rfl ?_)
      refine k_put hX hN dX7_init_164 fl_X7_58 fu_7_7 (k := 0) (by rw [up_n (by omega)]; exact a0) (by omega) (by rw [up_n (by omega)]; exact h0) (Nat.le_of_ble_eq_true rfl) rfl rfl (RC.go (b := 167) rfl ?_)
      refine k_iconst (v := 0) hX dX7_init_167 (by decide) (RC.go (b := 168) rfl ?_)
      refine k_istore_n hX dX7_init_168 (by decide) (RC.go (b := 169) rfl ?_)
      have ea : ∀ j, j < 87 → up ad1 87 q_161 j = ad1 j := fun j hj => up_n (by omega)
      refine RC.cut (tE 0 (by omega) (up ad1 87 q_161) _ (by rw [ea 0 (by omega)]; exact a0) ?_ ?_ ?_ ⟨fun _ => none, by rw [up_n (by omega)]; exact up_s, fun q hq => by omega⟩ (fun j j1 j2 => by omega)) (List.forall_mem_cons.mpr ⟨rfl, List.forall_mem_cons.mpr ⟨rfl, fun _ h => absurd h List.not_mem_nil⟩⟩)
      · rw [up_s, ea 1 (by omega), ea 31 (by omega), ea 33 (by omega), ea 36 (by omega), ea 50 (by omega), ea 64 (by omega), ea 78 (by omega), up_s]
        rfl
      · obtain ⟨f', f1', f2'⟩ := h1
        exact ⟨f', by rw [up_n (by omega), up_n (by omega)]; exact f1', fun q hq => by rw [ea _ (by omega)]; exact f2' q hq⟩
      · exact hF2.step b87 ea (fun j j1 j2 => by rw [up_n (by omega), up_n (by omega)])
    · have hi2 : i < 4 := by rw [show (4 : Int32) = nI 4 from rfl, nI_leI (by omega) (by omega)] at h; omega
      obtain ⟨l0, l1⟩ := layH hi2
      refine k_aload_n hX dX7_init_140 rfl ⟨_, rfl⟩ (RC.go (b := 141) rfl ?_)
      refine k_get hX dX7_init_141 fl_X7_51 (k := 0) a0 (by omega) h0 rfl (RC.go (b := 144) rfl ?_)
      refine k_iload_n hX dX7_init_144 rfl (RC.go (b := 145) rfl ?_)
      refine k_new (ci := 1) (fs := df_1) tyX1 hX dX7_init_145 kl_X7_49 in_X1 ii_X1 rfl tyX1_ok df_1_ok (by omega) (by omega) (fun q_145 => RC.go (b := 148) rfl ?_)
      refine k_dup hX dX7_init_148 rfl (RC.go (b := 149) rfl ?_)
      refine k_callIN hX dX7_init_149 (List.mem_of_getElem? (i := 7) rfl) im_X1_init rfl cd_X1_init (c_X1_init (k := 79 + 2 * i) up_s (by omega) up_s) (by decide) (by omega) (by omega) rfl rfl (Nat.le_of_ble_eq_true rfl) (fun ad_149 c_149 e_149 => RC.go (b := 152) rfl ?_)
      obtain ⟨q1, rfl, rfl⟩ := e_149
      have ea : ∀ j, j < 79 + 2 * i → up (up ad1 (79 + 2 * i) q_145) (79 + 2 * i + 1) q1 j = ad1 j := fun j hj => by rw [up_n (by omega), up_n (by omega)]
      have e0 : up (up ad1 (79 + 2 * i) q_145) (79 + 2 * i + 1) q1 (79 + 2 * i) = q_145 := by rw [up_n (by omega), up_s]
      have e1 : up (up ad1 (79 + 2 * i) q_145) (79 + 2 * i + 1) q1 (80 + 2 * i) = q1 := by rw [show 80 + 2 * i = 79 + 2 * i + 1 by omega, up_s]
      generalize up (up ad1 (79 + 2 * i) q_145) (79 + 2 * i + 1) q1 = ad2 at ea e0 e1
      refine k_astq hX dX7_init_152 (k := 78) (kv := 79 + 2 * i) (t := 2) (j := i) (ci := 1) (ea 78 (by omega)) (by omega) (by rw [up_n (by omega), up_n (by omega), up_n (by omega)]; exact f1) rfl e0 (by omega) up_s rfl rfl hi2 (by omega) (RC.go (b := 153) rfl ?_)
      refine k_iinc hX dX7_init_153 rfl (by decide) (nI_1 i) (RC.go (b := 156) rfl ?_)
      refine k_goto (tgt := 135) hX dX7_init_156 rfl ?_
      refine RC.cut (ih hi2 ad2 _ (by rw [ea 0 (by omega)]; exact a0) ?_ ?_ ?_ ⟨_, up_s, fun q hq => ?_⟩ (fun j j1 j2 => ?_)) (List.forall_mem_cons.mpr ⟨rfl, List.forall_mem_cons.mpr ⟨rfl, fun _ h => absurd h List.not_mem_nil⟩⟩)
      · rw [up_n (by omega), up_n (by omega), up_n (by omega), up_n (by omega), ea 1 (by omega), ea 31 (by omega), ea 33 (by omega), ea 36 (by omega), ea 50 (by omega), ea 64 (by omega), ea 78 (by omega)]
        exact h0
      · obtain ⟨f', f1', f2'⟩ := h1
        exact ⟨f', by rw [up_n (by omega), up_n (by omega), up_n (by omega), up_n (by omega)]; exact f1', fun q hq => by rw [ea _ (by omega)]; exact f2' q hq⟩
      · exact hF.step b78 (fun j hj => ea j (by omega)) (fun j j1 j2 => by rw [up_n (by omega), up_n (by omega), up_n (by omega), up_n (by omega)])
      · by_cases eq : q = i
        · subst eq
          rw [va_up_self, e0]
        · rw [va_up_ne _ _ eq, f2 q (by omega), ea _ (by omega)]
      · rw [up_n (by omega)]
        by_cases j3 : j < 79 + 2 * i
        · exact (hS.step (rSh i (by omega)) ea (fun j g1 g2 => by rw [up_n (by omega), up_n (by omega), up_n (by omega)])) j j1 j3
        · rcases (show j = 79 + 2 * i ∨ j = 80 + 2 * i by omega) with rfl | rfl
          · rw [up_s]
            refine EqE_obj l0 ?_
            simp only [List.map_cons, List.map_nil, fv, rf, GA, s07]
            rw [e1, if_pos (by omega), if_neg (by omega)]
          · rw [up_n (by omega), show 80 + 2 * i = 79 + 2 * i + 1 by omega, up_s, show 79 + 2 * i + 1 = 80 + 2 * i by omega]
            exact EqE_zI l1 (fun q hq => by rw [s07, if_neg (by omega)])
    )
  -- worlds
  have tW : ∀ (ad1 : Nat → Nat) (c1 : Nat → va_E), ad1 0 = a → c1 0 = .inr (7, [.ref (ad1 1), .ref (ad1 31), .ref (ad1 33), .null, .null, .null, .null, .null, .null, .int 0, .int 0]) → (∃ f, c1 1 = .inl (G.2.1 4, 14, .inr (.inr (.inr (.inr f)))) ∧ ∀ i, i < 14 → f i = some (ad1 (3 + 2 * i))) → FR_ G 2 36 ad1 c1 → RC X G 3 35 1728 36 ad1 c1 80 (ll [(0, .ref a)]) [] := by
    intro ad1 c1 a0 h0 h1 hF
    obtain ⟨f, f1, f2⟩ := h1
    refine k_aload_n hX dX7_init_80 rfl ⟨_, rfl⟩ (RC.go (b := 81) rfl ?_)
    refine k_new (ci := 6) (fs := df_6) tyX6 hX dX7_init_81 kl_X7_34 in_X6 ii_X6 rfl tyX6_ok df_6_ok (by omega) (by omega) (fun q_81 => RC.go (b := 84) rfl ?_)
    refine k_dup hX dX7_init_84 rfl (RC.go (b := 85) rfl ?_)
    refine k_aload_n hX dX7_init_85 rfl ⟨_, rfl⟩ (RC.go (b := 86) rfl ?_)
    refine k_get hX dX7_init_86 fl_X7_11 (k := 0) (by rw [up_n (by omega)]; exact a0) (by omega) (by rw [up_n (by omega)]; exact h0) rfl (RC.go (b := 89) rfl ?_)
    refine k_callI hX dX7_init_89 ml_X7_36 im_X6_init rfl cd_X6_init (c_X6_init (k := 36) (n := 37) up_s (by omega) up_s) (by decide) (by omega) (by omega) rfl rfl (Nat.le_of_ble_eq_true rfl) (fun ad_89 c_89 e_89 => RC.go (b := 92) rfl ?_)
    obtain ⟨x1, x2, x3, x4, x5, x6, x7, x8, x9⟩ := e_89
    have ea : ∀ j, j < 36 → ad_89 j = ad1 j := fun j hj => by rw [x1 j (by omega), up_n (by omega)]
    have ec : ∀ j, j < 36 → c_89 j = c1 j := fun j hj => by rw [x2 j (by omega) (by omega), up_n (by omega)]
    have e36 : ad_89 36 = q_81 := by rw [x1 36 (by omega), up_s]
    have hF1 : FR_ G 2 50 ad_89 c_89 := fun j g1 g2 => by
      by_cases j1 : j < 36
      · exact (hF.step b36 ea (fun j g1 g2 => ec j g2)) j g1 j1
      · exact EqE_W (w := 0) (n := 37) (b := ad1 1) (by omega) rfl (by rw [ea 1 (by omega)]) x3 x4 x5 x6 x7 x8 x9 j (by omega) (by omega)
    have h01 : c_89 0 = .inr (7, [.ref (ad_89 1), .ref (ad_89 31), .ref (ad_89 33), .null, .null, .null, .null, .null, .null, .int 0, .int 0]) := by rw [ec 0 (by omega), ea 1 (by omega), ea 31 (by omega), ea 33 (by omega)]; exact h0
    have f11 := ec 1 (by omega)
    rw [f1] at f11
    have f21 : ∀ i, i < 14 → f i = some (ad_89 (3 + 2 * i)) := fun i hi => by rw [f2 i hi, ea _ (by omega)]
    have a01 : ad_89 0 = a := by rw [ea 0 (by omega)]; exact a0
    rw [← e36]
    clear x1 x2 x3 x4 x5 x6 x7 x8 x9 ea ec hF h0 f1 f2 e36
    generalize ad_89 = ad1, c_89 = c1 at *
    refine k_put hX hN dX7_init_92 fl_X7_39 fu_7_3 (k := 0) a01 (by omega) h01 (Nat.le_of_ble_eq_true rfl) rfl rfl (RC.go (b := 95) rfl ?_)
    refine k_aload_n hX dX7_init_95 rfl ⟨_, rfl⟩ (RC.go (b := 96) rfl ?_)
    refine k_new (ci := 6) (fs := df_6) tyX6 hX dX7_init_96 kl_X7_34 in_X6 ii_X6 rfl tyX6_ok df_6_ok (by omega) (by omega) (fun q_96 => RC.go (b := 99) rfl ?_)
    refine k_dup hX dX7_init_99 rfl (RC.go (b := 100) rfl ?_)
    refine k_aload_n hX dX7_init_100 rfl ⟨_, rfl⟩ (RC.go (b := 101) rfl ?_)
    refine k_get hX dX7_init_101 fl_X7_11 (k := 0) (by rw [up_n (by omega)]; exact a01) (by omega) (by rw [up_n (by omega), up_s]) rfl (RC.go (b := 104) rfl ?_)
    refine k_callI hX dX7_init_104 ml_X7_36 im_X6_init rfl cd_X6_init (c_X6_init (k := 50) (n := 51) up_s (by omega) up_s) (by decide) (by omega) (by omega) rfl rfl (Nat.le_of_ble_eq_true rfl) (fun ad_104 c_104 e_104 => RC.go (b := 107) rfl ?_)
    obtain ⟨x1, x2, x3, x4, x5, x6, x7, x8, x9⟩ := e_104
    have ea : ∀ j, j < 50 → ad_104 j = ad1 j := fun j hj => by rw [x1 j (by omega), up_n (by omega)]
    have ec : ∀ j, 0 < j → j < 50 → c_104 j = c1 j := fun j h0 hj => by rw [x2 j (by omega) (by omega), up_n (by omega), up_n (by omega)]
    have e50 : ad_104 50 = q_96 := by rw [x1 50 (by omega), up_s]
    have hF2 : FR_ G 2 64 ad_104 c_104 := fun j g1 g2 => by
      by_cases j1 : j < 50
      · exact (hF1.step b50 ea (fun j g1 g2 => ec j (by omega) g2)) j g1 j1
      · exact EqE_W (w := 1) (n := 51) (b := ad1 1) (by omega) rfl (by rw [ea 1 (by omega)]) x3 x4 x5 x6 x7 x8 x9 j (by omega) (by omega)
    have h02 : c_104 0 = .inr (7, [.ref (ad_104 1), .ref (ad_104 31), .ref (ad_104 33), .ref (ad_104 36), .null, .null, .null, .null, .null, .int 0, .int 0]) := by rw [x2 0 (by omega) (by omega), up_n (by omega), up_s, ea 1 (by omega), ea 31 (by omega), ea 33 (by omega), ea 36 (by omega)]; rfl
    have f12 := ec 1 (by omega) (by omega)
    rw [f11] at f12
    have f22 : ∀ i, i < 14 → f i = some (ad_104 (3 + 2 * i)) := fun i hi => by rw [f21 i hi, ea _ (by omega)]
    have a02 : ad_104 0 = a := by rw [ea 0 (by omega)]; exact a01
    rw [← e50]
    clear x1 x2 x3 x4 x5 x6 x7 x8 x9 ea ec hF1 h01 f11 f21 e50 a01
    generalize ad_104 = ad1, c_104 = c1 at *
    refine k_put hX hN dX7_init_107 fl_X7_43 fu_7_4 (k := 0) a02 (by omega) h02 (Nat.le_of_ble_eq_true rfl) rfl rfl (RC.go (b := 110) rfl ?_)
    refine k_aload_n hX dX7_init_110 rfl ⟨_, rfl⟩ (RC.go (b := 111) rfl ?_)
    refine k_new (ci := 6) (fs := df_6) tyX6 hX dX7_init_111 kl_X7_34 in_X6 ii_X6 rfl tyX6_ok df_6_ok (by omega) (by omega) (fun q_111 => RC.go (b := 114) rfl ?_)
    refine k_dup hX dX7_init_114 rfl (RC.go (b := 115) rfl ?_)
    refine k_aload_n hX dX7_init_115 rfl ⟨_, rfl⟩ (RC.go (b := 116) rfl ?_)
    refine k_get hX dX7_init_116 fl_X7_11 (k := 0) (by rw [up_n (by omega)]; exact a02) (by omega) (by rw [up_n (by omega), up_s]) rfl (RC.go (b := 119) rfl ?_)
    refine k_callI hX dX7_init_119 ml_X7_36 im_X6_init rfl cd_X6_init (c_X6_init (k := 64) (n := 65) up_s (by omega) up_s) (by decide) (by omega) (by omega) rfl rfl (Nat.le_of_ble_eq_true rfl) (fun ad_119 c_119 e_119 => RC.go (b := 122) rfl ?_)
    obtain ⟨x1, x2, x3, x4, x5, x6, x7, x8, x9⟩ := e_119
    have ea : ∀ j, j < 64 → ad_119 j = ad1 j := fun j hj => by rw [x1 j (by omega), up_n (by omega)]
    have ec : ∀ j, 0 < j → j < 64 → c_119 j = c1 j := fun j h0 hj => by rw [x2 j (by omega) (by omega), up_n (by omega), up_n (by omega)]
    have e64 : ad_119 64 = q_111 := by rw [x1 64 (by omega), up_s]
    have hF3 : FR_ G 2 78 ad_119 c_119 := fun j g1 g2 => by
      by_cases j1 : j < 64
      · exact (hF2.step b64 ea (fun j g1 g2 => ec j (by omega) g2)) j g1 j1
      · exact EqE_W (w := 2) (n := 65) (b := ad1 1) (by omega) rfl (by rw [ea 1 (by omega)]) x3 x4 x5 x6 x7 x8 x9 j (by omega) (by omega)
    have h03 : c_119 0 = .inr (7, [.ref (ad_119 1), .ref (ad_119 31), .ref (ad_119 33), .ref (ad_119 36), .ref (ad_119 50), .null, .null, .null, .null, .int 0, .int 0]) := by rw [x2 0 (by omega) (by omega), up_n (by omega), up_s, ea 1 (by omega), ea 31 (by omega), ea 33 (by omega), ea 36 (by omega), ea 50 (by omega)]; rfl
    have f13 := ec 1 (by omega) (by omega)
    rw [f12] at f13
    have f23 : ∀ i, i < 14 → f i = some (ad_119 (3 + 2 * i)) := fun i hi => by rw [f22 i hi, ea _ (by omega)]
    have a03 : ad_119 0 = a := by rw [ea 0 (by omega)]; exact a02
    rw [← e64]
    clear x1 x2 x3 x4 x5 x6 x7 x8 x9 ea ec hF2 h02 f12 f22 e64 a02
    generalize ad_119 = ad1, c_119 = c1 at *
    refine k_put hX hN dX7_init_122 fl_X7_46 fu_7_5 (k := 0) a03 (by omega) h03 (Nat.le_of_ble_eq_true rfl) rfl rfl (RC.go (b := 125) rfl ?_)
    refine k_aload_n hX dX7_init_125 rfl ⟨_, rfl⟩ (RC.go (b := 126) rfl ?_)
    refine k_iconst (v := 4) hX dX7_init_126 (by decide) (RC.go (b := 127) rfl ?_)
    refine k_newq (N := 4) (t := 2) hX dX7_init_127 kl_X7_49 (hX.2.2.2.2.2.2.1.2.1.2.1) rfl rfl (by decide) (by omega) (by omega) (fun q_127 => RC.go (b := 130) rfl ?_)
    refine k_put hX hN dX7_init_130 fl_X7_51 fu_7_6 (k := 0) (by rw [up_n (by omega)]; exact a03) (by omega) (by rw [up_n (by omega), up_s]) (Nat.le_of_ble_eq_true rfl) rfl rfl (RC.go (b := 133) rfl ?_)
    refine k_iconst (v := 0) hX dX7_init_133 (by decide) (RC.go (b := 134) rfl ?_)
    refine k_istore_n hX dX7_init_134 (by decide) (RC.go (b := 135) rfl ?_)
    have ea : ∀ j, j < 78 → up ad1 78 q_127 j = ad1 j := fun j hj => up_n (by omega)
    refine RC.cut (tD 0 (by omega) (up ad1 78 q_127) _ (by rw [ea 0 (by omega)]; exact a03) ?_ ⟨f, by rw [up_n (by omega), up_n (by omega), up_n (by omega)]; exact f13, fun i hi => by rw [ea _ (by omega)]; exact f23 i hi⟩ (hF3.step b78 ea (fun j j1 j2 => by rw [up_n (by omega), up_n (by omega), up_n (by omega)])) ⟨fun _ => none, by rw [up_n (by omega)]; exact up_s, fun q hq => by omega⟩ (fun j j1 j2 => by omega)) (List.forall_mem_cons.mpr ⟨rfl, List.forall_mem_cons.mpr ⟨rfl, fun _ h => absurd h List.not_mem_nil⟩⟩)
    rw [up_s, ea 1 (by omega), ea 31 (by omega), ea 33 (by omega), ea 36 (by omega), ea 50 (by omega), ea 64 (by omega), up_s]
    rfl
  -- texts
  have tA := loopK 14 (fun i => ∀ (ad1 : Nat → Nat) (c1 : Nat → va_E), ad1 0 = a → c1 0 = .inr (7, [.ref (ad1 1), .null, .null, .null, .null, .null, .null, .null, .null, .int 0, .int 0]) → (∃ f, c1 1 = .inl (G.2.1 4, 14, .inr (.inr (.inr (.inr f)))) ∧ ∀ q, q < i → f q = some (ad1 (3 + 2 * q))) → FR_ G 2 (3 + 2 * i) ad1 c1 → RC X G 3 (2 + 2 * i) (110 + 101 * i) (3 + 2 * i) ad1 c1 20 (ll [(0, .ref a), (1, .ref (ad1 2)), (2, .int (nI i))]) []) (by
    intro i hi ih ad1 c1 a0 h0 h1 hF
    obtain ⟨f, f1, f2⟩ := h1
    refine k_iload_n hX dX7_init_20 rfl (RC.go (b := 21) rfl ?_)
    refine k_bipush (v := 14) hX dX7_init_21 (by decide) (RC.go (b := 23) rfl ?_)
    refine k_icmp_ge (tgt := 46) hX dX7_init_23 rfl (fun h => ?_) (fun h => RC.go (b := 26) rfl ?_)
    · have hi2 : i = 14 := by rw [show (14 : Int32) = nI 14 from rfl, nI_leI (by omega) (by omega)] at h; omega
      subst hi2
      refine k_aload_n hX dX7_init_46 rfl ⟨_, rfl⟩ (RC.go (b := 47) rfl ?_)
      refine k_new (ci := 3) (fs := df_3) tyX3 hX dX7_init_47 kl_X7_18 in_X3 ii_X3 rfl tyX3_ok df_3_ok (by omega) (by omega) (fun q_47 => RC.go (b := 50) rfl ?_)
      refine k_dup hX dX7_init_50 rfl (RC.go (b := 51) rfl ?_)
      refine k_callIN hX dX7_init_51 (List.mem_of_getElem? (i := 6) rfl) im_X3_init rfl cd_X3_init (c_X3_init (k := 31) (n := 32) up_s (by omega) up_s) (by decide) (by omega) (by omega) rfl rfl (Nat.le_of_ble_eq_true rfl) (fun ad_51 c_51 e_51 => RC.go (b := 54) rfl ?_)
      obtain ⟨q32, rfl, rfl⟩ := e_51
      refine k_put hX hN dX7_init_54 fl_X7_21 fu_7_1 (k := 0) (by rw [up_n (by omega), up_n (by omega)]; exact a0) (by omega) (by rw [up_n (by omega), up_n (by omega), up_n (by omega)]; exact h0) (Nat.le_of_ble_eq_true rfl) rfl rfl (RC.go (b := 57) rfl ?_)
      refine k_aload_n hX dX7_init_57 rfl ⟨_, rfl⟩ (RC.go (b := 58) rfl ?_)
      refine k_new (ci := 5) (fs := df_5) tyX5 hX dX7_init_58 kl_X7_25 in_X5 ii_X5 rfl tyX5_ok df_5_ok (by omega) (by omega) (fun q_58 => RC.go (b := 61) rfl ?_)
      refine k_dup hX dX7_init_61 rfl (RC.go (b := 62) rfl ?_)
      refine k_aload_n hX dX7_init_62 rfl ⟨_, rfl⟩ (RC.go (b := 63) rfl ?_)
      refine k_get hX dX7_init_63 fl_X7_21 (k := 0) (by rw [up_n (by omega), up_n (by omega), up_n (by omega)]; exact a0) (by omega) (by rw [up_n (by omega), up_s]) rfl (RC.go (b := 66) rfl ?_)
      refine k_new (ci := 4) (fs := df_4) tyX4 hX dX7_init_66 kl_X7_9 in_X4 ii_X4 rfl tyX4_ok df_4_ok (by omega) (by omega) (fun q_66 => RC.go (b := 69) rfl ?_)
      refine k_dup hX dX7_init_69 rfl (RC.go (b := 70) rfl ?_)
      refine k_aload_n hX dX7_init_70 rfl ⟨_, rfl⟩ (RC.go (b := 71) rfl ?_)
      refine k_callI hX dX7_init_71 ml_X7_15 im_X4_init rfl cd_X4_init (c_X4_init (k := 34) (n := 35) up_s (by omega) up_s) (by decide) (by omega) (by omega) rfl rfl (Nat.le_of_ble_eq_true rfl) (fun ad_71 c_71 e_71 => RC.go (b := 74) rfl ?_)
      obtain ⟨q35, rfl, rfl⟩ := e_71
      refine k_callI hX dX7_init_74 ml_X7_27 im_X5_init rfl cd_X5_init (c_X5_init (k := 33) (n := 36) (by rw [up_n (by omega), up_n (by omega), up_s]) (by omega) (by rw [up_n (by omega), up_n (by omega), up_n (by omega), up_s])) (by decide) (by omega) (by omega) rfl rfl (Nat.le_of_ble_eq_true rfl) (fun ad_74 c_74 e_74 => RC.go (b := 77) rfl ?_)
      obtain ⟨rfl, rfl⟩ := e_74
      have ea : ∀ j, j < 31 → up (up (up (up (up ad1 31 q_47) 32 q32) 33 q_58) 34 q_66) 35 q35 j = ad1 j := fun j hj => by rw [up_n (by omega), up_n (by omega), up_n (by omega), up_n (by omega), up_n (by omega)]
      have e31 : up (up (up (up (up ad1 31 q_47) 32 q32) 33 q_58) 34 q_66) 35 q35 31 = q_47 := rfl
      have e32 : up (up (up (up (up ad1 31 q_47) 32 q32) 33 q_58) 34 q_66) 35 q35 32 = q32 := rfl
      have e33 : up (up (up (up (up ad1 31 q_47) 32 q32) 33 q_58) 34 q_66) 35 q35 33 = q_58 := rfl
      have e34 : up (up (up (up (up ad1 31 q_47) 32 q32) 33 q_58) 34 q_66) 35 q35 34 = q_66 := rfl
      have e35 : up (up (up (up (up ad1 31 q_47) 32 q32) 33 q_58) 34 q_66) 35 q35 35 = q35 := rfl
      refine k_put hX hN dX7_init_77 fl_X7_30 fu_7_2 (k := 0) (by rw [ea 0 (by omega)]; exact a0) (by omega) (by rw [up_n (by omega), up_n (by omega), up_n (by omega), up_n (by omega), up_n (by omega), up_s]) (Nat.le_of_ble_eq_true rfl) rfl rfl (RC.go (b := 80) rfl ?_)
      generalize up (up (up (up (up ad1 31 q_47) 32 q32) 33 q_58) 34 q_66) 35 q35 = ad2 at ea e31 e32 e33 e34 e35
      refine RC.cut (tW ad2 _ (by rw [ea 0 (by omega)]; exact a0) ?_ ⟨f, ?_, fun q hq => by rw [f2 q hq, ea _ (by omega)]⟩ (fun j j1 j2 => ?_)) (List.forall_mem_cons.mpr ⟨rfl, fun _ h => absurd h List.not_mem_nil⟩)
      · rw [up_s, ea 1 (by omega), e31, e33]
        rfl
      · rw [up_n (by omega), up_n (by omega), up_n (by omega), up_n (by omega), up_n (by omega), up_n (by omega), up_n (by omega), up_n (by omega), up_n (by omega), up_n (by omega)]
        exact f1
      · by_cases j3 : j < 31
        · refine ((show FR_ G 2 31 ad1 c1 from hF).step b31 ea (c' := c1) (fun _ _ _ => rfl) j j1 j3).tr' ?_
          rw [up_n (by omega), up_n (by omega), up_n (by omega), up_n (by omega), up_n (by omega), up_n (by omega), up_n (by omega), up_n (by omega), up_n (by omega), up_n (by omega)]
        · rcases (show j = 31 ∨ j = 32 ∨ j = 33 ∨ j = 34 ∨ j = 35 by omega) with rfl | rfl | rfl | rfl | rfl
          · rw [up_n (by omega), up_n (by omega), up_n (by omega), up_n (by omega), up_n (by omega), up_n (by omega), up_n (by omega), up_s]
            refine EqE_obj (rfl : lay 31 = lO 3 [fR 32, fI 5 96]) ?_
            simp only [List.map_cons, List.map_nil, fv, rf, GA]
            rw [e32]
            rfl
          · rw [up_n (by omega), up_n (by omega), up_n (by omega), up_n (by omega), up_n (by omega), up_n (by omega), up_n (by omega), up_n (by omega), up_s]
            exact EqE_zI (rfl : lay 32 = lI 96 5 0) (fun i hi => rfl)
          · rw [up_n (by omega), up_s]
            refine EqE_obj (rfl : lay 33 = lO 5 [fR 34, fI 6 0, fR 31, fI 6 1, fI 6 2]) ?_
            simp only [List.map_cons, List.map_nil, fv, rf, GA]
            rw [e34, e31]
            rfl
          · rw [up_n (by omega), up_n (by omega), up_s]
            refine EqE_obj lay34 ?_
            simp only [List.map_cons, List.map_nil, fv, rf, GA]
            rw [e35, ea 2 (by omega)]
            rfl
          · rw [up_n (by omega), up_n (by omega), up_n (by omega), up_s]
            exact EqE_zI lay35 (fun i hi => rfl)
    · have hi2 : i < 14 := by rw [show (14 : Int32) = nI 14 from rfl, nI_leI (by omega) (by omega)] at h; omega
      obtain ⟨l0, l1⟩ := layT hi2
      refine k_aload_n hX dX7_init_26 rfl ⟨_, rfl⟩ (RC.go (b := 27) rfl ?_)
      refine k_get hX dX7_init_27 fl_X7_11 (k := 0) a0 (by omega) h0 rfl (RC.go (b := 30) rfl ?_)
      refine k_iload_n hX dX7_init_30 rfl (RC.go (b := 31) rfl ?_)
      refine k_new (ci := 4) (fs := df_4) tyX4 hX dX7_init_31 kl_X7_9 in_X4 ii_X4 rfl tyX4_ok df_4_ok (by omega) (by omega) (fun q_31 => RC.go (b := 34) rfl ?_)
      refine k_dup hX dX7_init_34 rfl (RC.go (b := 35) rfl ?_)
      refine k_aload_n hX dX7_init_35 rfl ⟨_, rfl⟩ (RC.go (b := 36) rfl ?_)
      refine k_callI hX dX7_init_36 ml_X7_15 im_X4_init rfl cd_X4_init (c_X4_init (k := 3 + 2 * i) up_s (by omega) up_s) (by decide) (by omega) (by omega) rfl rfl (Nat.le_of_ble_eq_true rfl) (fun ad_36 c_36 e_36 => RC.go (b := 39) rfl ?_)
      obtain ⟨q1, rfl, rfl⟩ := e_36
      have ea : ∀ j, j < 3 + 2 * i → up (up ad1 (3 + 2 * i) q_31) (3 + 2 * i + 1) q1 j = ad1 j := fun j hj => by rw [up_n (by omega), up_n (by omega)]
      have e0 : up (up ad1 (3 + 2 * i) q_31) (3 + 2 * i + 1) q1 (3 + 2 * i) = q_31 := by rw [up_n (by omega), up_s]
      have e1 : up (up ad1 (3 + 2 * i) q_31) (3 + 2 * i + 1) q1 (4 + 2 * i) = q1 := by rw [show 4 + 2 * i = 3 + 2 * i + 1 by omega, up_s]
      have e2 := ea 2 (by omega)
      generalize up (up ad1 (3 + 2 * i) q_31) (3 + 2 * i + 1) q1 = ad2 at ea e0 e1 e2
      refine k_astq hX dX7_init_39 (k := 1) (kv := 3 + 2 * i) (t := 4) (j := i) (ci := 4) (ea 1 (by omega)) (by omega) (by rw [up_n (by omega), up_n (by omega), up_n (by omega)]; exact f1) rfl e0 (by omega) up_s rfl rfl hi2 (by omega) (RC.go (b := 40) rfl ?_)
      refine k_iinc hX dX7_init_40 rfl (by decide) (nI_1 i) (RC.go (b := 43) rfl ?_)
      refine k_goto (tgt := 20) hX dX7_init_43 rfl ?_
      refine RC.cut (ih hi2 ad2 _ (by rw [ea 0 (by omega)]; exact a0) ?_ ⟨_, up_s, fun q hq => ?_⟩ (fun j j1 j2 => ?_)) (List.forall_mem_cons.mpr ⟨rfl, List.forall_mem_cons.mpr ⟨by rw [e2]; rfl, List.forall_mem_cons.mpr ⟨rfl, fun _ h => absurd h List.not_mem_nil⟩⟩⟩)
      · rw [up_n (by omega), up_n (by omega), up_n (by omega), up_n (by omega), ea 1 (by omega)]
        exact h0
      · by_cases eq : q = i
        · subst eq
          rw [va_up_self, e0]
        · rw [va_up_ne _ _ eq, f2 q (by omega), ea _ (by omega)]
      · rw [up_n (by omega)]
        by_cases j3 : j < 3 + 2 * i
        · exact (hF.step (rTx i (by omega)) ea (fun j g1 g2 => by rw [up_n (by omega), up_n (by omega), up_n (by omega)])) j j1 j3
        · rcases (show j = 3 + 2 * i ∨ j = 4 + 2 * i by omega) with rfl | rfl
          · rw [up_s]
            refine EqE_obj l0 ?_
            simp only [List.map_cons, List.map_nil, fv, rf, GA]
            rw [e1, e2]
            rfl
          · rw [up_n (by omega), show 4 + 2 * i = 3 + 2 * i + 1 by omega, up_s, show 3 + 2 * i + 1 = 4 + 2 * i by omega]
            exact EqE_zI l1 (fun q hq => rfl)
    )
  refine k_aload_n hX dX7_init_0 rfl ⟨_, rfl⟩ (RC.go (b := 1) rfl ?_)
  refine k_obj hX (by decide) dX7_init_1 ml_X7_1 (Nat.le_of_ble_eq_true rfl) (RC.go (b := 4) rfl ?_)
  refine k_aload_n hX dX7_init_4 rfl ⟨_, rfl⟩ (RC.go (b := 5) rfl ?_)
  refine k_bipush (v := 14) hX dX7_init_5 (by decide) (RC.go (b := 7) rfl ?_)
  refine k_newq (N := 14) (t := 4) hX dX7_init_7 kl_X7_9 (hX.2.2.2.2.2.2.1.2.1.2.2.2) rfl rfl (by decide) (by omega) (by omega) (fun q_7 => RC.go (b := 10) rfl ?_)
  refine k_put hX hN dX7_init_10 fl_X7_11 fu_7_0 (k := 0) (by rw [up_n (by omega)]; exact ha) (by omega) (by rw [up_n (by omega)]; exact hc) (Nat.le_of_ble_eq_true rfl) rfl rfl (RC.go (b := 13) rfl ?_)
  refine k_bipush (v := 96) hX dX7_init_13 (by decide) (RC.go (b := 15) rfl ?_)
  refine k_newi (N := 96) hX dX7_init_15 rfl (by decide) (by omega) (by omega) (fun q_15 => RC.go (b := 17) rfl ?_)
  refine k_astore_n hX dX7_init_17 (by decide) ⟨_, rfl⟩ (RC.go (b := 18) rfl ?_)
  refine k_iconst (v := 0) hX dX7_init_18 (by decide) (RC.go (b := 19) rfl ?_)
  refine k_istore_n hX dX7_init_19 (by decide) (RC.go (b := 20) rfl ?_)
  refine RC.cut (tA 0 (by omega) _ _ (by rw [up_n (by omega), up_n (by omega)]; exact ha) (by rw [up_n (by omega), up_s, up_n (by omega), up_s]; rfl) ⟨fun _ => none, by rw [up_n (by omega), up_n (by omega)]; exact up_s, fun q hq => by omega⟩ (fun j j1 j2 => ?_)) (List.forall_mem_cons.mpr ⟨rfl, List.forall_mem_cons.mpr ⟨by rw [up_s]; rfl, List.forall_mem_cons.mpr ⟨rfl, fun _ h => absurd h List.not_mem_nil⟩⟩⟩)
  have : j = 2 := by omega
  subst this
  rw [up_s]
  exact EqE_zI (rfl : lay 2 = lI 96 4 0) (fun i hi => rfl)
