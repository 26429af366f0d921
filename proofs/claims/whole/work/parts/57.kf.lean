/-! constructors: the reference's -/
set_option maxHeartbeats 20000000 in
theorem c_X8_init {G : GM} {a : Nat} {ad : Nat → Nat} {c : Nat → va_E} (ha : ad 109 = a) (hc : c 109 = .inr (8, df_8)) : CC G yX8_init cX8_init 2 1 18 10396 [.ref a] 110 ad c 128 (fun ad' c' => (∀ j, j < 110 → ad' j = ad j) ∧ (∀ j, j < 109 → c' j = c j) ∧ FR_ G 109 128 ad' c') := by
  refine CC.of cd_X8_init (Nat.le_of_ble_eq_true rfl) ?_
  intro X hX hZ hN
  have hX : FC X G RX8 cX8_init 2 1 18 10396 := hX
  show RC X G 2 0 0 110 ad c 0 (ll [(0, .ref a)]) []
  have tail : ∀ (ad1 : Nat → Nat) (c1 : Nat → va_E), (∀ j, j < 110 → ad1 j = ad j) → (∀ j, j < 109 → c1 j = c j) → (∀ j, 109 ≤ j → j < 128 → j ≠ 110 → j ≠ 113 → EqE G (c1 j) (ce (GA G ad1) σ0 j)) → (∃ fs, c1 109 = .inr (8, fs) ∧ fs[0]? = some (.ref (ad1 110)) ∧ fs[4]? = some (.ref (ad1 113))) → c1 110 = zI G 3171 → c1 113 = zI G 4 → RC X G 2 18 10396 128 ad1 c1 147 (ll [(0, .ref a)]) [] := by
    intro ad1 c1 h1 h2 h3 h9 h10 h13
    obtain ⟨fs, k9, k0, k4⟩ := h9
    have ha1 : ad1 109 = a := by rw [h1 109 (by omega)]; exact ha
    have loop := loopK 4 (fun i => ∀ (c2 : Nat → va_E) (g : Nat → Int32), (∀ j, j ≠ 113 → c2 j = up c1 110 (.inl (G.2.1 0, 3171, .inl (upd (fun _ => 0) 6 1))) j) → c2 113 = .inl (G.2.1 0, 4, .inl g) → (∀ q, q < i → g q = -1) → RC X G 2 18 10396 128 ad1 c2 157 (ll [(0, .ref a), (1, .int (nI i))]) []) (by
      intro i hi ih c2 g u1 u2 u3
      have k9' : c2 109 = .inr (8, fs) := by rw [u1 109 (by omega), up_n (by omega)]; exact k9
      refine k_iload_n hX dX8_init_157 rfl (RC.go (b := 158) rfl ?_)
      refine k_iconst (v := 4) hX dX8_init_158 (by decide) (RC.go (b := 159) rfl ?_)
      refine k_icmp_ge (tgt := 175) hX dX8_init_159 rfl (fun h => ?_) (fun h => RC.go (b := 162) rfl ?_)
      · have hi2 : i = 4 := by rw [show (4 : Int32) = nI 4 from rfl, nI_leI (by omega) (by omega)] at h; omega
        subst hi2
        have fin : FR_ G 109 128 ad1 c2 := by
          intro j j1 j2
          by_cases c13 : j = 113
          · subst c13
            rw [u2]
            exact EqE_int (rfl : lay 113 = lI 4 23 0) (fun q hq => by rw [u3 q hq]; show (-1 : Int32) = if 0 + q < 4 then -1 else 0; rw [if_pos (by omega)])
          · rw [u1 j c13]
            by_cases c10 : j = 110
            · subst c10
              rw [up_s]
              refine EqE_int (rfl : lay 110 = lI 3171 20 0) (fun q hq => ?_)
              show upd (fun _ => 0) 6 1 q = if 0 + q = 6 then 1 else 0
              unfold upd
              rw [Nat.zero_add]
            · rw [up_n c10]
              exact h3 j j1 j2 c10 c13
        exact k_ret (n0 := 0) hX hZ dX8_init_175 (by omega) (by omega) rfl (⟨h1, fun j hj => by rw [u1 j (by omega), up_n (by omega)]; exact h2 j hj, fin⟩)
      · have hi2 : i < 4 := by rw [show (4 : Int32) = nI 4 from rfl, nI_leI (by omega) (by omega)] at h; omega
        refine k_aload_n hX dX8_init_162 rfl ⟨_, rfl⟩ (RC.go (b := 163) rfl ?_)
        refine k_get (v := .ref (ad1 113)) hX dX8_init_163 fl_X8_19 (k := 109) ha1 (by omega) k9' k4 (RC.go (b := 166) rfl ?_)
        refine k_iload_n hX dX8_init_166 rfl (RC.go (b := 167) rfl ?_)
        refine k_iconst (v := -1) hX dX8_init_167 (by decide) (RC.go (b := 168) rfl ?_)
        refine k_iast hX dX8_init_168 (k := 113) (j := i) rfl (by omega) u2 rfl hi2 (by omega) (RC.go (b := 169) rfl ?_)
        refine k_iinc hX dX8_init_169 rfl (by decide) (nI_1 i) (RC.go (b := 172) rfl ?_)
        refine k_goto (tgt := 157) hX dX8_init_172 rfl ?_
        refine RC.cut (ih hi2 _ (upd g i (-1)) (fun j hj => by rw [up_n hj]; exact u1 j hj) up_s (fun q hq => ?_)) (List.forall_mem_cons.mpr ⟨rfl, List.forall_mem_cons.mpr ⟨rfl, fun _ h => absurd h List.not_mem_nil⟩⟩)
        by_cases e : q = i
        · rw [e, pk_us]
        · rw [pk_un e]; exact u3 q (by omega)
      )
    refine k_aload_n hX dX8_init_147 rfl ⟨_, rfl⟩ (RC.go (b := 148) rfl ?_)
    refine k_get (v := .ref (ad1 110)) hX dX8_init_148 fl_X8_7 (k := 109) ha1 (by omega) k9 k0 (RC.go (b := 151) rfl ?_)
    refine k_bipush (v := 6) hX dX8_init_151 (by decide) (RC.go (b := 153) rfl ?_)
    refine k_iconst (v := 1) hX dX8_init_153 (by decide) (RC.go (b := 154) rfl ?_)
    refine k_iast hX dX8_init_154 (k := 110) (j := 6) rfl (by omega) h10 rfl (by decide) (by decide) (RC.go (b := 155) rfl ?_)
    refine k_iconst (v := 0) hX dX8_init_155 (by decide) (RC.go (b := 156) rfl ?_)
    refine k_istore_n hX dX8_init_156 (by decide) (RC.go (b := 157) rfl ?_)
    exact RC.cut (loop 0 (by omega) _ (fun _ => 0) (fun j hj => rfl) (by rw [up_n (by omega)]; exact h13) (fun q hq => by omega)) (List.forall_mem_cons.mpr ⟨rfl, List.forall_mem_cons.mpr ⟨rfl, fun _ h => absurd h List.not_mem_nil⟩⟩)
  refine k_aload_n hX dX8_init_0 rfl ⟨_, rfl⟩ (RC.go (b := 1) rfl ?_)
  refine k_obj hX (by decide) dX8_init_1 ml_X8_1 (Nat.le_of_ble_eq_true rfl) (RC.go (b := 4) rfl ?_)
  refine k_aload_n hX dX8_init_4 rfl ⟨_, rfl⟩ (RC.go (b := 5) rfl ?_)
  refine k_sipush (v := 3171) hX dX8_init_5 (by decide) (RC.go (b := 8) rfl ?_)
  refine k_newi (N := 3171) hX dX8_init_8 rfl (by decide) (by omega) (by omega) (fun q_8 => RC.go (b := 10) rfl ?_)
  refine k_put hX hN dX8_init_10 fl_X8_7 fu_8_0 (k := 109) ha (by omega) hc (Nat.le_of_ble_eq_true rfl) rfl rfl (RC.go (b := 13) rfl ?_)
  refine k_aload_n hX dX8_init_13 rfl ⟨_, rfl⟩ (RC.go (b := 14) rfl ?_)
  refine k_sipush (v := 3171) hX dX8_init_14 (by decide) (RC.go (b := 17) rfl ?_)
  refine k_newi (N := 3171) hX dX8_init_17 rfl (by decide) (by omega) (by omega) (fun q_17 => RC.go (b := 19) rfl ?_)
  refine k_put hX hN dX8_init_19 fl_X8_13 fu_8_1 (k := 109) ha (by omega) rfl (Nat.le_of_ble_eq_true rfl) rfl rfl (RC.go (b := 22) rfl ?_)
  refine k_aload_n hX dX8_init_22 rfl ⟨_, rfl⟩ (RC.go (b := 23) rfl ?_)
  refine k_sipush (v := 3171) hX dX8_init_23 (by decide) (RC.go (b := 26) rfl ?_)
  refine k_newi (N := 3171) hX dX8_init_26 rfl (by decide) (by omega) (by omega) (fun q_26 => RC.go (b := 28) rfl ?_)
  refine k_put hX hN dX8_init_28 fl_X8_16 fu_8_2 (k := 109) ha (by omega) rfl (Nat.le_of_ble_eq_true rfl) rfl rfl (RC.go (b := 31) rfl ?_)
  refine k_aload_n hX dX8_init_31 rfl ⟨_, rfl⟩ (RC.go (b := 32) rfl ?_)
  refine k_iconst (v := 4) hX dX8_init_32 (by decide) (RC.go (b := 33) rfl ?_)
  refine k_newi (N := 4) hX dX8_init_33 rfl (by decide) (by omega) (by omega) (fun q_33 => RC.go (b := 35) rfl ?_)
  refine k_put hX hN dX8_init_35 fl_X8_19 fu_8_4 (k := 109) ha (by omega) rfl (Nat.le_of_ble_eq_true rfl) rfl rfl (RC.go (b := 38) rfl ?_)
  refine k_aload_n hX dX8_init_38 rfl ⟨_, rfl⟩ (RC.go (b := 39) rfl ?_)
  refine k_iconst (v := 4) hX dX8_init_39 (by decide) (RC.go (b := 40) rfl ?_)
  refine k_newi (N := 4) hX dX8_init_40 rfl (by decide) (by omega) (by omega) (fun q_40 => RC.go (b := 42) rfl ?_)
  refine k_put hX hN dX8_init_42 fl_X8_22 fu_8_5 (k := 109) ha (by omega) rfl (Nat.le_of_ble_eq_true rfl) rfl rfl (RC.go (b := 45) rfl ?_)
  refine k_aload_n hX dX8_init_45 rfl ⟨_, rfl⟩ (RC.go (b := 46) rfl ?_)
  refine k_bipush (v := 96) hX dX8_init_46 (by decide) (RC.go (b := 48) rfl ?_)
  refine k_newi (N := 96) hX dX8_init_48 rfl (by decide) (by omega) (by omega) (fun q_48 => RC.go (b := 50) rfl ?_)
  refine k_put hX hN dX8_init_50 fl_X8_25 fu_8_6 (k := 109) ha (by omega) rfl (Nat.le_of_ble_eq_true rfl) rfl rfl (RC.go (b := 53) rfl ?_)
  refine k_aload_n hX dX8_init_53 rfl ⟨_, rfl⟩ (RC.go (b := 54) rfl ?_)
  refine k_iconst (v := 5) hX dX8_init_54 (by decide) (RC.go (b := 55) rfl ?_)
  refine k_newi (N := 5) hX dX8_init_55 rfl (by decide) (by omega) (by omega) (fun q_55 => RC.go (b := 57) rfl ?_)
  refine k_put hX hN dX8_init_57 fl_X8_28 fu_8_7 (k := 109) ha (by omega) rfl (Nat.le_of_ble_eq_true rfl) rfl rfl (RC.go (b := 60) rfl ?_)
  refine k_aload_n hX dX8_init_60 rfl ⟨_, rfl⟩ (RC.go (b := 61) rfl ?_)
  refine k_iconst (v := 5) hX dX8_init_61 (by decide) (RC.go (b := 62) rfl ?_)
  refine k_newi (N := 5) hX dX8_init_62 rfl (by decide) (by omega) (by omega) (fun q_62 => RC.go (b := 64) rfl ?_)
  refine k_put hX hN dX8_init_64 fl_X8_31 fu_8_8 (k := 109) ha (by omega) rfl (Nat.le_of_ble_eq_true rfl) rfl rfl (RC.go (b := 67) rfl ?_)
  refine k_aload_n hX dX8_init_67 rfl ⟨_, rfl⟩ (RC.go (b := 68) rfl ?_)
  refine k_iconst (v := 5) hX dX8_init_68 (by decide) (RC.go (b := 69) rfl ?_)
  refine k_newi (N := 5) hX dX8_init_69 rfl (by decide) (by omega) (by omega) (fun q_69 => RC.go (b := 71) rfl ?_)
  refine k_put hX hN dX8_init_71 fl_X8_34 fu_8_9 (k := 109) ha (by omega) rfl (Nat.le_of_ble_eq_true rfl) rfl rfl (RC.go (b := 74) rfl ?_)
  refine k_aload_n hX dX8_init_74 rfl ⟨_, rfl⟩ (RC.go (b := 75) rfl ?_)
  refine k_iconst (v := 5) hX dX8_init_75 (by decide) (RC.go (b := 76) rfl ?_)
  refine k_newi (N := 5) hX dX8_init_76 rfl (by decide) (by omega) (by omega) (fun q_76 => RC.go (b := 78) rfl ?_)
  refine k_put hX hN dX8_init_78 fl_X8_37 fu_8_10 (k := 109) ha (by omega) rfl (Nat.le_of_ble_eq_true rfl) rfl rfl (RC.go (b := 81) rfl ?_)
  refine k_aload_n hX dX8_init_81 rfl ⟨_, rfl⟩ (RC.go (b := 82) rfl ?_)
  refine k_bipush (v := 120) hX dX8_init_82 (by decide) (RC.go (b := 84) rfl ?_)
  refine k_newi (N := 120) hX dX8_init_84 rfl (by decide) (by omega) (by omega) (fun q_84 => RC.go (b := 86) rfl ?_)
  refine k_put hX hN dX8_init_86 fl_X8_40 fu_8_11 (k := 109) ha (by omega) rfl (Nat.le_of_ble_eq_true rfl) rfl rfl (RC.go (b := 89) rfl ?_)
  refine k_aload_n hX dX8_init_89 rfl ⟨_, rfl⟩ (RC.go (b := 90) rfl ?_)
  refine k_sipush (v := 171) hX dX8_init_90 (by decide) (RC.go (b := 93) rfl ?_)
  refine k_newi (N := 171) hX dX8_init_93 rfl (by decide) (by omega) (by omega) (fun q_93 => RC.go (b := 95) rfl ?_)
  refine k_put hX hN dX8_init_95 fl_X8_43 fu_8_12 (k := 109) ha (by omega) rfl (Nat.le_of_ble_eq_true rfl) rfl rfl (RC.go (b := 98) rfl ?_)
  refine k_aload_n hX dX8_init_98 rfl ⟨_, rfl⟩ (RC.go (b := 99) rfl ?_)
  refine k_bipush (v := 96) hX dX8_init_99 (by decide) (RC.go (b := 101) rfl ?_)
  refine k_newi (N := 96) hX dX8_init_101 rfl (by decide) (by omega) (by omega) (fun q_101 => RC.go (b := 103) rfl ?_)
  refine k_put hX hN dX8_init_103 fl_X8_46 fu_8_13 (k := 109) ha (by omega) rfl (Nat.le_of_ble_eq_true rfl) rfl rfl (RC.go (b := 106) rfl ?_)
  refine k_aload_n hX dX8_init_106 rfl ⟨_, rfl⟩ (RC.go (b := 107) rfl ?_)
  refine k_sipush (v := 128) hX dX8_init_107 (by decide) (RC.go (b := 110) rfl ?_)
  refine k_newi (N := 128) hX dX8_init_110 rfl (by decide) (by omega) (by omega) (fun q_110 => RC.go (b := 112) rfl ?_)
  refine k_put hX hN dX8_init_112 fl_X8_49 fu_8_25 (k := 109) ha (by omega) rfl (Nat.le_of_ble_eq_true rfl) rfl rfl (RC.go (b := 115) rfl ?_)
  refine k_aload_n hX dX8_init_115 rfl ⟨_, rfl⟩ (RC.go (b := 116) rfl ?_)
  refine k_bipush (v := 100) hX dX8_init_116 (by decide) (RC.go (b := 118) rfl ?_)
  refine k_newi (N := 100) hX dX8_init_118 rfl (by decide) (by omega) (by omega) (fun q_118 => RC.go (b := 120) rfl ?_)
  refine k_put hX hN dX8_init_120 fl_X8_52 fu_8_26 (k := 109) ha (by omega) rfl (Nat.le_of_ble_eq_true rfl) rfl rfl (RC.go (b := 123) rfl ?_)
  refine k_aload_n hX dX8_init_123 rfl ⟨_, rfl⟩ (RC.go (b := 124) rfl ?_)
  refine k_bipush (v := 24) hX dX8_init_124 (by decide) (RC.go (b := 126) rfl ?_)
  refine k_newi (N := 24) hX dX8_init_126 rfl (by decide) (by omega) (by omega) (fun q_126 => RC.go (b := 128) rfl ?_)
  refine k_put hX hN dX8_init_128 fl_X8_55 fu_8_27 (k := 109) ha (by omega) rfl (Nat.le_of_ble_eq_true rfl) rfl rfl (RC.go (b := 131) rfl ?_)
  refine k_aload_n hX dX8_init_131 rfl ⟨_, rfl⟩ (RC.go (b := 132) rfl ?_)
  refine k_bipush (v := 60) hX dX8_init_132 (by decide) (RC.go (b := 134) rfl ?_)
  refine k_newi (N := 60) hX dX8_init_134 rfl (by decide) (by omega) (by omega) (fun q_134 => RC.go (b := 136) rfl ?_)
  refine k_put hX hN dX8_init_136 fl_X8_58 fu_8_28 (k := 109) ha (by omega) rfl (Nat.le_of_ble_eq_true rfl) rfl rfl (RC.go (b := 139) rfl ?_)
  refine k_aload_n hX dX8_init_139 rfl ⟨_, rfl⟩ (RC.go (b := 140) rfl ?_)
  refine k_bipush (v := 60) hX dX8_init_140 (by decide) (RC.go (b := 142) rfl ?_)
  refine k_newi (N := 60) hX dX8_init_142 rfl (by decide) (by omega) (by omega) (fun q_142 => RC.go (b := 144) rfl ?_)
  refine k_put hX hN dX8_init_144 fl_X8_61 fu_8_30 (k := 109) ha (by omega) rfl (Nat.le_of_ble_eq_true rfl) rfl rfl (RC.go (b := 147) rfl ?_)
  refine RC.cut (tail _ _ (fun j hj => ?_) (fun j hj => ?_) (fun j j1 j2 n10 n13 => ?_) ⟨_, rfl, rfl, rfl⟩ rfl rfl) (List.forall_mem_cons.mpr ⟨rfl, fun _ h => absurd h List.not_mem_nil⟩)
  · rw [up_n (by omega), up_n (by omega), up_n (by omega), up_n (by omega), up_n (by omega), up_n (by omega), up_n (by omega), up_n (by omega), up_n (by omega), up_n (by omega), up_n (by omega), up_n (by omega), up_n (by omega), up_n (by omega), up_n (by omega), up_n (by omega), up_n (by omega), up_n (by omega)]
  · rw [up_n (by omega), up_n (by omega), up_n (by omega), up_n (by omega), up_n (by omega), up_n (by omega), up_n (by omega), up_n (by omega), up_n (by omega), up_n (by omega), up_n (by omega), up_n (by omega), up_n (by omega), up_n (by omega), up_n (by omega), up_n (by omega), up_n (by omega), up_n (by omega), up_n (by omega), up_n (by omega), up_n (by omega), up_n (by omega), up_n (by omega), up_n (by omega), up_n (by omega), up_n (by omega), up_n (by omega), up_n (by omega), up_n (by omega), up_n (by omega), up_n (by omega), up_n (by omega), up_n (by omega), up_n (by omega), up_n (by omega), up_n (by omega)]
  · rcases (show j = 109 ∨ j = 111 ∨ j = 112 ∨ j = 114 ∨ j = 115 ∨ j = 116 ∨ j = 117 ∨ j = 118 ∨ j = 119 ∨ j = 120 ∨ j = 121 ∨ j = 122 ∨ j = 123 ∨ j = 124 ∨ j = 125 ∨ j = 126 ∨ j = 127 by omega) with rfl | rfl | rfl | rfl | rfl | rfl | rfl | rfl | rfl | rfl | rfl | rfl | rfl | rfl | rfl | rfl | rfl
    · exact EqE_obj (rfl : lay 109 = lO 8 [fR 110, fR 111, fR 112, fI 38 0, fR 113, fR 114, fR 115, fR 116, fR 117, fR 118, fR 119, fR 120, fR 121, fR 122, fI 38 1, fI 38 2, fI 38 3, fI 38 4, fI 38 5, fI 38 6, fI 38 7, fI 38 8, fI 38 9, fI 38 10, fI 38 11, fR 123, fR 124, fR 125, fR 126, fI 38 12, fR 127]) rfl
    · exact EqE_zI (rfl : lay 111 = lI 3171 21 0) (fun i hi => rfl)
    · exact EqE_zI (rfl : lay 112 = lI 3171 22 0) (fun i hi => rfl)
    · exact EqE_zI (rfl : lay 114 = lI 4 24 0) (fun i hi => rfl)
    · exact EqE_zI (rfl : lay 115 = lI 96 25 0) (fun i hi => rfl)
    · exact EqE_zI (rfl : lay 116 = lI 5 26 0) (fun i hi => rfl)
    · exact EqE_zI (rfl : lay 117 = lI 5 27 0) (fun i hi => rfl)
    · exact EqE_zI (rfl : lay 118 = lI 5 28 0) (fun i hi => rfl)
    · exact EqE_zI (rfl : lay 119 = lI 5 29 0) (fun i hi => rfl)
    · exact EqE_zI (rfl : lay 120 = lI 120 30 0) (fun i hi => rfl)
    · exact EqE_zI (rfl : lay 121 = lI 171 31 0) (fun i hi => rfl)
    · exact EqE_zI (rfl : lay 122 = lI 96 32 0) (fun i hi => rfl)
    · exact EqE_zI (rfl : lay 123 = lI 128 33 0) (fun i hi => rfl)
    · exact EqE_zI (rfl : lay 124 = lI 100 34 0) (fun i hi => rfl)
    · exact EqE_zI (rfl : lay 125 = lI 24 35 0) (fun i hi => rfl)
    · exact EqE_zI (rfl : lay 126 = lI 60 36 0) (fun i hi => rfl)
    · exact EqE_zI (rfl : lay 127 = lI 60 37 0) (fun i hi => rfl)
