/-! the class: the rest of a world -/
set_option maxHeartbeats 4000000 in
set_option maxRecDepth 100000 in
theorem c_X0_become {G : GM} {σ : SG} {k1 k2 r1 o1 r2 o2 : Nat} (h1 : lay k1 = lyM r1 o1) (h2 : lay k2 = lyM r2 o2) (hr : r1 ≠ r2) : CU G yX0_become cX0_become 2 none 0 [rf G k1, rf G k2] σ (fun s => s = sr σ r1 (upd (upd (upd (upd (upd (σ r1) o1 (σ r2 o2)) (o1 + 1) (σ r2 (o2 + 1))) (o1 + 2) (σ r2 (o2 + 2))) (o1 + 3) (σ r2 (o2 + 3))) (o1 + 4) (σ r2 (o2 + 4)))) := by
  refine Con.of cd_X0_become (Nat.le_of_ble_eq_true rfl) ?_
  intro X hX hZ
  have hX : Fx X G RX0 cX0_become 2 0 := hX
  show RR X G 2 0 (ll [(0, rf G k1), (1, rf G k2)]) [] σ
  refine r_aload_n hX dX0_become_0 rfl ⟨_, rfl⟩ (RR.pc (b := 1) rfl ?_)
  refine r_aload_n hX dX0_become_1 rfl ⟨_, rfl⟩ (RR.pc (b := 2) rfl ?_)
  refine r_geti hX dX0_become_2 fl_X0_9 (by first | rfl | assumption) rfl (RR.pc (b := 5) rfl ?_)
  refine r_puti hX dX0_become_5 fl_X0_9 (by first | rfl | assumption) rfl ft_0_0 (RR.pc (b := 8) rfl ?_)
  refine r_aload_n hX dX0_become_8 rfl ⟨_, rfl⟩ (RR.pc (b := 9) rfl ?_)
  refine r_aload_n hX dX0_become_9 rfl ⟨_, rfl⟩ (RR.pc (b := 10) rfl ?_)
  refine r_geti hX dX0_become_10 fl_X0_15 (by first | rfl | assumption) rfl (RR.pc (b := 13) rfl ?_)
  refine r_puti hX dX0_become_13 fl_X0_15 (by first | rfl | assumption) rfl ft_0_1 (RR.pc (b := 16) rfl ?_)
  refine r_aload_n hX dX0_become_16 rfl ⟨_, rfl⟩ (RR.pc (b := 17) rfl ?_)
  refine r_aload_n hX dX0_become_17 rfl ⟨_, rfl⟩ (RR.pc (b := 18) rfl ?_)
  refine r_geti hX dX0_become_18 fl_X0_18 (by first | rfl | assumption) rfl (RR.pc (b := 21) rfl ?_)
  refine r_puti hX dX0_become_21 fl_X0_18 (by first | rfl | assumption) rfl ft_0_2 (RR.pc (b := 24) rfl ?_)
  refine r_aload_n hX dX0_become_24 rfl ⟨_, rfl⟩ (RR.pc (b := 25) rfl ?_)
  refine r_aload_n hX dX0_become_25 rfl ⟨_, rfl⟩ (RR.pc (b := 26) rfl ?_)
  refine r_geti hX dX0_become_26 fl_X0_21 (by first | rfl | assumption) rfl (RR.pc (b := 29) rfl ?_)
  refine r_puti hX dX0_become_29 fl_X0_21 (by first | rfl | assumption) rfl ft_0_3 (RR.pc (b := 32) rfl ?_)
  refine r_aload_n hX dX0_become_32 rfl ⟨_, rfl⟩ (RR.pc (b := 33) rfl ?_)
  refine r_aload_n hX dX0_become_33 rfl ⟨_, rfl⟩ (RR.pc (b := 34) rfl ?_)
  refine r_geti hX dX0_become_34 fl_X0_24 (by first | rfl | assumption) rfl (RR.pc (b := 37) rfl ?_)
  refine r_puti hX dX0_become_37 fl_X0_24 (by first | rfl | assumption) rfl ft_0_4 (RR.pc (b := 40) rfl ?_)
  exact r_vret hX hZ dX0_become_40 ⟨rfl, by simp only [su_ne (Ne.symm hr), su, sr_eq, sr_sr, sr_ne (Ne.symm hr)]⟩
def becM (g f : Nat → Int32) : Nat → (Nat → Int32)
  | 0 => g
  | k + 1 => upd (upd (upd (upd (upd (becM g f k) (131 + 5 * k) (f (131 + 5 * k))) (131 + 5 * k + 1) (f (131 + 5 * k + 1))) (131 + 5 * k + 2) (f (131 + 5 * k + 2))) (131 + 5 * k + 3) (f (131 + 5 * k + 3))) (131 + 5 * k + 4) (f (131 + 5 * k + 4))
theorem becM_at {g f : Nat → Int32} {i : Nat} : ∀ {k : Nat}, becM g f k i = if 131 ≤ i ∧ i < 131 + 5 * k then f i else g i := by
  intro k
  induction k with
  | zero => rw [if_neg (by omega)]; rfl
  | succ k ih =>
    unfold becM
    by_cases h : 131 + 5 * k ≤ i ∧ i < 136 + 5 * k
    · rw [if_pos (by omega)]
      rcases (show i = 131 + 5 * k ∨ i = 131 + 5 * k + 1 ∨ i = 131 + 5 * k + 2 ∨ i = 131 + 5 * k + 3 ∨ i = 131 + 5 * k + 4 by omega) with rfl | rfl | rfl | rfl | rfl
      · rw [pk_un (by omega), pk_un (by omega), pk_un (by omega), pk_un (by omega), pk_us]
      · rw [pk_un (by omega), pk_un (by omega), pk_un (by omega), pk_us]
      · rw [pk_un (by omega), pk_un (by omega), pk_us]
      · rw [pk_un (by omega), pk_us]
      · rw [pk_us]
    · rw [pk_un (by omega), pk_un (by omega), pk_un (by omega), pk_un (by omega), pk_un (by omega), ih]
      by_cases h2 : 131 ≤ i ∧ i < 131 + 5 * k
      · rw [if_pos h2, if_pos (by omega)]
      · rw [if_neg h2, if_neg (by omega)]
/-- a world becomes another one, of n mules -/
def becW (g f : Nat → Int32) (n : Nat) : Nat → Int32 := fun i => if i < 131 + 5 * n then f i else if 171 ≤ i ∧ i < 174 then f i else g i
theorem becW_eq {g f : Nat → Int32} {n : Nat} (h8 : n ≤ 8) : upd (upd (upd (upd (upd (upd (upd (cpR f (cpR f (cpR f (cpR f (becM g f n) 11 11 60) 71 71 60) 7 7 4) 171 171 3) 0 (f 0)) 3 (f 3)) 4 (f 4)) 5 (f 5)) 2 (f 2)) 6 (f 6)) 1 (f 1) = becW g f n := by
  funext i
  unfold becW
  by_cases h0 : i < 7
  · rw [if_pos (by omega)]
    rcases (show i = 0 ∨ i = 1 ∨ i = 2 ∨ i = 3 ∨ i = 4 ∨ i = 5 ∨ i = 6 by omega) with rfl | rfl | rfl | rfl | rfl | rfl | rfl <;> rfl
  · rw [pk_un (by omega), pk_un (by omega), pk_un (by omega), pk_un (by omega), pk_un (by omega), pk_un (by omega), pk_un (by omega)]
    unfold cpR
    by_cases a : 171 ≤ i ∧ i < 174
    · rw [if_pos (by omega), if_neg (by omega), if_pos a, show 171 + (i - 171) = i by omega]
    · rw [if_neg (by omega)]
      by_cases b : 7 ≤ i ∧ i < 11
      · rw [if_pos (by omega), if_pos (by omega), show 7 + (i - 7) = i by omega]
      · rw [if_neg (by omega)]
        by_cases c : 71 ≤ i ∧ i < 131
        · rw [if_pos (by omega), if_pos (by omega), show 71 + (i - 71) = i by omega]
        · rw [if_neg (by omega)]
          by_cases d : 11 ≤ i ∧ i < 71
          · rw [if_pos (by omega), if_pos (by omega), show 11 + (i - 11) = i by omega]
          · rw [if_neg (by omega), becM_at]
            by_cases e : i < 131 + 5 * n
            · rw [if_pos (by omega), if_pos e]
            · rw [if_neg (by omega), if_neg e, if_neg a]
set_option maxHeartbeats 4000000 in
set_option maxRecDepth 100000 in
theorem c_X6_become {G : GM} {σ : SG} {w u n : Nat} (hw : w < 3) (hu : u < 3) (hwu : w ≠ u) (hN : σ u 0 = nI n) (h8 : n ≤ 8) : CU G yX6_become cX6_become 3 none 1 [rf G (36 + 14 * w), rf G (36 + 14 * u)] σ (fun s => s = sr σ w (becW (σ w) (σ u) n)) := by
  refine Con.of cd_X6_become (Nat.le_of_ble_eq_true rfl) ?_
  intro X hX hZ
  have hX : Fx X G RX6 cX6_become 3 1 := hX
  show RR X G 3 0 (ll [(0, rf G (36 + 14 * w)), (1, rf G (36 + 14 * u))]) [] σ
  obtain ⟨l0, l1, l2, l3, l4, l5⟩ := layW hw
  obtain ⟨k0, k1, k2, k3, k4, k5⟩ := layW hu
  have loop := loopK n (fun k => RR X G 3 2 (ll [(0, rf G (36 + 14 * w)), (1, rf G (36 + 14 * u)), (2, .int (nI k))]) [] (sr σ w (becM (σ w) (σ u) k))) (by
    intro k hk ih
    refine r_iload_n (i := 0) hX dX6_become_2 rfl (RR.pc (b := 3) rfl ?_)
    refine r_aload_n hX dX6_become_3 rfl ⟨_, rfl⟩ (RR.pc (b := 4) rfl ?_)
    refine r_geti hX dX6_become_4 fl_X6_46 (by first | rfl | assumption) rfl (RR.pc (b := 7) rfl ?_)
    rw [sr_ne (Ne.symm hwu), hN]
    refine r_icmp_ge (tgt := 31) hX dX6_become_7 rfl (fun h7 => ?_) (fun h7 => RR.pc (b := 10) rfl ?_)
    · have hk2 : k = n := by rw [nI_leI (by omega) (by omega)] at h7; omega
      subst hk2
      refine r_aload_n hX dX6_become_31 rfl ⟨_, rfl⟩ (RR.pc (b := 32) rfl ?_)
      refine r_getr hX dX6_become_32 fl_X6_22 (by first | rfl | assumption) rfl (RR.pc (b := 35) rfl ?_)
      refine r_iconst (v := 0) hX dX6_become_35 (by decide) (RR.pc (b := 36) rfl ?_)
      refine r_aload_n hX dX6_become_36 rfl ⟨_, rfl⟩ (RR.pc (b := 37) rfl ?_)
      refine r_getr hX dX6_become_37 fl_X6_22 (by first | rfl | assumption) rfl (RR.pc (b := 40) rfl ?_)
      refine r_iconst (v := 0) hX dX6_become_40 (by decide) (RR.pc (b := 41) rfl ?_)
      refine r_bipush (v := 60) hX dX6_become_41 (by decide) (RR.pc (b := 43) rfl ?_)
      refine r_copy hX (by decide) dX6_become_43 ml_X6_53 k2 l2 (by decide) (by decide) (by decide) (by decide) (by decide) (by decide) (Nat.le_of_ble_eq_true rfl) rfl rfl rfl (RR.pc (b := 46) rfl ?_)
      refine r_aload_n hX dX6_become_46 rfl ⟨_, rfl⟩ (RR.pc (b := 47) rfl ?_)
      refine r_getr hX dX6_become_47 fl_X6_26 (by first | rfl | assumption) rfl (RR.pc (b := 50) rfl ?_)
      refine r_iconst (v := 0) hX dX6_become_50 (by decide) (RR.pc (b := 51) rfl ?_)
      refine r_aload_n hX dX6_become_51 rfl ⟨_, rfl⟩ (RR.pc (b := 52) rfl ?_)
      refine r_getr hX dX6_become_52 fl_X6_26 (by first | rfl | assumption) rfl (RR.pc (b := 55) rfl ?_)
      refine r_iconst (v := 0) hX dX6_become_55 (by decide) (RR.pc (b := 56) rfl ?_)
      refine r_bipush (v := 60) hX dX6_become_56 (by decide) (RR.pc (b := 58) rfl ?_)
      refine r_copy hX (by decide) dX6_become_58 ml_X6_53 k3 l3 (by decide) (by decide) (by decide) (by decide) (by decide) (by decide) (Nat.le_of_ble_eq_true rfl) rfl rfl rfl (RR.pc (b := 61) rfl ?_)
      refine r_aload_n hX dX6_become_61 rfl ⟨_, rfl⟩ (RR.pc (b := 62) rfl ?_)
      refine r_getr hX dX6_become_62 fl_X6_29 (by first | rfl | assumption) rfl (RR.pc (b := 65) rfl ?_)
      refine r_iconst (v := 0) hX dX6_become_65 (by decide) (RR.pc (b := 66) rfl ?_)
      refine r_aload_n hX dX6_become_66 rfl ⟨_, rfl⟩ (RR.pc (b := 67) rfl ?_)
      refine r_getr hX dX6_become_67 fl_X6_29 (by first | rfl | assumption) rfl (RR.pc (b := 70) rfl ?_)
      refine r_iconst (v := 0) hX dX6_become_70 (by decide) (RR.pc (b := 71) rfl ?_)
      refine r_iconst (v := 4) hX dX6_become_71 (by decide) (RR.pc (b := 72) rfl ?_)
      refine r_copy hX (by decide) dX6_become_72 ml_X6_53 k4 l4 (by decide) (by decide) (by decide) (by decide) (by decide) (by decide) (Nat.le_of_ble_eq_true rfl) rfl rfl rfl (RR.pc (b := 75) rfl ?_)
      refine r_aload_n hX dX6_become_75 rfl ⟨_, rfl⟩ (RR.pc (b := 76) rfl ?_)
      refine r_getr hX dX6_become_76 fl_X6_32 (by first | rfl | assumption) rfl (RR.pc (b := 79) rfl ?_)
      refine r_iconst (v := 0) hX dX6_become_79 (by decide) (RR.pc (b := 80) rfl ?_)
      refine r_aload_n hX dX6_become_80 rfl ⟨_, rfl⟩ (RR.pc (b := 81) rfl ?_)
      refine r_getr hX dX6_become_81 fl_X6_32 (by first | rfl | assumption) rfl (RR.pc (b := 84) rfl ?_)
      refine r_iconst (v := 0) hX dX6_become_84 (by decide) (RR.pc (b := 85) rfl ?_)
      refine r_iconst (v := 3) hX dX6_become_85 (by decide) (RR.pc (b := 86) rfl ?_)
      refine r_copy hX (by decide) dX6_become_86 ml_X6_53 k5 l5 (by decide) (by decide) (by decide) (by decide) (by decide) (by decide) (Nat.le_of_ble_eq_true rfl) rfl rfl rfl (RR.pc (b := 89) rfl ?_)
      refine r_aload_n hX dX6_become_89 rfl ⟨_, rfl⟩ (RR.pc (b := 90) rfl ?_)
      refine r_aload_n hX dX6_become_90 rfl ⟨_, rfl⟩ (RR.pc (b := 91) rfl ?_)
      refine r_geti hX dX6_become_91 fl_X6_46 (by first | rfl | assumption) rfl (RR.pc (b := 94) rfl ?_)
      refine r_puti hX dX6_become_94 fl_X6_46 (by first | rfl | assumption) rfl ft_6_6 (RR.pc (b := 97) rfl ?_)
      refine r_aload_n hX dX6_become_97 rfl ⟨_, rfl⟩ (RR.pc (b := 98) rfl ?_)
      refine r_aload_n hX dX6_become_98 rfl ⟨_, rfl⟩ (RR.pc (b := 99) rfl ?_)
      refine r_geti hX dX6_become_99 fl_X6_59 (by first | rfl | assumption) rfl (RR.pc (b := 102) rfl ?_)
      refine r_puti hX dX6_become_102 fl_X6_59 (by first | rfl | assumption) rfl ft_6_7 (RR.pc (b := 105) rfl ?_)
      refine r_aload_n hX dX6_become_105 rfl ⟨_, rfl⟩ (RR.pc (b := 106) rfl ?_)
      refine r_aload_n hX dX6_become_106 rfl ⟨_, rfl⟩ (RR.pc (b := 107) rfl ?_)
      refine r_geti hX dX6_become_107 fl_X6_62 (by first | rfl | assumption) rfl (RR.pc (b := 110) rfl ?_)
      refine r_puti hX dX6_become_110 fl_X6_62 (by first | rfl | assumption) rfl ft_6_8 (RR.pc (b := 113) rfl ?_)
      refine r_aload_n hX dX6_become_113 rfl ⟨_, rfl⟩ (RR.pc (b := 114) rfl ?_)
      refine r_aload_n hX dX6_become_114 rfl ⟨_, rfl⟩ (RR.pc (b := 115) rfl ?_)
      refine r_geti hX dX6_become_115 fl_X6_65 (by first | rfl | assumption) rfl (RR.pc (b := 118) rfl ?_)
      refine r_puti hX dX6_become_118 fl_X6_65 (by first | rfl | assumption) rfl ft_6_9 (RR.pc (b := 121) rfl ?_)
      refine r_aload_n hX dX6_become_121 rfl ⟨_, rfl⟩ (RR.pc (b := 122) rfl ?_)
      refine r_aload_n hX dX6_become_122 rfl ⟨_, rfl⟩ (RR.pc (b := 123) rfl ?_)
      refine r_geti hX dX6_become_123 fl_X6_68 (by first | rfl | assumption) rfl (RR.pc (b := 126) rfl ?_)
      refine r_puti hX dX6_become_126 fl_X6_68 (by first | rfl | assumption) rfl ft_6_10 (RR.pc (b := 129) rfl ?_)
      refine r_aload_n hX dX6_become_129 rfl ⟨_, rfl⟩ (RR.pc (b := 130) rfl ?_)
      refine r_aload_n hX dX6_become_130 rfl ⟨_, rfl⟩ (RR.pc (b := 131) rfl ?_)
      refine r_geti hX dX6_become_131 fl_X6_42 (by first | rfl | assumption) rfl (RR.pc (b := 134) rfl ?_)
      refine r_puti hX dX6_become_134 fl_X6_42 (by first | rfl | assumption) rfl ft_6_11 (RR.pc (b := 137) rfl ?_)
      refine r_aload_n hX dX6_become_137 rfl ⟨_, rfl⟩ (RR.pc (b := 138) rfl ?_)
      refine r_aload_n hX dX6_become_138 rfl ⟨_, rfl⟩ (RR.pc (b := 139) rfl ?_)
      refine r_geti hX dX6_become_139 fl_X6_71 (by first | rfl | assumption) rfl (RR.pc (b := 142) rfl ?_)
      refine r_puti hX dX6_become_142 fl_X6_71 (by first | rfl | assumption) rfl ft_6_12 (RR.pc (b := 145) rfl ?_)
      exact r_vret hX hZ dX6_become_145 ⟨rfl, by simp only [su, sr_eq, sr_sr, sr_ne (Ne.symm hwu)]; rw [← becW_eq h8]⟩
    · have hk2 : k < n := by rw [nI_leI (by omega) (by omega)] at h7; omega
      have lm := layM (w := w) (i := k) hw (by omega)
      have km := layM (w := u) (i := k) hu (by omega)
      refine r_aload_n hX dX6_become_10 rfl ⟨_, rfl⟩ (RR.pc (b := 11) rfl ?_)
      refine r_getr hX dX6_become_11 fl_X6_17 (by first | rfl | assumption) rfl (RR.pc (b := 14) rfl ?_)
      refine r_iload_n (i := 0) hX dX6_become_14 rfl (RR.pc (b := 15) rfl ?_)
      refine r_aald hX dX6_become_15 (by first | rfl | assumption) ⟨_, rfl⟩ rfl (by omega) (by decide) (RR.pc (b := 16) rfl ?_)
      refine r_aload_n hX dX6_become_16 rfl ⟨_, rfl⟩ (RR.pc (b := 17) rfl ?_)
      refine r_getr hX dX6_become_17 fl_X6_17 (by first | rfl | assumption) rfl (RR.pc (b := 20) rfl ?_)
      refine r_iload_n (i := 0) hX dX6_become_20 rfl (RR.pc (b := 21) rfl ?_)
      refine r_aald hX dX6_become_21 (by first | rfl | assumption) ⟨_, rfl⟩ rfl (by omega) (by decide) (RR.pc (b := 22) rfl ?_)
      refine r_callVve hX dX6_become_22 ml_X6_49 cd_X0_become iv_X0_become (c_X0_become lm km hwu) (by decide) (by first | rfl | assumption) rfl rfl rfl rfl (Nat.le_of_ble_eq_true rfl) (RR.pc (b := 25) rfl ?_)
      refine r_iinc hX dX6_become_25 rfl (by decide) (nI_1 k) (RR.pc (b := 28) rfl ?_)
      refine r_goto (tgt := 2) hX dX6_become_28 rfl ?_
      refine RR.eqs ?_ (RR.cut (ih hk2) (List.forall_mem_cons.mpr ⟨rfl, List.forall_mem_cons.mpr ⟨rfl, List.forall_mem_cons.mpr ⟨rfl, fun _ h => absurd h List.not_mem_nil⟩⟩⟩))
      rw [sr_sr, sr_eq, sr_ne (Ne.symm hwu)]
      rfl
    )
  refine r_iconst (v := 0) hX dX6_become_0 (by decide) (RR.pc (b := 1) rfl ?_)
  refine r_istore_n hX dX6_become_1 (by decide) (RR.pc (b := 2) rfl ?_)
  exact RR.eqs (sr_self (r := w)).symm (RR.cut (loop 0 (by omega)) (List.forall_mem_cons.mpr ⟨rfl, List.forall_mem_cons.mpr ⟨rfl, List.forall_mem_cons.mpr ⟨rfl, fun _ h => absurd h List.not_mem_nil⟩⟩⟩))
theorem addM_eq {f : Nat → Int32} {n : Nat} {kind pace grain hole : Int32} : upd (upd (upd (upd (upd (upd f (131 + 5 * n) kind) (131 + 5 * n + 1) pace) (131 + 5 * n + 2) 0) (131 + 5 * n + 3) grain) (131 + 5 * n + 4) hole) 0 (nI (n + 1)) = addM f n kind pace grain hole := by
  funext i
  by_cases h0 : i = 0
  · subst h0; rw [pk_us, addM_0]
  · rw [pk_un h0]
    unfold addM
    unfold upd
    repeat' split
    all_goals first | rfl | omega
set_option maxHeartbeats 4000000 in
set_option maxRecDepth 100000 in
theorem c_X6_addMule {G : GM} {σ : SG} {w n : Nat} {kind pace grain hole : Int32} (hw : w < 3) (hN : σ w 0 = nI n) (h8 : n < 8) : CU G yX6_addMule cX6_addMule 6 none 0 [rf G (36 + 14 * w), .int kind, .int pace, .int grain, .int hole] σ (fun s => s = sr σ w (addM (σ w) n kind pace grain hole)) := by
  refine Con.of cd_X6_addMule (Nat.le_of_ble_eq_true rfl) ?_
  intro X hX hZ
  have hX : Fx X G RX6 cX6_addMule 6 0 := hX
  show RR X G 6 0 (ll [(0, rf G (36 + 14 * w)), (1, .int kind), (2, .int pace), (3, .int grain), (4, .int hole)]) [] σ
  obtain ⟨l0, l1, l2, l3, l4, l5⟩ := layW hw
  have lm := layM (w := w) (i := n) hw h8
  refine r_aload_n hX dX6_addMule_0 rfl ⟨_, rfl⟩ (RR.pc (b := 1) rfl ?_)
  refine r_geti hX dX6_addMule_1 fl_X6_46 (by first | rfl | assumption) rfl (RR.pc (b := 4) rfl ?_)
  refine r_bipush (v := 8) hX dX6_addMule_4 (by decide) (RR.pc (b := 6) rfl ?_)
  rw [hN]
  refine r_icmp_lt (tgt := 10) hX dX6_addMule_6 rfl (fun h6 => ?_) (fun h6 => absurd (nI_lt (b := 8) h8 (by omega)) h6)
  refine r_aload_n hX dX6_addMule_10 rfl ⟨_, rfl⟩ (RR.pc (b := 11) rfl ?_)
  refine r_getr hX dX6_addMule_11 fl_X6_17 (by first | rfl | assumption) rfl (RR.pc (b := 14) rfl ?_)
  refine r_aload_n hX dX6_addMule_14 rfl ⟨_, rfl⟩ (RR.pc (b := 15) rfl ?_)
  refine r_geti hX dX6_addMule_15 fl_X6_46 (by first | rfl | assumption) rfl (RR.pc (b := 18) rfl ?_)
  rw [hN]
  refine r_aald hX dX6_addMule_18 (by first | rfl | assumption) ⟨_, rfl⟩ rfl (by omega) (by decide) (RR.pc (b := 19) rfl ?_)
  refine r_astore hX dX6_addMule_19 (by decide) ⟨_, rfl⟩ (RR.pc (b := 21) rfl ?_)
  refine r_aload hX dX6_addMule_21 rfl ⟨_, rfl⟩ (RR.pc (b := 23) rfl ?_)
  refine r_iload_n (i := 0) hX dX6_addMule_23 rfl (RR.pc (b := 24) rfl ?_)
  refine r_puti hX dX6_addMule_24 fl_X6_74 (by first | rfl | assumption) rfl ft_0_0 (RR.pc (b := 27) rfl ?_)
  refine r_aload hX dX6_addMule_27 rfl ⟨_, rfl⟩ (RR.pc (b := 29) rfl ?_)
  refine r_iload_n (i := 0) hX dX6_addMule_29 rfl (RR.pc (b := 30) rfl ?_)
  refine r_puti hX dX6_addMule_30 fl_X6_77 (by first | rfl | assumption) rfl ft_0_1 (RR.pc (b := 33) rfl ?_)
  refine r_aload hX dX6_addMule_33 rfl ⟨_, rfl⟩ (RR.pc (b := 35) rfl ?_)
  refine r_iconst (v := 0) hX dX6_addMule_35 (by decide) (RR.pc (b := 36) rfl ?_)
  refine r_puti hX dX6_addMule_36 fl_X6_80 (by first | rfl | assumption) rfl ft_0_2 (RR.pc (b := 39) rfl ?_)
  refine r_aload hX dX6_addMule_39 rfl ⟨_, rfl⟩ (RR.pc (b := 41) rfl ?_)
  refine r_iload_n (i := 0) hX dX6_addMule_41 rfl (RR.pc (b := 42) rfl ?_)
  refine r_puti hX dX6_addMule_42 fl_X6_83 (by first | rfl | assumption) rfl ft_0_3 (RR.pc (b := 45) rfl ?_)
  refine r_aload hX dX6_addMule_45 rfl ⟨_, rfl⟩ (RR.pc (b := 47) rfl ?_)
  refine r_iload hX dX6_addMule_47 rfl (RR.pc (b := 49) rfl ?_)
  refine r_puti hX dX6_addMule_49 fl_X6_86 (by first | rfl | assumption) rfl ft_0_4 (RR.pc (b := 52) rfl ?_)
  refine r_aload_n hX dX6_addMule_52 rfl ⟨_, rfl⟩ (RR.pc (b := 53) rfl ?_)
  refine r_dup hX dX6_addMule_53 rfl (RR.pc (b := 54) rfl ?_)
  refine r_geti hX dX6_addMule_54 fl_X6_46 (by first | rfl | assumption) rfl (RR.pc (b := 57) rfl ?_)
  simp only [su, sr_eq, sr_sr]
  rw [pk_un (by omega), pk_un (by omega), pk_un (by omega), pk_un (by omega), pk_un (by omega), hN]
  refine r_iconst (v := 1) hX dX6_addMule_57 (by decide) (RR.pc (b := 58) rfl ?_)
  refine r_iadd hX dX6_addMule_58 (RR.pc (b := 59) rfl ?_)
  rw [nI_1]
  refine r_puti hX dX6_addMule_59 fl_X6_46 (by first | rfl | assumption) rfl ft_6_6 (RR.pc (b := 62) rfl ?_)
  exact r_vret hX hZ dX6_addMule_62 ⟨rfl, by rw [su_sr, addM_eq]⟩
set_option maxHeartbeats 4000000 in
set_option maxRecDepth 100000 in
theorem c_X6_drawMule {G : GM} {σ : SG} {w n : Nat} (hw : w < 3) (hN : σ w 0 = nI n) (h8 : n < 8) : CU G yX6_drawMule cX6_drawMule 5 none 1 [rf G (36 + 14 * w)] σ (fun s => s = sr σ w (addM (upd (σ w) 6 (dz (dz (dz (dz (σ w 6)))))) n (nI (dn (dz (σ w 6)) % 6)) (nI (1 + dn (dz (dz (σ w 6))) % 9)) (nI (dn (dz (dz (dz (σ w 6)))) % 1000)) (nI (dn (dz (dz (dz (dz (σ w 6))))) % 30)))) := by
  refine Con.of cd_X6_drawMule (Nat.le_of_ble_eq_true rfl) ?_
  intro X hX hZ
  have hX : Fx X G RX6 cX6_drawMule 5 1 := hX
  show RR X G 5 0 (ll [(0, rf G (36 + 14 * w))]) [] σ
  obtain ⟨l0, l1, l2, l3, l4, l5⟩ := layW hw
  have d1 := dn_lt (dz (σ w 6))
  have d2 := dn_lt (dz (dz (σ w 6)))
  have d3 := dn_lt (dz (dz (dz (σ w 6))))
  have d4 := dn_lt (dz (dz (dz (dz (σ w 6)))))
  refine r_aload_n hX dX6_drawMule_0 rfl ⟨_, rfl⟩ (RR.pc (b := 1) rfl ?_)
  refine r_callVie hX dX6_drawMule_1 ml_X6_89 cd_X6_draw iv_X6_draw (c_X6_draw hw) (by decide) (by first | rfl | assumption) rfl rfl rfl rfl (Nat.le_of_ble_eq_true rfl) (RR.pc (b := 4) rfl ?_)
  refine r_bipush (v := 6) hX dX6_drawMule_4 (by decide) (RR.pc (b := 6) rfl ?_)
  refine r_irem hX dX6_drawMule_6 (by decide) (RR.pc (b := 7) rfl ?_)
  rw [rem_lit (by omega) (by decide) (by decide)]
  refine r_istore_n hX dX6_drawMule_7 (by decide) (RR.pc (b := 8) rfl ?_)
  refine r_iconst (v := 1) hX dX6_drawMule_8 (by decide) (RR.pc (b := 9) rfl ?_)
  refine r_aload_n hX dX6_drawMule_9 rfl ⟨_, rfl⟩ (RR.pc (b := 10) rfl ?_)
  refine r_callVie hX dX6_drawMule_10 ml_X6_89 cd_X6_draw iv_X6_draw (c_X6_draw hw) (by decide) (by first | rfl | assumption) rfl rfl rfl rfl (Nat.le_of_ble_eq_true rfl) (RR.pc (b := 13) rfl ?_)
  simp only [su_eq, pk_us]
  refine r_bipush (v := 9) hX dX6_drawMule_13 (by decide) (RR.pc (b := 15) rfl ?_)
  refine r_irem hX dX6_drawMule_15 (by decide) (RR.pc (b := 16) rfl ?_)
  rw [rem_lit (by omega) (by decide) (by decide), show (1 : Int32) = nI 1 from rfl]
  refine r_iadd hX dX6_drawMule_16 (RR.pc (b := 17) rfl ?_)
  rw [nI_add]
  refine r_istore_n hX dX6_drawMule_17 (by decide) (RR.pc (b := 18) rfl ?_)
  refine r_aload_n hX dX6_drawMule_18 rfl ⟨_, rfl⟩ (RR.pc (b := 19) rfl ?_)
  refine r_callVie hX dX6_drawMule_19 ml_X6_89 cd_X6_draw iv_X6_draw (c_X6_draw hw) (by decide) (by first | rfl | assumption) rfl rfl rfl rfl (Nat.le_of_ble_eq_true rfl) (RR.pc (b := 22) rfl ?_)
  simp only [su_eq, pk_us]
  refine r_sipush (v := 1000) hX dX6_drawMule_22 (by decide) (RR.pc (b := 25) rfl ?_)
  refine r_irem hX dX6_drawMule_25 (by decide) (RR.pc (b := 26) rfl ?_)
  rw [rem_lit (by omega) (by decide) (by decide)]
  refine r_istore_n hX dX6_drawMule_26 (by decide) (RR.pc (b := 27) rfl ?_)
  refine r_aload_n hX dX6_drawMule_27 rfl ⟨_, rfl⟩ (RR.pc (b := 28) rfl ?_)
  refine r_callVie hX dX6_drawMule_28 ml_X6_89 cd_X6_draw iv_X6_draw (c_X6_draw hw) (by decide) (by first | rfl | assumption) rfl rfl rfl rfl (Nat.le_of_ble_eq_true rfl) (RR.pc (b := 31) rfl ?_)
  simp only [su_eq, pk_us]
  refine r_bipush (v := 30) hX dX6_drawMule_31 (by decide) (RR.pc (b := 33) rfl ?_)
  refine r_irem hX dX6_drawMule_33 (by decide) (RR.pc (b := 34) rfl ?_)
  rw [rem_lit (by omega) (by decide) (by decide)]
  refine r_istore hX dX6_drawMule_34 (by decide) (RR.pc (b := 36) rfl ?_)
  refine r_aload_n hX dX6_drawMule_36 rfl ⟨_, rfl⟩ (RR.pc (b := 37) rfl ?_)
  refine r_iload_n (i := 0) hX dX6_drawMule_37 rfl (RR.pc (b := 38) rfl ?_)
  refine r_iload_n (i := 0) hX dX6_drawMule_38 rfl (RR.pc (b := 39) rfl ?_)
  refine r_iload_n (i := 0) hX dX6_drawMule_39 rfl (RR.pc (b := 40) rfl ?_)
  refine r_iload hX dX6_drawMule_40 rfl (RR.pc (b := 42) rfl ?_)
  refine r_callVve hX dX6_drawMule_42 ml_X6_93 cd_X6_addMule iv_X6_addMule (c_X6_addMule hw (n := n) (by simp only [su_eq]; rw [pk_un (by decide), pk_un (by decide), pk_un (by decide), pk_un (by decide)]; exact hN) h8) (by decide) (by first | rfl | assumption) rfl rfl rfl rfl (Nat.le_of_ble_eq_true rfl) (RR.pc (b := 45) rfl ?_)
  exact r_vret hX hZ dX6_drawMule_45 ⟨rfl, by simp only [su, sr_eq, sr_sr, upd_upd]⟩
set_option maxHeartbeats 4000000 in
set_option maxRecDepth 100000 in
theorem c_X6_sprout {G : GM} {σ : SG} {w : Nat} (hw : w < 3) : CI G yX6_sprout cX6_sprout 4 (some .int) 0 [rf G (36 + 14 * w)] σ (fun r s => r = rainS (σ w) 60 ∧ s = sr σ w (rainW (σ w) 60)) := by
  refine Con.of cd_X6_sprout (Nat.le_of_ble_eq_true rfl) ?_
  intro X hX hZ
  have hX : Fx X G RX6 cX6_sprout 4 0 := hX
  show RR X G 4 0 (ll [(0, rf G (36 + 14 * w))]) [] σ
  obtain ⟨l0, l1, l2, l3, l4, l5⟩ := layW hw
  have loop := loopK 60 (fun k => RR X G 4 4 (ll [(0, rf G (36 + 14 * w)), (1, .int (rainS (σ w) k)), (2, .int (nI k))]) [] (sr σ w (rainW (σ w) k))) (by
    intro k hk ih
    refine r_iload_n (i := 0) hX dX6_sprout_4 rfl (RR.pc (b := 5) rfl ?_)
    refine r_bipush (v := 60) hX dX6_sprout_5 (by decide) (RR.pc (b := 7) rfl ?_)
    refine r_icmp_ge (tgt := 50) hX dX6_sprout_7 rfl (fun h7 => ?_) (fun h7 => RR.pc (b := 10) rfl ?_)
    · have hk2 : k = 60 := by rw [show (60 : Int32) = nI 60 from rfl, nI_leI (by omega) (by omega)] at h7; omega
      subst hk2
      refine r_iload_n (i := 0) hX dX6_sprout_50 rfl (RR.pc (b := 51) rfl ?_)
      exact r_iret hX hZ dX6_sprout_51 ⟨_, rfl, ⟨rfl, rfl⟩⟩
    · have hk2 : k < 60 := by rw [show (60 : Int32) = nI 60 from rfl, nI_leI (by omega) (by omega)] at h7; omega
      refine r_aload_n hX dX6_sprout_10 rfl ⟨_, rfl⟩ (RR.pc (b := 11) rfl ?_)
      refine r_getr hX dX6_sprout_11 fl_X6_22 (by first | rfl | assumption) rfl (RR.pc (b := 14) rfl ?_)
      refine r_iload_n (i := 0) hX dX6_sprout_14 rfl (RR.pc (b := 15) rfl ?_)
      refine r_iald hX dX6_sprout_15 (by first | rfl | assumption) rfl (by omega) (by decide) (by first | exact Nat.zero_add _ | rfl) (RR.pc (b := 16) rfl ?_)
      rw [sr_eq]
      refine r_bipush (v := 10) hX dX6_sprout_16 (by decide) (RR.pc (b := 18) rfl ?_)
      refine r_idiv hX dX6_sprout_18 (by decide) (RR.pc (b := 19) rfl ?_)
      refine r_istore_n hX dX6_sprout_19 (by decide) (RR.pc (b := 20) rfl ?_)
      refine r_aload_n hX dX6_sprout_20 rfl ⟨_, rfl⟩ (RR.pc (b := 21) rfl ?_)
      refine r_getr hX dX6_sprout_21 fl_X6_22 (by first | rfl | assumption) rfl (RR.pc (b := 24) rfl ?_)
      refine r_iload_n (i := 0) hX dX6_sprout_24 rfl (RR.pc (b := 25) rfl ?_)
      refine r_dup2_11 hX dX6_sprout_25 rfl rfl (RR.pc (b := 26) rfl ?_)
      refine r_iald hX dX6_sprout_26 (by first | rfl | assumption) rfl (by omega) (by decide) (by first | exact Nat.zero_add _ | rfl) (RR.pc (b := 27) rfl ?_)
      refine r_iload_n (i := 0) hX dX6_sprout_27 rfl (RR.pc (b := 28) rfl ?_)
      refine r_isub hX dX6_sprout_28 (RR.pc (b := 29) rfl ?_)
      refine r_iast hX dX6_sprout_29 (by first | rfl | assumption) rfl (by omega) (by decide) (by first | exact Nat.zero_add _ | rfl) (RR.pc (b := 30) rfl ?_)
      refine r_aload_n hX dX6_sprout_30 rfl ⟨_, rfl⟩ (RR.pc (b := 31) rfl ?_)
      refine r_getr hX dX6_sprout_31 fl_X6_26 (by first | rfl | assumption) rfl (RR.pc (b := 34) rfl ?_)
      refine r_iload_n (i := 0) hX dX6_sprout_34 rfl (RR.pc (b := 35) rfl ?_)
      refine r_dup2_11 hX dX6_sprout_35 rfl rfl (RR.pc (b := 36) rfl ?_)
      refine r_iald hX dX6_sprout_36 (by first | rfl | assumption) rfl (by omega) (by decide) (by first | exact Nat.zero_add _ | rfl) (RR.pc (b := 37) rfl ?_)
      refine r_iload_n (i := 0) hX dX6_sprout_37 rfl (RR.pc (b := 38) rfl ?_)
      refine r_iadd hX dX6_sprout_38 (RR.pc (b := 39) rfl ?_)
      refine r_iast hX dX6_sprout_39 (by first | rfl | assumption) rfl (by omega) (by decide) (by first | exact Nat.zero_add _ | rfl) (RR.pc (b := 40) rfl ?_)
      refine r_iload_n (i := 0) hX dX6_sprout_40 rfl (RR.pc (b := 41) rfl ?_)
      refine r_iload_n (i := 0) hX dX6_sprout_41 rfl (RR.pc (b := 42) rfl ?_)
      refine r_iadd hX dX6_sprout_42 (RR.pc (b := 43) rfl ?_)
      refine r_istore_n hX dX6_sprout_43 (by decide) (RR.pc (b := 44) rfl ?_)
      refine r_iinc hX dX6_sprout_44 rfl (by decide) (nI_1 k) (RR.pc (b := 47) rfl ?_)
      refine r_goto (tgt := 4) hX dX6_sprout_47 rfl ?_
      refine RR.eqs ?_ (RR.cut (ih hk2) (List.forall_mem_cons.mpr ⟨rfl, List.forall_mem_cons.mpr ⟨rfl, List.forall_mem_cons.mpr ⟨rfl, fun _ h => absurd h List.not_mem_nil⟩⟩⟩))
      simp only [su_sr, sr_eq]
      rw [pk_un (show 71 + k ≠ 11 + k by omega)]
      rfl
    )
  refine r_iconst (v := 0) hX dX6_sprout_0 (by decide) (RR.pc (b := 1) rfl ?_)
  refine r_istore_n hX dX6_sprout_1 (by decide) (RR.pc (b := 2) rfl ?_)
  refine r_iconst (v := 0) hX dX6_sprout_2 (by decide) (RR.pc (b := 3) rfl ?_)
  refine r_istore_n hX dX6_sprout_3 (by decide) (RR.pc (b := 4) rfl ?_)
  exact RR.eqs (sr_self (r := w)).symm (RR.cut (loop 0 (by omega)) (List.forall_mem_cons.mpr ⟨rfl, List.forall_mem_cons.mpr ⟨rfl, List.forall_mem_cons.mpr ⟨rfl, fun _ h => absurd h List.not_mem_nil⟩⟩⟩))
set_option maxHeartbeats 4000000 in
set_option maxRecDepth 100000 in
theorem c_X6_takeAll {G : GM} {σ : SG} {w a : Nat} (hw : w < 3) (ha : a < 60) : CI G yX6_takeAll cX6_takeAll 3 (some .int) 2 [rf G (36 + 14 * w), .int (nI a)] σ (fun r s => r = σ w (11 + a) ∧ s = su σ w (11 + a) 0) := by
  refine Con.of cd_X6_takeAll (Nat.le_of_ble_eq_true rfl) ?_
  intro X hX hZ
  have hX : Fx X G RX6 cX6_takeAll 3 2 := hX
  show RR X G 3 0 (ll [(0, rf G (36 + 14 * w)), (1, .int (nI a))]) [] σ
  obtain ⟨l0, l1, l2, l3, l4, l5⟩ := layW hw
  refine r_iload_n (i := 0) hX dX6_takeAll_0 rfl (RR.pc (b := 1) rfl ?_)
  refine r_callSNie hX dX6_takeAll_1 (List.mem_of_getElem? (i := 5) rfl) cd_X7_isYard st_X7_isYard c_X7_isYard (by decide) rfl rfl (Nat.le_of_ble_eq_true rfl) (RR.pc (b := 4) rfl ?_)
  refine r_if_ne_b (tgt := 9) hX dX6_takeAll_4 rfl (fun h4 => ?_) (fun h4 => absurd (show (0 ≤ (nI a).toInt ∧ (nI a).toInt ≤ 59) by rw [nI_toInt (by omega)]; omega) h4)
  refine r_aload_n hX dX6_takeAll_9 rfl ⟨_, rfl⟩ (RR.pc (b := 10) rfl ?_)
  refine r_getr hX dX6_takeAll_10 fl_X6_22 (by first | rfl | assumption) rfl (RR.pc (b := 13) rfl ?_)
  refine r_iload_n (i := 0) hX dX6_takeAll_13 rfl (RR.pc (b := 14) rfl ?_)
  refine r_iald hX dX6_takeAll_14 (by first | rfl | assumption) rfl (by omega) (by decide) (by first | exact Nat.zero_add _ | rfl) (RR.pc (b := 15) rfl ?_)
  refine r_istore_n hX dX6_takeAll_15 (by decide) (RR.pc (b := 16) rfl ?_)
  refine r_aload_n hX dX6_takeAll_16 rfl ⟨_, rfl⟩ (RR.pc (b := 17) rfl ?_)
  refine r_getr hX dX6_takeAll_17 fl_X6_22 (by first | rfl | assumption) rfl (RR.pc (b := 20) rfl ?_)
  refine r_iload_n (i := 0) hX dX6_takeAll_20 rfl (RR.pc (b := 21) rfl ?_)
  refine r_iconst (v := 0) hX dX6_takeAll_21 (by decide) (RR.pc (b := 22) rfl ?_)
  refine r_iast hX dX6_takeAll_22 (by first | rfl | assumption) rfl (by omega) (by decide) (by first | exact Nat.zero_add _ | rfl) (RR.pc (b := 23) rfl ?_)
  refine r_iload_n (i := 0) hX dX6_takeAll_23 rfl (RR.pc (b := 24) rfl ?_)
  exact r_iret hX hZ dX6_takeAll_24 ⟨_, rfl, ⟨rfl, rfl⟩⟩
set_option maxHeartbeats 4000000 in
set_option maxRecDepth 100000 in
theorem c_X6_grainOfAll {G : GM} {σ : SG} {w n : Nat} (hw : w < 3) (hN : σ w 0 = nI n) (h8 : n ≤ 8) : CI G yX6_grainOfAll cX6_grainOfAll 3 (some .int) 0 [rf G (36 + 14 * w)] σ (fun r s => r = sackW (σ w) n ∧ s = σ) := by
  refine Con.of cd_X6_grainOfAll (Nat.le_of_ble_eq_true rfl) ?_
  intro X hX hZ
  have hX : Fx X G RX6 cX6_grainOfAll 3 0 := hX
  show RR X G 3 0 (ll [(0, rf G (36 + 14 * w))]) [] σ
  obtain ⟨l0, l1, l2, l3, l4, l5⟩ := layW hw
  have loop := loopK n (fun k => RR X G 3 4 (ll [(0, rf G (36 + 14 * w)), (1, .int (sackW (σ w) k)), (2, .int (nI k))]) [] σ) (by
    intro k hk ih
    refine r_iload_n (i := 0) hX dX6_grainOfAll_4 rfl (RR.pc (b := 5) rfl ?_)
    refine r_aload_n hX dX6_grainOfAll_5 rfl ⟨_, rfl⟩ (RR.pc (b := 6) rfl ?_)
    refine r_geti hX dX6_grainOfAll_6 fl_X6_46 (by first | rfl | assumption) rfl (RR.pc (b := 9) rfl ?_)
    rw [hN]
    refine r_icmp_ge (tgt := 30) hX dX6_grainOfAll_9 rfl (fun h9 => ?_) (fun h9 => RR.pc (b := 12) rfl ?_)
    · have hk2 : k = n := by rw [nI_leI (by omega) (by omega)] at h9; omega
      subst hk2
      refine r_iload_n (i := 0) hX dX6_grainOfAll_30 rfl (RR.pc (b := 31) rfl ?_)
      exact r_iret hX hZ dX6_grainOfAll_31 ⟨_, rfl, ⟨rfl, rfl⟩⟩
    · have hk2 : k < n := by rw [nI_leI (by omega) (by omega)] at h9; omega
      have lm := layM (w := w) (i := k) hw (by omega)
      refine r_iload_n (i := 0) hX dX6_grainOfAll_12 rfl (RR.pc (b := 13) rfl ?_)
      refine r_aload_n hX dX6_grainOfAll_13 rfl ⟨_, rfl⟩ (RR.pc (b := 14) rfl ?_)
      refine r_getr hX dX6_grainOfAll_14 fl_X6_17 (by first | rfl | assumption) rfl (RR.pc (b := 17) rfl ?_)
      refine r_iload_n (i := 0) hX dX6_grainOfAll_17 rfl (RR.pc (b := 18) rfl ?_)
      refine r_aald hX dX6_grainOfAll_18 (by first | rfl | assumption) ⟨_, rfl⟩ rfl (by omega) (by decide) (RR.pc (b := 19) rfl ?_)
      refine r_geti hX dX6_grainOfAll_19 fl_X6_83 (by first | rfl | assumption) rfl (RR.pc (b := 22) rfl ?_)
      refine r_iadd hX dX6_grainOfAll_22 (RR.pc (b := 23) rfl ?_)
      refine r_istore_n hX dX6_grainOfAll_23 (by decide) (RR.pc (b := 24) rfl ?_)
      refine r_iinc hX dX6_grainOfAll_24 rfl (by decide) (nI_1 k) (RR.pc (b := 27) rfl ?_)
      refine r_goto (tgt := 4) hX dX6_grainOfAll_27 rfl ?_
      exact RR.cut (ih hk2) (List.forall_mem_cons.mpr ⟨rfl, List.forall_mem_cons.mpr ⟨rfl, List.forall_mem_cons.mpr ⟨rfl, fun _ h => absurd h List.not_mem_nil⟩⟩⟩)
    )
  refine r_iconst (v := 0) hX dX6_grainOfAll_0 (by decide) (RR.pc (b := 1) rfl ?_)
  refine r_istore_n hX dX6_grainOfAll_1 (by decide) (RR.pc (b := 2) rfl ?_)
  refine r_iconst (v := 0) hX dX6_grainOfAll_2 (by decide) (RR.pc (b := 3) rfl ?_)
  refine r_istore_n hX dX6_grainOfAll_3 (by decide) (RR.pc (b := 4) rfl ?_)
  exact RR.cut (loop 0 (by omega)) (List.forall_mem_cons.mpr ⟨rfl, List.forall_mem_cons.mpr ⟨rfl, List.forall_mem_cons.mpr ⟨rfl, fun _ h => absurd h List.not_mem_nil⟩⟩⟩)
set_option maxHeartbeats 4000000 in
set_option maxRecDepth 100000 in
theorem c_X6_trail {G : GM} {σ : SG} {w : Nat} (hw : w < 3) : CI G yX6_trail cX6_trail 4 (some .int) 1 [rf G (36 + 14 * w)] σ (fun r s => r = trM (σ w) 60 ∧ s = σ) := by
  refine Con.of cd_X6_trail (Nat.le_of_ble_eq_true rfl) ?_
  intro X hX hZ
  have hX : Fx X G RX6 cX6_trail 4 1 := hX
  show RR X G 4 0 (ll [(0, rf G (36 + 14 * w))]) [] σ
  obtain ⟨l0, l1, l2, l3, l4, l5⟩ := layW hw
  have loop := loopK 60 (fun k => RR X G 4 6 (ll [(0, rf G (36 + 14 * w)), (1, .int (trM (σ w) k)), (2, .int (trL (σ w) k)), (3, .int (nI k))]) [] σ) (by
    intro k hk ih
    refine r_iload_n (i := 0) hX dX6_trail_6 rfl (RR.pc (b := 7) rfl ?_)
    refine r_bipush (v := 60) hX dX6_trail_7 (by decide) (RR.pc (b := 9) rfl ?_)
    refine r_icmp_ge (tgt := 41) hX dX6_trail_9 rfl (fun h9 => ?_) (fun h9 => RR.pc (b := 12) rfl ?_)
    · have hk2 : k = 60 := by rw [show (60 : Int32) = nI 60 from rfl, nI_leI (by omega) (by omega)] at h9; omega
      subst hk2
      refine r_iload_n (i := 0) hX dX6_trail_41 rfl (RR.pc (b := 42) rfl ?_)
      exact r_iret hX hZ dX6_trail_42 ⟨_, rfl, ⟨rfl, rfl⟩⟩
    · have hk2 : k < 60 := by rw [show (60 : Int32) = nI 60 from rfl, nI_leI (by omega) (by omega)] at h9; omega
      refine r_aload_n hX dX6_trail_12 rfl ⟨_, rfl⟩ (RR.pc (b := 13) rfl ?_)
      refine r_getr hX dX6_trail_13 fl_X6_22 (by first | rfl | assumption) rfl (RR.pc (b := 16) rfl ?_)
      refine r_iload_n (i := 0) hX dX6_trail_16 rfl (RR.pc (b := 17) rfl ?_)
      refine r_iald hX dX6_trail_17 (by first | rfl | assumption) rfl (by omega) (by decide) (by first | exact Nat.zero_add _ | rfl) (RR.pc (b := 18) rfl ?_)
      refine r_dia1 28 (trL (σ w) (k + 1)) (fun hj18 => ?_) ?_
      · refine r_if_le (tgt := 27) hX dX6_trail_18 rfl (fun h18 => ?_) (fun h18 => RR.pc (b := 21) rfl ?_)
        · refine r_iconst (v := 0) hX dX6_trail_27 (by decide) (RR.pc (b := 28) rfl ?_)
          exact RR.eqt (congrArg (fun q => Value.int q :: _) (if_pos h18).symm) hj18
        · refine r_iload_n (i := 0) hX dX6_trail_21 rfl (RR.pc (b := 22) rfl ?_)
          refine r_iconst (v := 1) hX dX6_trail_22 (by decide) (RR.pc (b := 23) rfl ?_)
          refine r_iadd hX dX6_trail_23 (RR.pc (b := 24) rfl ?_)
          refine r_goto (tgt := 28) hX dX6_trail_24 rfl ?_
          exact RR.eqt (congrArg (fun q => Value.int q :: _) (if_neg h18).symm) hj18
      refine r_istore_n hX dX6_trail_28 (by decide) (RR.pc (b := 29) rfl ?_)
      refine r_iload_n (i := 0) hX dX6_trail_29 rfl (RR.pc (b := 30) rfl ?_)
      refine r_iload_n (i := 0) hX dX6_trail_30 rfl (RR.pc (b := 31) rfl ?_)
      refine r_max hX (by decide) dX6_trail_31 ml_X6_148 (Nat.le_of_ble_eq_true rfl) (RR.pc (b := 34) rfl ?_)
      rw [show (if trM (σ w) k < trL (σ w) (k + 1) then trL (σ w) (k + 1) else trM (σ w) k) = trM (σ w) (k + 1) from by rw [trM]; by_cases e : trL (σ w) (k + 1) ≤ trM (σ w) k; (rw [if_pos e, if_neg (Int32.not_lt.mpr e)]); (rw [if_neg e, if_pos (Int32.not_le.mp e)])]
      refine r_istore_n hX dX6_trail_34 (by decide) (RR.pc (b := 35) rfl ?_)
      refine r_iinc hX dX6_trail_35 rfl (by decide) (nI_1 k) (RR.pc (b := 38) rfl ?_)
      refine r_goto (tgt := 6) hX dX6_trail_38 rfl ?_
      exact RR.cut (ih hk2) (List.forall_mem_cons.mpr ⟨rfl, List.forall_mem_cons.mpr ⟨rfl, List.forall_mem_cons.mpr ⟨rfl, List.forall_mem_cons.mpr ⟨rfl, fun _ h => absurd h List.not_mem_nil⟩⟩⟩⟩)
    )
  refine r_iconst (v := 0) hX dX6_trail_0 (by decide) (RR.pc (b := 1) rfl ?_)
  refine r_istore_n hX dX6_trail_1 (by decide) (RR.pc (b := 2) rfl ?_)
  refine r_iconst (v := 0) hX dX6_trail_2 (by decide) (RR.pc (b := 3) rfl ?_)
  refine r_istore_n hX dX6_trail_3 (by decide) (RR.pc (b := 4) rfl ?_)
  refine r_iconst (v := 0) hX dX6_trail_4 (by decide) (RR.pc (b := 5) rfl ?_)
  refine r_istore_n hX dX6_trail_5 (by decide) (RR.pc (b := 6) rfl ?_)
  exact RR.cut (loop 0 (by omega)) (List.forall_mem_cons.mpr ⟨rfl, List.forall_mem_cons.mpr ⟨rfl, List.forall_mem_cons.mpr ⟨rfl, List.forall_mem_cons.mpr ⟨rfl, fun _ h => absurd h List.not_mem_nil⟩⟩⟩⟩)
set_option maxHeartbeats 4000000 in
set_option maxRecDepth 100000 in
theorem c_X6_fullestYard {G : GM} {σ : SG} {w : Nat} (hw : w < 3) : CI G yX6_fullestYard cX6_fullestYard 3 (some .int) 0 [rf G (36 + 14 * w)] σ (fun r s => r = nI (bestY (σ w) 59) ∧ s = σ) := by
  refine Con.of cd_X6_fullestYard (Nat.le_of_ble_eq_true rfl) ?_
  intro X hX hZ
  have hX : Fx X G RX6 cX6_fullestYard 3 0 := hX
  show RR X G 3 0 (ll [(0, rf G (36 + 14 * w))]) [] σ
  obtain ⟨l0, l1, l2, l3, l4, l5⟩ := layW hw
  have loop := loopK 59 (fun k => RR X G 3 4 (ll [(0, rf G (36 + 14 * w)), (1, .int (nI (bestY (σ w) k))), (2, .int (nI (k + 1)))]) [] σ) (by
    intro k hk ih
    have hb := bestY_le (w := σ w) k
    refine r_iload_n (i := 0) hX dX6_fullestYard_4 rfl (RR.pc (b := 5) rfl ?_)
    refine r_bipush (v := 60) hX dX6_fullestYard_5 (by decide) (RR.pc (b := 7) rfl ?_)
    refine r_icmp_ge (tgt := 33) hX dX6_fullestYard_7 rfl (fun h7 => ?_) (fun h7 => RR.pc (b := 10) rfl ?_)
    · have hk2 : k = 59 := by rw [show (60 : Int32) = nI 60 from rfl, nI_leI (by omega) (by omega)] at h7; omega
      subst hk2
      refine r_iload_n (i := 0) hX dX6_fullestYard_33 rfl (RR.pc (b := 34) rfl ?_)
      exact r_iret hX hZ dX6_fullestYard_34 ⟨_, rfl, ⟨rfl, rfl⟩⟩
    · have hk2 : k < 59 := by rw [show (60 : Int32) = nI 60 from rfl, nI_leI (by omega) (by omega)] at h7; omega
      refine r_aload_n hX dX6_fullestYard_10 rfl ⟨_, rfl⟩ (RR.pc (b := 11) rfl ?_)
      refine r_getr hX dX6_fullestYard_11 fl_X6_22 (by first | rfl | assumption) rfl (RR.pc (b := 14) rfl ?_)
      refine r_iload_n (i := 0) hX dX6_fullestYard_14 rfl (RR.pc (b := 15) rfl ?_)
      refine r_iald hX dX6_fullestYard_15 (by first | rfl | assumption) rfl (by omega) (by decide) (by first | exact Nat.zero_add _ | rfl) (RR.pc (b := 16) rfl ?_)
      refine r_aload_n hX dX6_fullestYard_16 rfl ⟨_, rfl⟩ (RR.pc (b := 17) rfl ?_)
      refine r_getr hX dX6_fullestYard_17 fl_X6_22 (by first | rfl | assumption) rfl (RR.pc (b := 20) rfl ?_)
      refine r_iload_n (i := 0) hX dX6_fullestYard_20 rfl (RR.pc (b := 21) rfl ?_)
      refine r_iald hX dX6_fullestYard_21 (by first | rfl | assumption) rfl (by omega) (by decide) (by first | exact Nat.zero_add _ | rfl) (RR.pc (b := 22) rfl ?_)
      refine r_icmp_le (tgt := 27) hX dX6_fullestYard_22 rfl (fun h22 => ?_) (fun h22 => RR.pc (b := 25) rfl ?_)
      · refine r_iinc hX dX6_fullestYard_27 rfl (by decide) (nI_1 (k + 1)) (RR.pc (b := 30) rfl ?_)
        refine r_goto (tgt := 4) hX dX6_fullestYard_30 rfl ?_
        refine RR.cut (ih hk2) (List.forall_mem_cons.mpr ⟨rfl, List.forall_mem_cons.mpr ⟨?_, List.forall_mem_cons.mpr ⟨rfl, fun _ h => absurd h List.not_mem_nil⟩⟩⟩)
        show some (Value.int _) = some (Value.int _)
        rw [← bestY_nI]
        first | rw [if_pos h22] | rw [if_neg h22]
      · refine r_iload_n (i := 0) hX dX6_fullestYard_25 rfl (RR.pc (b := 26) rfl ?_)
        refine r_istore_n hX dX6_fullestYard_26 (by decide) (RR.pc (b := 27) rfl ?_)
        refine r_iinc hX dX6_fullestYard_27 rfl (by decide) (nI_1 (k + 1)) (RR.pc (b := 30) rfl ?_)
        refine r_goto (tgt := 4) hX dX6_fullestYard_30 rfl ?_
        refine RR.cut (ih hk2) (List.forall_mem_cons.mpr ⟨rfl, List.forall_mem_cons.mpr ⟨?_, List.forall_mem_cons.mpr ⟨rfl, fun _ h => absurd h List.not_mem_nil⟩⟩⟩)
        show some (Value.int _) = some (Value.int _)
        rw [← bestY_nI]
        first | rw [if_pos h22] | rw [if_neg h22]
    )
  refine r_iconst (v := 0) hX dX6_fullestYard_0 (by decide) (RR.pc (b := 1) rfl ?_)
  refine r_istore_n hX dX6_fullestYard_1 (by decide) (RR.pc (b := 2) rfl ?_)
  refine r_iconst (v := 1) hX dX6_fullestYard_2 (by decide) (RR.pc (b := 3) rfl ?_)
  refine r_istore_n hX dX6_fullestYard_3 (by decide) (RR.pc (b := 4) rfl ?_)
  exact RR.cut (loop 0 (by omega)) (List.forall_mem_cons.mpr ⟨rfl, List.forall_mem_cons.mpr ⟨rfl, List.forall_mem_cons.mpr ⟨rfl, fun _ h => absurd h List.not_mem_nil⟩⟩⟩)
set_option maxHeartbeats 4000000 in
set_option maxRecDepth 100000 in
theorem c_X6_isThrough {G : GM} {σ : SG} {w n : Nat} (hw : w < 3) (hN : σ w 0 = nI n) (h8 : n ≤ 8) : CI G yX6_isThrough cX6_isThrough 2 (some .boolean) 0 [rf G (36 + 14 * w)] σ (fun r s => r = bz (thrP (σ w) n) ∧ s = σ) := by
  refine Con.of cd_X6_isThrough (Nat.le_of_ble_eq_true rfl) ?_
  intro X hX hZ
  have hX : Fx X G RX6 cX6_isThrough 2 0 := hX
  show RR X G 2 0 (ll [(0, rf G (36 + 14 * w))]) [] σ
  obtain ⟨l0, l1, l2, l3, l4, l5⟩ := layW hw
  have loop := loopK n (fun k => (∀ j, j < k → ¬ (0 < σ w (131 + 5 * j + 3) ∧ σ w (131 + 5 * j + 2) < 59)) → RR X G 2 2 (ll [(0, rf G (36 + 14 * w)), (1, .int (nI k))]) [] σ) (by
    intro k hk ih hj
    refine r_iload_n (i := 0) hX dX6_isThrough_2 rfl (RR.pc (b := 3) rfl ?_)
    refine r_aload_n hX dX6_isThrough_3 rfl ⟨_, rfl⟩ (RR.pc (b := 4) rfl ?_)
    refine r_geti hX dX6_isThrough_4 fl_X6_46 (by first | rfl | assumption) rfl (RR.pc (b := 7) rfl ?_)
    rw [hN]
    refine r_icmp_ge (tgt := 44) hX dX6_isThrough_7 rfl (fun h7 => ?_) (fun h7 => RR.pc (b := 10) rfl ?_)
    · have hk2 : k = n := by rw [nI_leI (by omega) (by omega)] at h7; omega
      subst hk2
      refine r_iconst (v := 1) hX dX6_isThrough_44 (by decide) (RR.pc (b := 45) rfl ?_)
      exact r_zret hX hZ dX6_isThrough_45 (by first | rfl | exact nar_bz _) ⟨_, rfl, ⟨(bz_t hj).symm, rfl⟩⟩
    · have hk2 : k < n := by rw [nI_leI (by omega) (by omega)] at h7; omega
      have lm := layM (w := w) (i := k) hw (by omega)
      refine r_aload_n hX dX6_isThrough_10 rfl ⟨_, rfl⟩ (RR.pc (b := 11) rfl ?_)
      refine r_getr hX dX6_isThrough_11 fl_X6_17 (by first | rfl | assumption) rfl (RR.pc (b := 14) rfl ?_)
      refine r_iload_n (i := 0) hX dX6_isThrough_14 rfl (RR.pc (b := 15) rfl ?_)
      refine r_aald hX dX6_isThrough_15 (by first | rfl | assumption) ⟨_, rfl⟩ rfl (by omega) (by decide) (RR.pc (b := 16) rfl ?_)
      refine r_geti hX dX6_isThrough_16 fl_X6_83 (by first | rfl | assumption) rfl (RR.pc (b := 19) rfl ?_)
      refine r_if_le (tgt := 38) hX dX6_isThrough_19 rfl (fun h19 => ?_) (fun h19 => RR.pc (b := 22) rfl ?_)
      · refine r_iinc hX dX6_isThrough_38 rfl (by decide) (nI_1 k) (RR.pc (b := 41) rfl ?_)
        refine r_goto (tgt := 2) hX dX6_isThrough_41 rfl ?_
        refine RR.cut (ih hk2 (fun j hjk => ?_)) (List.forall_mem_cons.mpr ⟨rfl, List.forall_mem_cons.mpr ⟨rfl, fun _ h => absurd h List.not_mem_nil⟩⟩)
        by_cases e : j = k
        · subst e
          first | exact fun z => absurd z.1 (Int32.not_lt.mpr h19) | exact fun z => absurd z.2 (Int32.not_lt.mpr h33)
        · exact hj j (by omega)
      · refine r_aload_n hX dX6_isThrough_22 rfl ⟨_, rfl⟩ (RR.pc (b := 23) rfl ?_)
        refine r_getr hX dX6_isThrough_23 fl_X6_17 (by first | rfl | assumption) rfl (RR.pc (b := 26) rfl ?_)
        refine r_iload_n (i := 0) hX dX6_isThrough_26 rfl (RR.pc (b := 27) rfl ?_)
        refine r_aald hX dX6_isThrough_27 (by first | rfl | assumption) ⟨_, rfl⟩ rfl (by omega) (by decide) (RR.pc (b := 28) rfl ?_)
        refine r_geti hX dX6_isThrough_28 fl_X6_80 (by first | rfl | assumption) rfl (RR.pc (b := 31) rfl ?_)
        refine r_bipush (v := 59) hX dX6_isThrough_31 (by decide) (RR.pc (b := 33) rfl ?_)
        refine r_icmp_ge (tgt := 38) hX dX6_isThrough_33 rfl (fun h33 => ?_) (fun h33 => RR.pc (b := 36) rfl ?_)
        · refine r_iinc hX dX6_isThrough_38 rfl (by decide) (nI_1 k) (RR.pc (b := 41) rfl ?_)
          refine r_goto (tgt := 2) hX dX6_isThrough_41 rfl ?_
          refine RR.cut (ih hk2 (fun j hjk => ?_)) (List.forall_mem_cons.mpr ⟨rfl, List.forall_mem_cons.mpr ⟨rfl, fun _ h => absurd h List.not_mem_nil⟩⟩)
          by_cases e : j = k
          · subst e
            first | exact fun z => absurd z.1 (Int32.not_lt.mpr h19) | exact fun z => absurd z.2 (Int32.not_lt.mpr h33)
          · exact hj j (by omega)
        · refine r_iconst (v := 0) hX dX6_isThrough_36 (by decide) (RR.pc (b := 37) rfl ?_)
          exact r_zret hX hZ dX6_isThrough_37 (by first | rfl | exact nar_bz _) ⟨_, rfl, ⟨(bz_f (fun z => z k hk2 ⟨Int32.not_le.mp h19, Int32.not_le.mp h33⟩)).symm, rfl⟩⟩
    )
  refine r_iconst (v := 0) hX dX6_isThrough_0 (by decide) (RR.pc (b := 1) rfl ?_)
  refine r_istore_n hX dX6_isThrough_1 (by decide) (RR.pc (b := 2) rfl ?_)
  exact RR.cut (loop 0 (by omega) (fun j h => absurd h (Nat.not_lt_zero j))) (List.forall_mem_cons.mpr ⟨rfl, List.forall_mem_cons.mpr ⟨rfl, fun _ h => absurd h List.not_mem_nil⟩⟩)
