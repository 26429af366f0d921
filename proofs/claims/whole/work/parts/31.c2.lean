/-! the class: texts worked out -/
theorem div_m1 (x : Int32) : x / (-1) = -x := by
  apply Int32.toInt_inj.mp
  rw [Int32.toInt_div, show (-1 : Int32).toInt = -1 by decide, Int.tdiv_neg, Int.tdiv_one, Int32.toInt_neg]
set_option maxHeartbeats 4000000 in
set_option maxRecDepth 100000 in
theorem c_X4_workOut {G : GM} {σ : SG} {c x y : Int32} : CI G yX4_workOut cX4_workOut 3 (some .int) 0 [.int c, .int x, .int y] σ (fun r s => r = jn c x y ∧ s = σ) := by
  refine Con.of cd_X4_workOut (Nat.le_of_ble_eq_true rfl) ?_
  intro X hX hZ
  have hX : Fx X G RX4 cX4_workOut 3 0 := hX
  show RR X G 3 0 (ll [(0, .int c), (1, .int x), (2, .int y)]) [] σ
  refine r_iload_n (i := 0) hX dX4_workOut_0 rfl (RR.pc (b := 1) rfl ?_)
  by_cases h1_38 : c = 38
  · refine r_tableIn (tgt := 173) hX dX4_workOut_1 (by rw [h1_38]; decide) (by rw [h1_38]; decide) (by rw [h1_38]; rfl) rfl ?_
    refine r_iload_n (i := 0) hX dX4_workOut_173 rfl (RR.pc (b := 174) rfl ?_)
    refine r_if_eq (tgt := 185) hX dX4_workOut_174 rfl (fun h174 => ?_) (fun h174 => RR.pc (b := 177) rfl ?_)
    · refine r_iconst (v := 0) hX dX4_workOut_185 (by decide) (RR.pc (b := 186) rfl ?_)
      exact r_iret hX hZ dX4_workOut_186 ⟨_, rfl, ⟨by unfold jn bz; simp_all, rfl⟩⟩
    · refine r_iload_n (i := 0) hX dX4_workOut_177 rfl (RR.pc (b := 178) rfl ?_)
      refine r_if_eq (tgt := 185) hX dX4_workOut_178 rfl (fun h178 => ?_) (fun h178 => RR.pc (b := 181) rfl ?_)
      · refine r_iconst (v := 0) hX dX4_workOut_185 (by decide) (RR.pc (b := 186) rfl ?_)
        exact r_iret hX hZ dX4_workOut_186 ⟨_, rfl, ⟨by unfold jn bz; simp_all, rfl⟩⟩
      · refine r_iconst (v := 1) hX dX4_workOut_181 (by decide) (RR.pc (b := 182) rfl ?_)
        refine r_goto (tgt := 186) hX dX4_workOut_182 rfl ?_
        exact r_iret hX hZ dX4_workOut_186 ⟨_, rfl, ⟨by unfold jn bz; simp_all, rfl⟩⟩
  by_cases h1_39 : c = 39
  · refine r_tableIn (tgt := 187) hX dX4_workOut_1 (by rw [h1_39]; decide) (by rw [h1_39]; decide) (by rw [h1_39]; rfl) rfl ?_
    refine r_iload_n (i := 0) hX dX4_workOut_187 rfl (RR.pc (b := 188) rfl ?_)
    refine r_if_ne (tgt := 195) hX dX4_workOut_188 rfl (fun h188 => ?_) (fun h188 => RR.pc (b := 191) rfl ?_)
    · refine r_iconst (v := 1) hX dX4_workOut_195 (by decide) (RR.pc (b := 196) rfl ?_)
      refine r_goto (tgt := 200) hX dX4_workOut_196 rfl ?_
      exact r_iret hX hZ dX4_workOut_200 ⟨_, rfl, ⟨by unfold jn bz; simp_all, rfl⟩⟩
    · refine r_iload_n (i := 0) hX dX4_workOut_191 rfl (RR.pc (b := 192) rfl ?_)
      refine r_if_eq (tgt := 199) hX dX4_workOut_192 rfl (fun h192 => ?_) (fun h192 => RR.pc (b := 195) rfl ?_)
      · refine r_iconst (v := 0) hX dX4_workOut_199 (by decide) (RR.pc (b := 200) rfl ?_)
        exact r_iret hX hZ dX4_workOut_200 ⟨_, rfl, ⟨by unfold jn bz; simp_all, rfl⟩⟩
      · refine r_iconst (v := 1) hX dX4_workOut_195 (by decide) (RR.pc (b := 196) rfl ?_)
        refine r_goto (tgt := 200) hX dX4_workOut_196 rfl ?_
        exact r_iret hX hZ dX4_workOut_200 ⟨_, rfl, ⟨by unfold jn bz; simp_all, rfl⟩⟩
  by_cases h1_40 : c = 40
  · refine r_tableIn (tgt := 187) hX dX4_workOut_1 (by rw [h1_40]; decide) (by rw [h1_40]; decide) (by rw [h1_40]; rfl) rfl ?_
    refine r_iload_n (i := 0) hX dX4_workOut_187 rfl (RR.pc (b := 188) rfl ?_)
    refine r_if_ne (tgt := 195) hX dX4_workOut_188 rfl (fun h188 => ?_) (fun h188 => RR.pc (b := 191) rfl ?_)
    · refine r_iconst (v := 1) hX dX4_workOut_195 (by decide) (RR.pc (b := 196) rfl ?_)
      refine r_goto (tgt := 200) hX dX4_workOut_196 rfl ?_
      exact r_iret hX hZ dX4_workOut_200 ⟨_, rfl, ⟨by unfold jn bz; simp_all, rfl⟩⟩
    · refine r_iload_n (i := 0) hX dX4_workOut_191 rfl (RR.pc (b := 192) rfl ?_)
      refine r_if_eq (tgt := 199) hX dX4_workOut_192 rfl (fun h192 => ?_) (fun h192 => RR.pc (b := 195) rfl ?_)
      · refine r_iconst (v := 0) hX dX4_workOut_199 (by decide) (RR.pc (b := 200) rfl ?_)
        exact r_iret hX hZ dX4_workOut_200 ⟨_, rfl, ⟨by unfold jn bz; simp_all, rfl⟩⟩
      · refine r_iconst (v := 1) hX dX4_workOut_195 (by decide) (RR.pc (b := 196) rfl ?_)
        refine r_goto (tgt := 200) hX dX4_workOut_196 rfl ?_
        exact r_iret hX hZ dX4_workOut_200 ⟨_, rfl, ⟨by unfold jn bz; simp_all, rfl⟩⟩
  by_cases h1_41 : c = 41
  · refine r_tableIn (tgt := 187) hX dX4_workOut_1 (by rw [h1_41]; decide) (by rw [h1_41]; decide) (by rw [h1_41]; rfl) rfl ?_
    refine r_iload_n (i := 0) hX dX4_workOut_187 rfl (RR.pc (b := 188) rfl ?_)
    refine r_if_ne (tgt := 195) hX dX4_workOut_188 rfl (fun h188 => ?_) (fun h188 => RR.pc (b := 191) rfl ?_)
    · refine r_iconst (v := 1) hX dX4_workOut_195 (by decide) (RR.pc (b := 196) rfl ?_)
      refine r_goto (tgt := 200) hX dX4_workOut_196 rfl ?_
      exact r_iret hX hZ dX4_workOut_200 ⟨_, rfl, ⟨by unfold jn bz; simp_all, rfl⟩⟩
    · refine r_iload_n (i := 0) hX dX4_workOut_191 rfl (RR.pc (b := 192) rfl ?_)
      refine r_if_eq (tgt := 199) hX dX4_workOut_192 rfl (fun h192 => ?_) (fun h192 => RR.pc (b := 195) rfl ?_)
      · refine r_iconst (v := 0) hX dX4_workOut_199 (by decide) (RR.pc (b := 200) rfl ?_)
        exact r_iret hX hZ dX4_workOut_200 ⟨_, rfl, ⟨by unfold jn bz; simp_all, rfl⟩⟩
      · refine r_iconst (v := 1) hX dX4_workOut_195 (by decide) (RR.pc (b := 196) rfl ?_)
        refine r_goto (tgt := 200) hX dX4_workOut_196 rfl ?_
        exact r_iret hX hZ dX4_workOut_200 ⟨_, rfl, ⟨by unfold jn bz; simp_all, rfl⟩⟩
  by_cases h1_42 : c = 42
  · refine r_tableIn (tgt := 124) hX dX4_workOut_1 (by rw [h1_42]; decide) (by rw [h1_42]; decide) (by rw [h1_42]; rfl) rfl ?_
    refine r_iload_n (i := 0) hX dX4_workOut_124 rfl (RR.pc (b := 125) rfl ?_)
    refine r_iload_n (i := 0) hX dX4_workOut_125 rfl (RR.pc (b := 126) rfl ?_)
    refine r_imul hX dX4_workOut_126 (RR.pc (b := 127) rfl ?_)
    exact r_iret hX hZ dX4_workOut_127 ⟨_, rfl, ⟨by unfold jn bz; simp_all, rfl⟩⟩
  by_cases h1_43 : c = 43
  · refine r_tableIn (tgt := 116) hX dX4_workOut_1 (by rw [h1_43]; decide) (by rw [h1_43]; decide) (by rw [h1_43]; rfl) rfl ?_
    refine r_iload_n (i := 0) hX dX4_workOut_116 rfl (RR.pc (b := 117) rfl ?_)
    refine r_iload_n (i := 0) hX dX4_workOut_117 rfl (RR.pc (b := 118) rfl ?_)
    refine r_iadd hX dX4_workOut_118 (RR.pc (b := 119) rfl ?_)
    exact r_iret hX hZ dX4_workOut_119 ⟨_, rfl, ⟨by unfold jn bz; simp_all, rfl⟩⟩
  by_cases h1_44 : c = 44
  · refine r_tableIn (tgt := 187) hX dX4_workOut_1 (by rw [h1_44]; decide) (by rw [h1_44]; decide) (by rw [h1_44]; rfl) rfl ?_
    refine r_iload_n (i := 0) hX dX4_workOut_187 rfl (RR.pc (b := 188) rfl ?_)
    refine r_if_ne (tgt := 195) hX dX4_workOut_188 rfl (fun h188 => ?_) (fun h188 => RR.pc (b := 191) rfl ?_)
    · refine r_iconst (v := 1) hX dX4_workOut_195 (by decide) (RR.pc (b := 196) rfl ?_)
      refine r_goto (tgt := 200) hX dX4_workOut_196 rfl ?_
      exact r_iret hX hZ dX4_workOut_200 ⟨_, rfl, ⟨by unfold jn bz; simp_all, rfl⟩⟩
    · refine r_iload_n (i := 0) hX dX4_workOut_191 rfl (RR.pc (b := 192) rfl ?_)
      refine r_if_eq (tgt := 199) hX dX4_workOut_192 rfl (fun h192 => ?_) (fun h192 => RR.pc (b := 195) rfl ?_)
      · refine r_iconst (v := 0) hX dX4_workOut_199 (by decide) (RR.pc (b := 200) rfl ?_)
        exact r_iret hX hZ dX4_workOut_200 ⟨_, rfl, ⟨by unfold jn bz; simp_all, rfl⟩⟩
      · refine r_iconst (v := 1) hX dX4_workOut_195 (by decide) (RR.pc (b := 196) rfl ?_)
        refine r_goto (tgt := 200) hX dX4_workOut_196 rfl ?_
        exact r_iret hX hZ dX4_workOut_200 ⟨_, rfl, ⟨by unfold jn bz; simp_all, rfl⟩⟩
  by_cases h1_45 : c = 45
  · refine r_tableIn (tgt := 120) hX dX4_workOut_1 (by rw [h1_45]; decide) (by rw [h1_45]; decide) (by rw [h1_45]; rfl) rfl ?_
    refine r_iload_n (i := 0) hX dX4_workOut_120 rfl (RR.pc (b := 121) rfl ?_)
    refine r_iload_n (i := 0) hX dX4_workOut_121 rfl (RR.pc (b := 122) rfl ?_)
    refine r_isub hX dX4_workOut_122 (RR.pc (b := 123) rfl ?_)
    exact r_iret hX hZ dX4_workOut_123 ⟨_, rfl, ⟨by unfold jn bz; simp_all, rfl⟩⟩
  by_cases h1_46 : c = 46
  · refine r_tableIn (tgt := 187) hX dX4_workOut_1 (by rw [h1_46]; decide) (by rw [h1_46]; decide) (by rw [h1_46]; rfl) rfl ?_
    refine r_iload_n (i := 0) hX dX4_workOut_187 rfl (RR.pc (b := 188) rfl ?_)
    refine r_if_ne (tgt := 195) hX dX4_workOut_188 rfl (fun h188 => ?_) (fun h188 => RR.pc (b := 191) rfl ?_)
    · refine r_iconst (v := 1) hX dX4_workOut_195 (by decide) (RR.pc (b := 196) rfl ?_)
      refine r_goto (tgt := 200) hX dX4_workOut_196 rfl ?_
      exact r_iret hX hZ dX4_workOut_200 ⟨_, rfl, ⟨by unfold jn bz; simp_all, rfl⟩⟩
    · refine r_iload_n (i := 0) hX dX4_workOut_191 rfl (RR.pc (b := 192) rfl ?_)
      refine r_if_eq (tgt := 199) hX dX4_workOut_192 rfl (fun h192 => ?_) (fun h192 => RR.pc (b := 195) rfl ?_)
      · refine r_iconst (v := 0) hX dX4_workOut_199 (by decide) (RR.pc (b := 200) rfl ?_)
        exact r_iret hX hZ dX4_workOut_200 ⟨_, rfl, ⟨by unfold jn bz; simp_all, rfl⟩⟩
      · refine r_iconst (v := 1) hX dX4_workOut_195 (by decide) (RR.pc (b := 196) rfl ?_)
        refine r_goto (tgt := 200) hX dX4_workOut_196 rfl ?_
        exact r_iret hX hZ dX4_workOut_200 ⟨_, rfl, ⟨by unfold jn bz; simp_all, rfl⟩⟩
  by_cases h1_47 : c = 47
  · refine r_tableIn (tgt := 128) hX dX4_workOut_1 (by rw [h1_47]; decide) (by rw [h1_47]; decide) (by rw [h1_47]; rfl) rfl ?_
    refine r_iload_n (i := 0) hX dX4_workOut_128 rfl (RR.pc (b := 129) rfl ?_)
    refine r_if_ne (tgt := 136) hX dX4_workOut_129 rfl (fun h129 => ?_) (fun h129 => RR.pc (b := 132) rfl ?_)
    · refine r_iload_n (i := 0) hX dX4_workOut_136 rfl (RR.pc (b := 137) rfl ?_)
      refine r_iload_n (i := 0) hX dX4_workOut_137 rfl (RR.pc (b := 138) rfl ?_)
      refine r_idiv hX dX4_workOut_138 (by assumption) (RR.pc (b := 139) rfl ?_)
      exact r_iret hX hZ dX4_workOut_139 ⟨_, rfl, ⟨by unfold jn; rw [h1_47]; first | (rw [if_neg (by decide), if_neg (by decide), if_neg (by decide), if_neg (by decide), if_pos rfl, if_pos h129]) | (rw [if_neg (by decide), if_neg (by decide), if_neg (by decide), if_neg (by decide), if_pos rfl, if_neg h129]; split; (next e => rw [e]; exact div_m1 x); rfl), rfl⟩⟩
    · refine r_iconst (v := 0) hX dX4_workOut_132 (by decide) (RR.pc (b := 133) rfl ?_)
      refine r_goto (tgt := 139) hX dX4_workOut_133 rfl ?_
      exact r_iret hX hZ dX4_workOut_139 ⟨_, rfl, ⟨by unfold jn; rw [h1_47]; first | (rw [if_neg (by decide), if_neg (by decide), if_neg (by decide), if_neg (by decide), if_pos rfl, if_pos h129]) | (rw [if_neg (by decide), if_neg (by decide), if_neg (by decide), if_neg (by decide), if_pos rfl, if_neg h129]; split; (next e => rw [e]; exact div_m1 x); rfl), rfl⟩⟩
  by_cases h1_48 : c = 48
  · refine r_tableIn (tgt := 187) hX dX4_workOut_1 (by rw [h1_48]; decide) (by rw [h1_48]; decide) (by rw [h1_48]; rfl) rfl ?_
    refine r_iload_n (i := 0) hX dX4_workOut_187 rfl (RR.pc (b := 188) rfl ?_)
    refine r_if_ne (tgt := 195) hX dX4_workOut_188 rfl (fun h188 => ?_) (fun h188 => RR.pc (b := 191) rfl ?_)
    · refine r_iconst (v := 1) hX dX4_workOut_195 (by decide) (RR.pc (b := 196) rfl ?_)
      refine r_goto (tgt := 200) hX dX4_workOut_196 rfl ?_
      exact r_iret hX hZ dX4_workOut_200 ⟨_, rfl, ⟨by unfold jn bz; simp_all, rfl⟩⟩
    · refine r_iload_n (i := 0) hX dX4_workOut_191 rfl (RR.pc (b := 192) rfl ?_)
      refine r_if_eq (tgt := 199) hX dX4_workOut_192 rfl (fun h192 => ?_) (fun h192 => RR.pc (b := 195) rfl ?_)
      · refine r_iconst (v := 0) hX dX4_workOut_199 (by decide) (RR.pc (b := 200) rfl ?_)
        exact r_iret hX hZ dX4_workOut_200 ⟨_, rfl, ⟨by unfold jn bz; simp_all, rfl⟩⟩
      · refine r_iconst (v := 1) hX dX4_workOut_195 (by decide) (RR.pc (b := 196) rfl ?_)
        refine r_goto (tgt := 200) hX dX4_workOut_196 rfl ?_
        exact r_iret hX hZ dX4_workOut_200 ⟨_, rfl, ⟨by unfold jn bz; simp_all, rfl⟩⟩
  by_cases h1_49 : c = 49
  · refine r_tableIn (tgt := 187) hX dX4_workOut_1 (by rw [h1_49]; decide) (by rw [h1_49]; decide) (by rw [h1_49]; rfl) rfl ?_
    refine r_iload_n (i := 0) hX dX4_workOut_187 rfl (RR.pc (b := 188) rfl ?_)
    refine r_if_ne (tgt := 195) hX dX4_workOut_188 rfl (fun h188 => ?_) (fun h188 => RR.pc (b := 191) rfl ?_)
    · refine r_iconst (v := 1) hX dX4_workOut_195 (by decide) (RR.pc (b := 196) rfl ?_)
      refine r_goto (tgt := 200) hX dX4_workOut_196 rfl ?_
      exact r_iret hX hZ dX4_workOut_200 ⟨_, rfl, ⟨by unfold jn bz; simp_all, rfl⟩⟩
    · refine r_iload_n (i := 0) hX dX4_workOut_191 rfl (RR.pc (b := 192) rfl ?_)
      refine r_if_eq (tgt := 199) hX dX4_workOut_192 rfl (fun h192 => ?_) (fun h192 => RR.pc (b := 195) rfl ?_)
      · refine r_iconst (v := 0) hX dX4_workOut_199 (by decide) (RR.pc (b := 200) rfl ?_)
        exact r_iret hX hZ dX4_workOut_200 ⟨_, rfl, ⟨by unfold jn bz; simp_all, rfl⟩⟩
      · refine r_iconst (v := 1) hX dX4_workOut_195 (by decide) (RR.pc (b := 196) rfl ?_)
        refine r_goto (tgt := 200) hX dX4_workOut_196 rfl ?_
        exact r_iret hX hZ dX4_workOut_200 ⟨_, rfl, ⟨by unfold jn bz; simp_all, rfl⟩⟩
  by_cases h1_50 : c = 50
  · refine r_tableIn (tgt := 187) hX dX4_workOut_1 (by rw [h1_50]; decide) (by rw [h1_50]; decide) (by rw [h1_50]; rfl) rfl ?_
    refine r_iload_n (i := 0) hX dX4_workOut_187 rfl (RR.pc (b := 188) rfl ?_)
    refine r_if_ne (tgt := 195) hX dX4_workOut_188 rfl (fun h188 => ?_) (fun h188 => RR.pc (b := 191) rfl ?_)
    · refine r_iconst (v := 1) hX dX4_workOut_195 (by decide) (RR.pc (b := 196) rfl ?_)
      refine r_goto (tgt := 200) hX dX4_workOut_196 rfl ?_
      exact r_iret hX hZ dX4_workOut_200 ⟨_, rfl, ⟨by unfold jn bz; simp_all, rfl⟩⟩
    · refine r_iload_n (i := 0) hX dX4_workOut_191 rfl (RR.pc (b := 192) rfl ?_)
      refine r_if_eq (tgt := 199) hX dX4_workOut_192 rfl (fun h192 => ?_) (fun h192 => RR.pc (b := 195) rfl ?_)
      · refine r_iconst (v := 0) hX dX4_workOut_199 (by decide) (RR.pc (b := 200) rfl ?_)
        exact r_iret hX hZ dX4_workOut_200 ⟨_, rfl, ⟨by unfold jn bz; simp_all, rfl⟩⟩
      · refine r_iconst (v := 1) hX dX4_workOut_195 (by decide) (RR.pc (b := 196) rfl ?_)
        refine r_goto (tgt := 200) hX dX4_workOut_196 rfl ?_
        exact r_iret hX hZ dX4_workOut_200 ⟨_, rfl, ⟨by unfold jn bz; simp_all, rfl⟩⟩
  by_cases h1_51 : c = 51
  · refine r_tableIn (tgt := 187) hX dX4_workOut_1 (by rw [h1_51]; decide) (by rw [h1_51]; decide) (by rw [h1_51]; rfl) rfl ?_
    refine r_iload_n (i := 0) hX dX4_workOut_187 rfl (RR.pc (b := 188) rfl ?_)
    refine r_if_ne (tgt := 195) hX dX4_workOut_188 rfl (fun h188 => ?_) (fun h188 => RR.pc (b := 191) rfl ?_)
    · refine r_iconst (v := 1) hX dX4_workOut_195 (by decide) (RR.pc (b := 196) rfl ?_)
      refine r_goto (tgt := 200) hX dX4_workOut_196 rfl ?_
      exact r_iret hX hZ dX4_workOut_200 ⟨_, rfl, ⟨by unfold jn bz; simp_all, rfl⟩⟩
    · refine r_iload_n (i := 0) hX dX4_workOut_191 rfl (RR.pc (b := 192) rfl ?_)
      refine r_if_eq (tgt := 199) hX dX4_workOut_192 rfl (fun h192 => ?_) (fun h192 => RR.pc (b := 195) rfl ?_)
      · refine r_iconst (v := 0) hX dX4_workOut_199 (by decide) (RR.pc (b := 200) rfl ?_)
        exact r_iret hX hZ dX4_workOut_200 ⟨_, rfl, ⟨by unfold jn bz; simp_all, rfl⟩⟩
      · refine r_iconst (v := 1) hX dX4_workOut_195 (by decide) (RR.pc (b := 196) rfl ?_)
        refine r_goto (tgt := 200) hX dX4_workOut_196 rfl ?_
        exact r_iret hX hZ dX4_workOut_200 ⟨_, rfl, ⟨by unfold jn bz; simp_all, rfl⟩⟩
  by_cases h1_52 : c = 52
  · refine r_tableIn (tgt := 187) hX dX4_workOut_1 (by rw [h1_52]; decide) (by rw [h1_52]; decide) (by rw [h1_52]; rfl) rfl ?_
    refine r_iload_n (i := 0) hX dX4_workOut_187 rfl (RR.pc (b := 188) rfl ?_)
    refine r_if_ne (tgt := 195) hX dX4_workOut_188 rfl (fun h188 => ?_) (fun h188 => RR.pc (b := 191) rfl ?_)
    · refine r_iconst (v := 1) hX dX4_workOut_195 (by decide) (RR.pc (b := 196) rfl ?_)
      refine r_goto (tgt := 200) hX dX4_workOut_196 rfl ?_
      exact r_iret hX hZ dX4_workOut_200 ⟨_, rfl, ⟨by unfold jn bz; simp_all, rfl⟩⟩
    · refine r_iload_n (i := 0) hX dX4_workOut_191 rfl (RR.pc (b := 192) rfl ?_)
      refine r_if_eq (tgt := 199) hX dX4_workOut_192 rfl (fun h192 => ?_) (fun h192 => RR.pc (b := 195) rfl ?_)
      · refine r_iconst (v := 0) hX dX4_workOut_199 (by decide) (RR.pc (b := 200) rfl ?_)
        exact r_iret hX hZ dX4_workOut_200 ⟨_, rfl, ⟨by unfold jn bz; simp_all, rfl⟩⟩
      · refine r_iconst (v := 1) hX dX4_workOut_195 (by decide) (RR.pc (b := 196) rfl ?_)
        refine r_goto (tgt := 200) hX dX4_workOut_196 rfl ?_
        exact r_iret hX hZ dX4_workOut_200 ⟨_, rfl, ⟨by unfold jn bz; simp_all, rfl⟩⟩
  by_cases h1_53 : c = 53
  · refine r_tableIn (tgt := 187) hX dX4_workOut_1 (by rw [h1_53]; decide) (by rw [h1_53]; decide) (by rw [h1_53]; rfl) rfl ?_
    refine r_iload_n (i := 0) hX dX4_workOut_187 rfl (RR.pc (b := 188) rfl ?_)
    refine r_if_ne (tgt := 195) hX dX4_workOut_188 rfl (fun h188 => ?_) (fun h188 => RR.pc (b := 191) rfl ?_)
    · refine r_iconst (v := 1) hX dX4_workOut_195 (by decide) (RR.pc (b := 196) rfl ?_)
      refine r_goto (tgt := 200) hX dX4_workOut_196 rfl ?_
      exact r_iret hX hZ dX4_workOut_200 ⟨_, rfl, ⟨by unfold jn bz; simp_all, rfl⟩⟩
    · refine r_iload_n (i := 0) hX dX4_workOut_191 rfl (RR.pc (b := 192) rfl ?_)
      refine r_if_eq (tgt := 199) hX dX4_workOut_192 rfl (fun h192 => ?_) (fun h192 => RR.pc (b := 195) rfl ?_)
      · refine r_iconst (v := 0) hX dX4_workOut_199 (by decide) (RR.pc (b := 200) rfl ?_)
        exact r_iret hX hZ dX4_workOut_200 ⟨_, rfl, ⟨by unfold jn bz; simp_all, rfl⟩⟩
      · refine r_iconst (v := 1) hX dX4_workOut_195 (by decide) (RR.pc (b := 196) rfl ?_)
        refine r_goto (tgt := 200) hX dX4_workOut_196 rfl ?_
        exact r_iret hX hZ dX4_workOut_200 ⟨_, rfl, ⟨by unfold jn bz; simp_all, rfl⟩⟩
  by_cases h1_54 : c = 54
  · refine r_tableIn (tgt := 187) hX dX4_workOut_1 (by rw [h1_54]; decide) (by rw [h1_54]; decide) (by rw [h1_54]; rfl) rfl ?_
    refine r_iload_n (i := 0) hX dX4_workOut_187 rfl (RR.pc (b := 188) rfl ?_)
    refine r_if_ne (tgt := 195) hX dX4_workOut_188 rfl (fun h188 => ?_) (fun h188 => RR.pc (b := 191) rfl ?_)
    · refine r_iconst (v := 1) hX dX4_workOut_195 (by decide) (RR.pc (b := 196) rfl ?_)
      refine r_goto (tgt := 200) hX dX4_workOut_196 rfl ?_
      exact r_iret hX hZ dX4_workOut_200 ⟨_, rfl, ⟨by unfold jn bz; simp_all, rfl⟩⟩
    · refine r_iload_n (i := 0) hX dX4_workOut_191 rfl (RR.pc (b := 192) rfl ?_)
      refine r_if_eq (tgt := 199) hX dX4_workOut_192 rfl (fun h192 => ?_) (fun h192 => RR.pc (b := 195) rfl ?_)
      · refine r_iconst (v := 0) hX dX4_workOut_199 (by decide) (RR.pc (b := 200) rfl ?_)
        exact r_iret hX hZ dX4_workOut_200 ⟨_, rfl, ⟨by unfold jn bz; simp_all, rfl⟩⟩
      · refine r_iconst (v := 1) hX dX4_workOut_195 (by decide) (RR.pc (b := 196) rfl ?_)
        refine r_goto (tgt := 200) hX dX4_workOut_196 rfl ?_
        exact r_iret hX hZ dX4_workOut_200 ⟨_, rfl, ⟨by unfold jn bz; simp_all, rfl⟩⟩
  by_cases h1_55 : c = 55
  · refine r_tableIn (tgt := 187) hX dX4_workOut_1 (by rw [h1_55]; decide) (by rw [h1_55]; decide) (by rw [h1_55]; rfl) rfl ?_
    refine r_iload_n (i := 0) hX dX4_workOut_187 rfl (RR.pc (b := 188) rfl ?_)
    refine r_if_ne (tgt := 195) hX dX4_workOut_188 rfl (fun h188 => ?_) (fun h188 => RR.pc (b := 191) rfl ?_)
    · refine r_iconst (v := 1) hX dX4_workOut_195 (by decide) (RR.pc (b := 196) rfl ?_)
      refine r_goto (tgt := 200) hX dX4_workOut_196 rfl ?_
      exact r_iret hX hZ dX4_workOut_200 ⟨_, rfl, ⟨by unfold jn bz; simp_all, rfl⟩⟩
    · refine r_iload_n (i := 0) hX dX4_workOut_191 rfl (RR.pc (b := 192) rfl ?_)
      refine r_if_eq (tgt := 199) hX dX4_workOut_192 rfl (fun h192 => ?_) (fun h192 => RR.pc (b := 195) rfl ?_)
      · refine r_iconst (v := 0) hX dX4_workOut_199 (by decide) (RR.pc (b := 200) rfl ?_)
        exact r_iret hX hZ dX4_workOut_200 ⟨_, rfl, ⟨by unfold jn bz; simp_all, rfl⟩⟩
      · refine r_iconst (v := 1) hX dX4_workOut_195 (by decide) (RR.pc (b := 196) rfl ?_)
        refine r_goto (tgt := 200) hX dX4_workOut_196 rfl ?_
        exact r_iret hX hZ dX4_workOut_200 ⟨_, rfl, ⟨by unfold jn bz; simp_all, rfl⟩⟩
  by_cases h1_56 : c = 56
  · refine r_tableIn (tgt := 187) hX dX4_workOut_1 (by rw [h1_56]; decide) (by rw [h1_56]; decide) (by rw [h1_56]; rfl) rfl ?_
    refine r_iload_n (i := 0) hX dX4_workOut_187 rfl (RR.pc (b := 188) rfl ?_)
    refine r_if_ne (tgt := 195) hX dX4_workOut_188 rfl (fun h188 => ?_) (fun h188 => RR.pc (b := 191) rfl ?_)
    · refine r_iconst (v := 1) hX dX4_workOut_195 (by decide) (RR.pc (b := 196) rfl ?_)
      refine r_goto (tgt := 200) hX dX4_workOut_196 rfl ?_
      exact r_iret hX hZ dX4_workOut_200 ⟨_, rfl, ⟨by unfold jn bz; simp_all, rfl⟩⟩
    · refine r_iload_n (i := 0) hX dX4_workOut_191 rfl (RR.pc (b := 192) rfl ?_)
      refine r_if_eq (tgt := 199) hX dX4_workOut_192 rfl (fun h192 => ?_) (fun h192 => RR.pc (b := 195) rfl ?_)
      · refine r_iconst (v := 0) hX dX4_workOut_199 (by decide) (RR.pc (b := 200) rfl ?_)
        exact r_iret hX hZ dX4_workOut_200 ⟨_, rfl, ⟨by unfold jn bz; simp_all, rfl⟩⟩
      · refine r_iconst (v := 1) hX dX4_workOut_195 (by decide) (RR.pc (b := 196) rfl ?_)
        refine r_goto (tgt := 200) hX dX4_workOut_196 rfl ?_
        exact r_iret hX hZ dX4_workOut_200 ⟨_, rfl, ⟨by unfold jn bz; simp_all, rfl⟩⟩
  by_cases h1_57 : c = 57
  · refine r_tableIn (tgt := 187) hX dX4_workOut_1 (by rw [h1_57]; decide) (by rw [h1_57]; decide) (by rw [h1_57]; rfl) rfl ?_
    refine r_iload_n (i := 0) hX dX4_workOut_187 rfl (RR.pc (b := 188) rfl ?_)
    refine r_if_ne (tgt := 195) hX dX4_workOut_188 rfl (fun h188 => ?_) (fun h188 => RR.pc (b := 191) rfl ?_)
    · refine r_iconst (v := 1) hX dX4_workOut_195 (by decide) (RR.pc (b := 196) rfl ?_)
      refine r_goto (tgt := 200) hX dX4_workOut_196 rfl ?_
      exact r_iret hX hZ dX4_workOut_200 ⟨_, rfl, ⟨by unfold jn bz; simp_all, rfl⟩⟩
    · refine r_iload_n (i := 0) hX dX4_workOut_191 rfl (RR.pc (b := 192) rfl ?_)
      refine r_if_eq (tgt := 199) hX dX4_workOut_192 rfl (fun h192 => ?_) (fun h192 => RR.pc (b := 195) rfl ?_)
      · refine r_iconst (v := 0) hX dX4_workOut_199 (by decide) (RR.pc (b := 200) rfl ?_)
        exact r_iret hX hZ dX4_workOut_200 ⟨_, rfl, ⟨by unfold jn bz; simp_all, rfl⟩⟩
      · refine r_iconst (v := 1) hX dX4_workOut_195 (by decide) (RR.pc (b := 196) rfl ?_)
        refine r_goto (tgt := 200) hX dX4_workOut_196 rfl ?_
        exact r_iret hX hZ dX4_workOut_200 ⟨_, rfl, ⟨by unfold jn bz; simp_all, rfl⟩⟩
  by_cases h1_58 : c = 58
  · refine r_tableIn (tgt := 187) hX dX4_workOut_1 (by rw [h1_58]; decide) (by rw [h1_58]; decide) (by rw [h1_58]; rfl) rfl ?_
    refine r_iload_n (i := 0) hX dX4_workOut_187 rfl (RR.pc (b := 188) rfl ?_)
    refine r_if_ne (tgt := 195) hX dX4_workOut_188 rfl (fun h188 => ?_) (fun h188 => RR.pc (b := 191) rfl ?_)
    · refine r_iconst (v := 1) hX dX4_workOut_195 (by decide) (RR.pc (b := 196) rfl ?_)
      refine r_goto (tgt := 200) hX dX4_workOut_196 rfl ?_
      exact r_iret hX hZ dX4_workOut_200 ⟨_, rfl, ⟨by unfold jn bz; simp_all, rfl⟩⟩
    · refine r_iload_n (i := 0) hX dX4_workOut_191 rfl (RR.pc (b := 192) rfl ?_)
      refine r_if_eq (tgt := 199) hX dX4_workOut_192 rfl (fun h192 => ?_) (fun h192 => RR.pc (b := 195) rfl ?_)
      · refine r_iconst (v := 0) hX dX4_workOut_199 (by decide) (RR.pc (b := 200) rfl ?_)
        exact r_iret hX hZ dX4_workOut_200 ⟨_, rfl, ⟨by unfold jn bz; simp_all, rfl⟩⟩
      · refine r_iconst (v := 1) hX dX4_workOut_195 (by decide) (RR.pc (b := 196) rfl ?_)
        refine r_goto (tgt := 200) hX dX4_workOut_196 rfl ?_
        exact r_iret hX hZ dX4_workOut_200 ⟨_, rfl, ⟨by unfold jn bz; simp_all, rfl⟩⟩
  by_cases h1_59 : c = 59
  · refine r_tableIn (tgt := 187) hX dX4_workOut_1 (by rw [h1_59]; decide) (by rw [h1_59]; decide) (by rw [h1_59]; rfl) rfl ?_
    refine r_iload_n (i := 0) hX dX4_workOut_187 rfl (RR.pc (b := 188) rfl ?_)
    refine r_if_ne (tgt := 195) hX dX4_workOut_188 rfl (fun h188 => ?_) (fun h188 => RR.pc (b := 191) rfl ?_)
    · refine r_iconst (v := 1) hX dX4_workOut_195 (by decide) (RR.pc (b := 196) rfl ?_)
      refine r_goto (tgt := 200) hX dX4_workOut_196 rfl ?_
      exact r_iret hX hZ dX4_workOut_200 ⟨_, rfl, ⟨by unfold jn bz; simp_all, rfl⟩⟩
    · refine r_iload_n (i := 0) hX dX4_workOut_191 rfl (RR.pc (b := 192) rfl ?_)
      refine r_if_eq (tgt := 199) hX dX4_workOut_192 rfl (fun h192 => ?_) (fun h192 => RR.pc (b := 195) rfl ?_)
      · refine r_iconst (v := 0) hX dX4_workOut_199 (by decide) (RR.pc (b := 200) rfl ?_)
        exact r_iret hX hZ dX4_workOut_200 ⟨_, rfl, ⟨by unfold jn bz; simp_all, rfl⟩⟩
      · refine r_iconst (v := 1) hX dX4_workOut_195 (by decide) (RR.pc (b := 196) rfl ?_)
        refine r_goto (tgt := 200) hX dX4_workOut_196 rfl ?_
        exact r_iret hX hZ dX4_workOut_200 ⟨_, rfl, ⟨by unfold jn bz; simp_all, rfl⟩⟩
  by_cases h1_60 : c = 60
  · refine r_tableIn (tgt := 140) hX dX4_workOut_1 (by rw [h1_60]; decide) (by rw [h1_60]; decide) (by rw [h1_60]; rfl) rfl ?_
    refine r_iload_n (i := 0) hX dX4_workOut_140 rfl (RR.pc (b := 141) rfl ?_)
    refine r_iload_n (i := 0) hX dX4_workOut_141 rfl (RR.pc (b := 142) rfl ?_)
    refine r_icmp_ge (tgt := 149) hX dX4_workOut_142 rfl (fun h142 => ?_) (fun h142 => RR.pc (b := 145) rfl ?_)
    · refine r_iconst (v := 0) hX dX4_workOut_149 (by decide) (RR.pc (b := 150) rfl ?_)
      exact r_iret hX hZ dX4_workOut_150 ⟨_, rfl, ⟨by unfold jn bz; simp_all, rfl⟩⟩
    · refine r_iconst (v := 1) hX dX4_workOut_145 (by decide) (RR.pc (b := 146) rfl ?_)
      refine r_goto (tgt := 150) hX dX4_workOut_146 rfl ?_
      exact r_iret hX hZ dX4_workOut_150 ⟨_, rfl, ⟨by unfold jn bz; simp_all, rfl⟩⟩
  by_cases h1_61 : c = 61
  · refine r_tableIn (tgt := 151) hX dX4_workOut_1 (by rw [h1_61]; decide) (by rw [h1_61]; decide) (by rw [h1_61]; rfl) rfl ?_
    refine r_iload_n (i := 0) hX dX4_workOut_151 rfl (RR.pc (b := 152) rfl ?_)
    refine r_iload_n (i := 0) hX dX4_workOut_152 rfl (RR.pc (b := 153) rfl ?_)
    refine r_icmp_ne (tgt := 160) hX dX4_workOut_153 rfl (fun h153 => ?_) (fun h153 => RR.pc (b := 156) rfl ?_)
    · refine r_iconst (v := 0) hX dX4_workOut_160 (by decide) (RR.pc (b := 161) rfl ?_)
      exact r_iret hX hZ dX4_workOut_161 ⟨_, rfl, ⟨by unfold jn bz; simp_all, rfl⟩⟩
    · refine r_iconst (v := 1) hX dX4_workOut_156 (by decide) (RR.pc (b := 157) rfl ?_)
      refine r_goto (tgt := 161) hX dX4_workOut_157 rfl ?_
      exact r_iret hX hZ dX4_workOut_161 ⟨_, rfl, ⟨by unfold jn bz; simp_all, rfl⟩⟩
  by_cases h1_62 : c = 62
  · refine r_tableIn (tgt := 162) hX dX4_workOut_1 (by rw [h1_62]; decide) (by rw [h1_62]; decide) (by rw [h1_62]; rfl) rfl ?_
    refine r_iload_n (i := 0) hX dX4_workOut_162 rfl (RR.pc (b := 163) rfl ?_)
    refine r_iload_n (i := 0) hX dX4_workOut_163 rfl (RR.pc (b := 164) rfl ?_)
    refine r_icmp_le (tgt := 171) hX dX4_workOut_164 rfl (fun h164 => ?_) (fun h164 => RR.pc (b := 167) rfl ?_)
    · refine r_iconst (v := 0) hX dX4_workOut_171 (by decide) (RR.pc (b := 172) rfl ?_)
      exact r_iret hX hZ dX4_workOut_172 ⟨_, rfl, ⟨by unfold jn bz; simp_all, rfl⟩⟩
    · refine r_iconst (v := 1) hX dX4_workOut_167 (by decide) (RR.pc (b := 168) rfl ?_)
      refine r_goto (tgt := 172) hX dX4_workOut_168 rfl ?_
      exact r_iret hX hZ dX4_workOut_172 ⟨_, rfl, ⟨by unfold jn bz; simp_all, rfl⟩⟩
  refine r_tableOut (tgt := 187) hX dX4_workOut_1 (by have n0 : (c).toInt ≠ 38 := ne_toInt h1_38; have n1 : (c).toInt ≠ 39 := ne_toInt h1_39; have n2 : (c).toInt ≠ 40 := ne_toInt h1_40; have n3 : (c).toInt ≠ 41 := ne_toInt h1_41; have n4 : (c).toInt ≠ 42 := ne_toInt h1_42; have n5 : (c).toInt ≠ 43 := ne_toInt h1_43; have n6 : (c).toInt ≠ 44 := ne_toInt h1_44; have n7 : (c).toInt ≠ 45 := ne_toInt h1_45; have n8 : (c).toInt ≠ 46 := ne_toInt h1_46; have n9 : (c).toInt ≠ 47 := ne_toInt h1_47; have n10 : (c).toInt ≠ 48 := ne_toInt h1_48; have n11 : (c).toInt ≠ 49 := ne_toInt h1_49; have n12 : (c).toInt ≠ 50 := ne_toInt h1_50; have n13 : (c).toInt ≠ 51 := ne_toInt h1_51; have n14 : (c).toInt ≠ 52 := ne_toInt h1_52; have n15 : (c).toInt ≠ 53 := ne_toInt h1_53; have n16 : (c).toInt ≠ 54 := ne_toInt h1_54; have n17 : (c).toInt ≠ 55 := ne_toInt h1_55; have n18 : (c).toInt ≠ 56 := ne_toInt h1_56; have n19 : (c).toInt ≠ 57 := ne_toInt h1_57; have n20 : (c).toInt ≠ 58 := ne_toInt h1_58; have n21 : (c).toInt ≠ 59 := ne_toInt h1_59; have n22 : (c).toInt ≠ 60 := ne_toInt h1_60; have n23 : (c).toInt ≠ 61 := ne_toInt h1_61; have n24 : (c).toInt ≠ 62 := ne_toInt h1_62; omega) rfl ?_
  refine r_iload_n (i := 0) hX dX4_workOut_187 rfl (RR.pc (b := 188) rfl ?_)
  refine r_if_ne (tgt := 195) hX dX4_workOut_188 rfl (fun h188 => ?_) (fun h188 => RR.pc (b := 191) rfl ?_)
  · refine r_iconst (v := 1) hX dX4_workOut_195 (by decide) (RR.pc (b := 196) rfl ?_)
    refine r_goto (tgt := 200) hX dX4_workOut_196 rfl ?_
    exact r_iret hX hZ dX4_workOut_200 ⟨_, rfl, ⟨by unfold jn bz; simp_all, rfl⟩⟩
  · refine r_iload_n (i := 0) hX dX4_workOut_191 rfl (RR.pc (b := 192) rfl ?_)
    refine r_if_eq (tgt := 199) hX dX4_workOut_192 rfl (fun h192 => ?_) (fun h192 => RR.pc (b := 195) rfl ?_)
    · refine r_iconst (v := 0) hX dX4_workOut_199 (by decide) (RR.pc (b := 200) rfl ?_)
      exact r_iret hX hZ dX4_workOut_200 ⟨_, rfl, ⟨by unfold jn bz; simp_all, rfl⟩⟩
    · refine r_iconst (v := 1) hX dX4_workOut_195 (by decide) (RR.pc (b := 196) rfl ?_)
      refine r_goto (tgt := 200) hX dX4_workOut_196 rfl ?_
      exact r_iret hX hZ dX4_workOut_200 ⟨_, rfl, ⟨by unfold jn bz; simp_all, rfl⟩⟩
def encN (key v : Int32) : Int32 := if key = 0 then (if v = 104 then -1 else if v = 112 then -2 else -3) else if key = 1 then (if v = 101 then -1 else -2) else (if v = 103 then -1 else -2)
def encS (key : Int32) (q : Int32 × Int32) : Int32 := if q.1 = 2 then 10000 + q.2 else if q.1 = 0 then q.2 else encN key q.2
def rd3 (a b c s : Int32) : Int32 := if s = -1 then a else if s = -2 then b else c
theorem encN_neg (key v : Int32) : encN key v < 0 := by
  unfold encN
  repeat' split
  all_goals decide
/-- a text of the class -/
def TC (f : Nat → Int32) (t : Nat) (T : Tx) : Prop := f (100 * t + 96) = nI T.2.2.length ∧ f (100 * t + 97) = T.1 ∧ f (100 * t + 98) = T.2.1 ∧ ∀ k, k < T.2.2.length → f (100 * t + k) = encS T.1 (T.2.2.getD k (0, 0))
theorem layT {t : Nat} (ht : t < 14) : lay (3 + 2 * t) = lO 4 [fR (4 + 2 * t), fI 3 (100 * t + 96), fI 3 (100 * t + 97), fI 3 (100 * t + 98), fR 2] ∧ lay (4 + 2 * t) = lI 96 3 (100 * t) := by
  rcases (show t = 0 ∨ t = 1 ∨ t = 2 ∨ t = 3 ∨ t = 4 ∨ t = 5 ∨ t = 6 ∨ t = 7 ∨ t = 8 ∨ t = 9 ∨ t = 10 ∨ t = 11 ∨ t = 12 ∨ t = 13 by omega) with rfl | rfl | rfl | rfl | rfl | rfl | rfl | rfl | rfl | rfl | rfl | rfl | rfl | rfl <;> exact ⟨rfl, rfl⟩
theorem sub_inc (n : Nat) : nI n - 1 + Int32.ofInt 1 = nI n := by
  rw [show Int32.ofInt 1 = (1 : Int32) by decide, Int32.sub_add_cancel]
set_option maxHeartbeats 4000000 in
theorem gv_step {X : CX} {G : GM} {σ : SG} {T : Tx} {t : Nat} {a b c : Int32} (hX : Fx X G RX4 cX4_give 7 1) (h14 : t < 14) (hT : TC (σ 3) t T) (ho : okT T) (k : Nat) (f : Nat → Int32) (S : List Int32) (hk : k < T.2.2.length) (hP : Pl f S) (hS : S.length ≤ k) (hh : hgt (T.2.2.drop k) S.length = some 1) (he : evL (fun v => rd3 a b c (encN T.1 v)) (T.2.2.drop k) S = evL (fun v => rd3 a b c (encN T.1 v)) T.2.2 [])
    (ih : ∀ (f : Nat → Int32) (S : List Int32), Pl f S → S.length ≤ k + 1 → hgt (T.2.2.drop (k + 1)) S.length = some 1 → evL (fun v => rd3 a b c (encN T.1 v)) (T.2.2.drop (k + 1)) S = evL (fun v => rd3 a b c (encN T.1 v)) T.2.2 [] → RR X G 7 6 (ll [(0, rf G (3 + 2 * t)), (1, .int a), (2, .int b), (3, .int c), (4, .int (nI S.length - 1)), (5, .int (nI (k + 1)))]) [] (sr σ 4 f)) :
    RR X G 7 6 (ll [(0, rf G (3 + 2 * t)), (1, .int a), (2, .int b), (3, .int c), (4, .int (nI S.length - 1)), (5, .int (nI k))]) [] (sr σ 4 f) := by
  have hlen := ho.2.2.1
  obtain ⟨hl1, hl2⟩ := layT h14
  have hq1 := hT.2.2.2 k hk
  have hok := ho.2.2.2 _ (at_mem hk)
  rw [drop_at hk] at hh he
  generalize T.2.2.getD k (0, 0) = q at hq1 hok hh he
  generalize evL (fun v => rd3 a b c (encN T.1 v)) T.2.2 [] = R0 at he ih
  unfold hgt at hh
  unfold evL ev1 at he
  refine r_iload hX dX4_give_6 rfl (RR.pc (b := 8) rfl ?_)
  refine r_aload_n hX dX4_give_8 rfl ⟨_, rfl⟩ (RR.pc (b := 9) rfl ?_)
  refine r_geti hX dX4_give_9 fl_X4_22 (by first | rfl | assumption) rfl (RR.pc (b := 12) rfl ?_)
  rw [sr_ne (by decide), hT.1]
  refine r_icmp_ge (tgt := 174) hX dX4_give_12 rfl (fun h => absurd h (by rw [nI_leI (by omega) (by omega)]; omega)) (fun _ => RR.pc (b := 15) rfl ?_)
  refine r_iload hX dX4_give_15 rfl (RR.pc (b := 17) rfl ?_)
  refine r_aload_n hX dX4_give_17 rfl ⟨_, rfl⟩ (RR.pc (b := 18) rfl ?_)
  refine r_getr hX dX4_give_18 fl_X4_15 (by first | rfl | assumption) rfl (RR.pc (b := 21) rfl ?_)
  refine r_alen hX dX4_give_21 rfl (by decide) (RR.pc (b := 22) rfl ?_)
  refine r_iconst (v := 1) hX dX4_give_22 (by decide) (RR.pc (b := 23) rfl ?_)
  refine r_isub hX dX4_give_23 (RR.pc (b := 24) rfl ?_)
  refine r_icmp_ge (tgt := 174) hX dX4_give_24 rfl (fun h => absurd h (by rw [Int32.le_iff_toInt_le, sub1_toInt (by omega), sub1_toInt (by omega)]; omega)) (fun _ => RR.pc (b := 27) rfl ?_)
  refine r_aload_n hX dX4_give_27 rfl ⟨_, rfl⟩ (RR.pc (b := 28) rfl ?_)
  refine r_getr hX dX4_give_28 fl_X4_11 (by first | rfl | assumption) rfl (RR.pc (b := 31) rfl ?_)
  refine r_iload hX dX4_give_31 rfl (RR.pc (b := 33) rfl ?_)
  refine r_iald hX dX4_give_33 (by first | rfl | assumption) rfl (by omega) (by decide) (by first | exact Nat.zero_add _ | rfl) (RR.pc (b := 34) rfl ?_)
  rw [sr_ne (by decide), hq1]
  by_cases h61 : q.1 = 2
  · rw [if_pos h61] at hh he
    obtain ⟨j, hj, ej⟩ := hok.2.2.2 h61
    have e0 : encS T.1 q = nI (10000 + j) := by unfold encS; rw [if_pos h61, ej]; exact nI_add 10000 j
    rw [e0]
    refine r_istore hX dX4_give_34 (by decide) (RR.pc (b := 36) rfl ?_)
    refine r_iload hX dX4_give_36 rfl (RR.pc (b := 38) rfl ?_)
    refine r_sipush (v := 10000) hX dX4_give_38 (by decide) (RR.pc (b := 41) rfl ?_)
    refine r_icmp_ge (tgt := 89) hX dX4_give_41 rfl (fun _ => ?_) (fun h => absurd (nI_le (a := 10000) (by omega) (by omega)) h)
    refine r_iload hX dX4_give_89 rfl (RR.pc (b := 91) rfl ?_)
    refine r_sipush (v := 10033) hX dX4_give_91 (by decide) (RR.pc (b := 94) rfl ?_)
    by_cases h97 : q.2 = 33
    · rw [if_pos h97] at hh he
      have hj33 : j = 33 := by rw [ej] at h97; exact (nI_eq (b := 33) (by omega) (by omega)).mp h97
      subst hj33
      match S, hP, hS, hh, he with
      | [], _, _, hh, _ => exact absurd hh (by simp)
      | x :: S, hP, hS, hh, he =>
        simp only [List.length_cons] at hS hh ⊢
        have hh2 : hgt (List.drop (k + 1) T.2.2) (S.length + 1) = some 1 := by simpa using hh
        have ht1 := hP.top
        refine r_icmp_ne (tgt := 127) hX dX4_give_94 rfl (fun h => absurd rfl h) (fun _ => RR.pc (b := 97) rfl ?_)
        rw [nI_pred]
        refine r_iload hX dX4_give_97 rfl (RR.pc (b := 99) rfl ?_)
        refine r_if_lt (tgt := 127) hX dX4_give_99 rfl (fun h => absurd h (nI_pos (by omega))) (fun _ => RR.pc (b := 102) rfl ?_)
        refine r_aload_n hX dX4_give_102 rfl ⟨_, rfl⟩ (RR.pc (b := 103) rfl ?_)
        refine r_getr hX dX4_give_103 fl_X4_15 (by first | rfl | assumption) rfl (RR.pc (b := 106) rfl ?_)
        refine r_iload hX dX4_give_106 rfl (RR.pc (b := 108) rfl ?_)
        refine r_aload_n hX dX4_give_108 rfl ⟨_, rfl⟩ (RR.pc (b := 109) rfl ?_)
        refine r_getr hX dX4_give_109 fl_X4_15 (by first | rfl | assumption) rfl (RR.pc (b := 112) rfl ?_)
        refine r_iload hX dX4_give_112 rfl (RR.pc (b := 114) rfl ?_)
        refine r_iald hX dX4_give_114 (by first | rfl | assumption) rfl (by omega) (by decide) (by first | exact Nat.zero_add _ | rfl) (RR.pc (b := 115) rfl ?_)
        rw [sr_eq, ht1]
        refine r_dia1 123 (if x = 0 then 1 else 0) (fun hj115 => ?_) ?_
        · refine r_if_ne (tgt := 122) hX dX4_give_115 rfl (fun h115 => ?_) (fun h115 => RR.pc (b := 118) rfl ?_)
          · refine r_iconst (v := 0) hX dX4_give_122 (by decide) (RR.pc (b := 123) rfl ?_)
            exact RR.eqt (congrArg (fun q => Value.int q :: _) (if_neg h115).symm) hj115
          · refine r_iconst (v := 1) hX dX4_give_118 (by decide) (RR.pc (b := 119) rfl ?_)
            refine r_goto (tgt := 123) hX dX4_give_119 rfl ?_
            exact RR.eqt (congrArg (fun q => Value.int q :: _) (if_pos h115).symm) hj115
        refine r_iast hX dX4_give_123 (by first | rfl | assumption) rfl (by omega) (by decide) (by first | exact Nat.zero_add _ | rfl) (RR.pc (b := 124) rfl ?_)
        refine r_goto (tgt := 168) hX dX4_give_124 rfl ?_
        refine r_iinc hX dX4_give_168 rfl (by decide) (nI_1 k) (RR.pc (b := 171) rfl ?_)
        refine r_goto (tgt := 6) hX dX4_give_171 rfl ?_
        refine RR.eqs su_sr (RR.cut (ih _ ((if x = 0 then 1 else 0) :: S) hP.tail.push (by simp; omega) hh2 he) (List.forall_mem_cons.mpr ⟨rfl, List.forall_mem_cons.mpr ⟨rfl, List.forall_mem_cons.mpr ⟨rfl, List.forall_mem_cons.mpr ⟨rfl, List.forall_mem_cons.mpr ⟨?_, List.forall_mem_cons.mpr ⟨rfl, fun _ h => absurd h List.not_mem_nil⟩⟩⟩⟩⟩⟩))
        show some (Value.int (nI S.length)) = some (Value.int (nI (S.length + 1) - 1))
        rw [nI_pred]
    · rw [if_neg h97] at hh he
      have hj33 : ¬ nI (10000 + j) = 10033 := fun z => h97 (by rw [ej]; have := (nI_eq (b := 10033) (by omega) (by omega)).mp z; rw [show j = 33 by omega]; rfl)
      refine r_icmp_ne (tgt := 127) hX dX4_give_94 rfl (fun _ => ?_) (fun h => absurd h hj33)
      match S, hP, hS, hh, he with
      | [], _, _, hh, _ => exact absurd hh (by simp)
      | [x], _, _, hh, _ => exact absurd hh (by simp)
      | y :: x :: S, hP, hS, hh, he =>
        simp only [List.length_cons] at hS hh ⊢
        have hh2 : hgt (List.drop (k + 1) T.2.2) (S.length + 1) = some 1 := by simpa using hh
        have ht1 := hP.top
        have ht2 := hP.tail.top
        simp only [List.length_cons] at ht1
        rw [nI_pred]
        refine r_iload hX dX4_give_127 rfl (RR.pc (b := 129) rfl ?_)
        refine r_iconst (v := 1) hX dX4_give_129 (by decide) (RR.pc (b := 130) rfl ?_)
        refine r_icmp_lt (tgt := 168) hX dX4_give_130 rfl (fun h => absurd h (nI_nlt (b := 1) (by omega) (by omega))) (fun _ => RR.pc (b := 133) rfl ?_)
        refine r_iinc hX dX4_give_133 rfl (by decide) (inc_m1 _) (RR.pc (b := 136) rfl ?_)
        refine r_aload_n hX dX4_give_136 rfl ⟨_, rfl⟩ (RR.pc (b := 137) rfl ?_)
        refine r_getr hX dX4_give_137 fl_X4_15 (by first | rfl | assumption) rfl (RR.pc (b := 140) rfl ?_)
        refine r_iload hX dX4_give_140 rfl (RR.pc (b := 142) rfl ?_)
        refine r_iload hX dX4_give_142 rfl (RR.pc (b := 144) rfl ?_)
        refine r_sipush (v := 10000) hX dX4_give_144 (by decide) (RR.pc (b := 147) rfl ?_)
        refine r_isub hX dX4_give_147 (RR.pc (b := 148) rfl ?_)
        rw [show nI (10000 + j) - 10000 = q.2 from by rw [ej]; have := pk_sub (a := 10000 + j) (b := 10000) (by omega); rw [show 10000 + j - 10000 = j by omega] at this; exact this]
        refine r_aload_n hX dX4_give_148 rfl ⟨_, rfl⟩ (RR.pc (b := 149) rfl ?_)
        refine r_getr hX dX4_give_149 fl_X4_15 (by first | rfl | assumption) rfl (RR.pc (b := 152) rfl ?_)
        refine r_iload hX dX4_give_152 rfl (RR.pc (b := 154) rfl ?_)
        refine r_iald hX dX4_give_154 (by first | rfl | assumption) rfl (by omega) (by decide) (by first | exact Nat.zero_add _ | rfl) (RR.pc (b := 155) rfl ?_)
        refine r_aload_n hX dX4_give_155 rfl ⟨_, rfl⟩ (RR.pc (b := 156) rfl ?_)
        refine r_getr hX dX4_give_156 fl_X4_15 (by first | rfl | assumption) rfl (RR.pc (b := 159) rfl ?_)
        refine r_iload hX dX4_give_159 rfl (RR.pc (b := 161) rfl ?_)
        refine r_iconst (v := 1) hX dX4_give_161 (by decide) (RR.pc (b := 162) rfl ?_)
        refine r_iadd hX dX4_give_162 (RR.pc (b := 163) rfl ?_)
        refine r_iald hX dX4_give_163 (by first | rfl | assumption) (nI_1 _) (by omega) (by decide) (by first | exact Nat.zero_add _ | rfl) (RR.pc (b := 164) rfl ?_)
        rw [sr_eq, ht1, ht2]
        refine r_callSie hX dX4_give_164 ml_X4_38 cd_X4_workOut st_X4_workOut c_X4_workOut (by decide) rfl rfl (Nat.le_of_ble_eq_true rfl) (RR.pc (b := 167) rfl ?_)
        refine r_iast hX dX4_give_167 (by first | rfl | assumption) rfl (by omega) (by decide) (by first | exact Nat.zero_add _ | rfl) (RR.pc (b := 168) rfl ?_)
        refine r_iinc hX dX4_give_168 rfl (by decide) (nI_1 k) (RR.pc (b := 171) rfl ?_)
        refine r_goto (tgt := 6) hX dX4_give_171 rfl ?_
        refine RR.eqs su_sr (RR.cut (ih _ (jn q.2 x y :: S) hP.tail.tail.push (by simp; omega) hh2 he) (List.forall_mem_cons.mpr ⟨rfl, List.forall_mem_cons.mpr ⟨rfl, List.forall_mem_cons.mpr ⟨rfl, List.forall_mem_cons.mpr ⟨rfl, List.forall_mem_cons.mpr ⟨?_, List.forall_mem_cons.mpr ⟨rfl, fun _ h => absurd h List.not_mem_nil⟩⟩⟩⟩⟩⟩))
        show some (Value.int (nI S.length)) = some (Value.int (nI (S.length + 1) - 1))
        rw [nI_pred]
  · rw [if_neg h61] at hh he
    have hlt : ¬ (10000 : Int32) ≤ encS T.1 q := by
      unfold encS
      rw [if_neg h61]
      by_cases h0 : q.1 = 0
      · rw [if_pos h0]
        obtain ⟨j, hj, ej⟩ := hok.2.2.1 h0
        rw [ej]
        exact nI_ge (b := 10000) (by omega) (by omega)
      · rw [if_neg h0]
        have := encN_neg T.1 q.2
        rw [Int32.lt_iff_toInt_lt] at this
        rw [Int32.le_iff_toInt_le]
        simp only [Int32.reduceToInt] at this ⊢
        omega
    refine r_istore hX dX4_give_34 (by decide) (RR.pc (b := 36) rfl ?_)
    refine r_iload hX dX4_give_36 rfl (RR.pc (b := 38) rfl ?_)
    refine r_sipush (v := 10000) hX dX4_give_38 (by decide) (RR.pc (b := 41) rfl ?_)
    refine r_icmp_ge (tgt := 89) hX dX4_give_41 rfl (fun h => absurd h hlt) (fun _ => RR.pc (b := 44) rfl ?_)
    refine r_iinc hX dX4_give_44 rfl (by decide) (sub_inc _) (RR.pc (b := 47) rfl ?_)
    refine r_aload_n hX dX4_give_47 rfl ⟨_, rfl⟩ (RR.pc (b := 48) rfl ?_)
    refine r_getr hX dX4_give_48 fl_X4_15 (by first | rfl | assumption) rfl (RR.pc (b := 51) rfl ?_)
    refine r_iload hX dX4_give_51 rfl (RR.pc (b := 53) rfl ?_)
    have fin : ∀ x, x = (if q.1 = 0 then q.2 else rd3 a b c (encN T.1 q.2)) → RR X G 7 85 (ll [(0, rf G (3 + 2 * t)), (1, .int a), (2, .int b), (3, .int c), (4, .int (nI S.length)), (5, .int (nI k))]) [.int x, .int (nI S.length), rf G 2] (sr σ 4 f) := by
      intro x hx
      refine r_iast hX dX4_give_85 (by first | rfl | assumption) rfl (by omega) (by decide) (by first | exact Nat.zero_add _ | rfl) (RR.pc (b := 86) rfl ?_)
      refine r_goto (tgt := 168) hX dX4_give_86 rfl ?_
      refine r_iinc hX dX4_give_168 rfl (by decide) (nI_1 k) (RR.pc (b := 171) rfl ?_)
      refine r_goto (tgt := 6) hX dX4_give_171 rfl ?_
      refine RR.eqs su_sr (RR.cut (ih _ (x :: S) hP.push (by simp; omega) hh (by rw [hx]; exact he)) (List.forall_mem_cons.mpr ⟨rfl, List.forall_mem_cons.mpr ⟨rfl, List.forall_mem_cons.mpr ⟨rfl, List.forall_mem_cons.mpr ⟨rfl, List.forall_mem_cons.mpr ⟨?_, List.forall_mem_cons.mpr ⟨rfl, fun _ h => absurd h List.not_mem_nil⟩⟩⟩⟩⟩⟩))
      show some (Value.int (nI S.length)) = some (Value.int (nI (S.length + 1) - 1))
      rw [nI_pred]
    by_cases h0 : q.1 = 0
    · have e0 : encS T.1 q = q.2 := by unfold encS; rw [if_neg h61, if_pos h0]
      obtain ⟨j, hj, ej⟩ := hok.2.2.1 h0
      rw [e0, ej]
      refine r_iload hX dX4_give_53 rfl (RR.pc (b := 55) rfl ?_)
      refine r_if_lt (tgt := 63) hX dX4_give_55 rfl (fun h55 => absurd h55 (nI_pos (by omega))) (fun h55 => RR.pc (b := 58) rfl ?_)
      refine r_iload hX dX4_give_58 rfl (RR.pc (b := 60) rfl ?_)
      refine r_goto (tgt := 85) hX dX4_give_60 rfl ?_
      exact RR.cut (fin (nI j) (by rw [if_pos h0, ej])) (List.forall_mem_cons.mpr ⟨rfl, List.forall_mem_cons.mpr ⟨rfl, List.forall_mem_cons.mpr ⟨rfl, List.forall_mem_cons.mpr ⟨rfl, List.forall_mem_cons.mpr ⟨rfl, List.forall_mem_cons.mpr ⟨rfl, fun _ h => absurd h List.not_mem_nil⟩⟩⟩⟩⟩⟩)
    · have e0 : encS T.1 q = encN T.1 q.2 := by unfold encS; rw [if_neg h61, if_neg h0]
      rw [e0]
      refine r_iload hX dX4_give_53 rfl (RR.pc (b := 55) rfl ?_)
      refine r_if_lt (tgt := 63) hX dX4_give_55 rfl (fun h55 => ?_) (fun h55 => absurd (encN_neg T.1 q.2) h55)
      refine r_iload hX dX4_give_63 rfl (RR.pc (b := 65) rfl ?_)
      refine r_iconst (v := -1) hX dX4_give_65 (by decide) (RR.pc (b := 66) rfl ?_)
      refine r_icmp_ne (tgt := 73) hX dX4_give_66 rfl (fun h66 => ?_) (fun h66 => RR.pc (b := 69) rfl ?_)
      · refine r_iload hX dX4_give_73 rfl (RR.pc (b := 75) rfl ?_)
        refine r_bipush (v := -2) hX dX4_give_75 (by decide) (RR.pc (b := 77) rfl ?_)
        refine r_icmp_ne (tgt := 84) hX dX4_give_77 rfl (fun h77 => ?_) (fun h77 => RR.pc (b := 80) rfl ?_)
        · refine r_iload_n (i := 0) hX dX4_give_84 rfl (RR.pc (b := 85) rfl ?_)
          first | exact RR.cut (fin _ (by rw [if_neg h0, rd3, if_pos h66])) (List.forall_mem_cons.mpr ⟨rfl, List.forall_mem_cons.mpr ⟨rfl, List.forall_mem_cons.mpr ⟨rfl, List.forall_mem_cons.mpr ⟨rfl, List.forall_mem_cons.mpr ⟨rfl, List.forall_mem_cons.mpr ⟨rfl, fun _ h => absurd h List.not_mem_nil⟩⟩⟩⟩⟩⟩) | exact RR.cut (fin _ (by rw [if_neg h0, rd3, if_neg h66, if_pos h77])) (List.forall_mem_cons.mpr ⟨rfl, List.forall_mem_cons.mpr ⟨rfl, List.forall_mem_cons.mpr ⟨rfl, List.forall_mem_cons.mpr ⟨rfl, List.forall_mem_cons.mpr ⟨rfl, List.forall_mem_cons.mpr ⟨rfl, fun _ h => absurd h List.not_mem_nil⟩⟩⟩⟩⟩⟩) | exact RR.cut (fin _ (by rw [if_neg h0, rd3, if_neg h66, if_neg h77])) (List.forall_mem_cons.mpr ⟨rfl, List.forall_mem_cons.mpr ⟨rfl, List.forall_mem_cons.mpr ⟨rfl, List.forall_mem_cons.mpr ⟨rfl, List.forall_mem_cons.mpr ⟨rfl, List.forall_mem_cons.mpr ⟨rfl, fun _ h => absurd h List.not_mem_nil⟩⟩⟩⟩⟩⟩)
        · refine r_iload_n (i := 0) hX dX4_give_80 rfl (RR.pc (b := 81) rfl ?_)
          refine r_goto (tgt := 85) hX dX4_give_81 rfl ?_
          first | exact RR.cut (fin _ (by rw [if_neg h0, rd3, if_pos h66])) (List.forall_mem_cons.mpr ⟨rfl, List.forall_mem_cons.mpr ⟨rfl, List.forall_mem_cons.mpr ⟨rfl, List.forall_mem_cons.mpr ⟨rfl, List.forall_mem_cons.mpr ⟨rfl, List.forall_mem_cons.mpr ⟨rfl, fun _ h => absurd h List.not_mem_nil⟩⟩⟩⟩⟩⟩) | exact RR.cut (fin _ (by rw [if_neg h0, rd3, if_neg h66, if_pos h77])) (List.forall_mem_cons.mpr ⟨rfl, List.forall_mem_cons.mpr ⟨rfl, List.forall_mem_cons.mpr ⟨rfl, List.forall_mem_cons.mpr ⟨rfl, List.forall_mem_cons.mpr ⟨rfl, List.forall_mem_cons.mpr ⟨rfl, fun _ h => absurd h List.not_mem_nil⟩⟩⟩⟩⟩⟩) | exact RR.cut (fin _ (by rw [if_neg h0, rd3, if_neg h66, if_neg h77])) (List.forall_mem_cons.mpr ⟨rfl, List.forall_mem_cons.mpr ⟨rfl, List.forall_mem_cons.mpr ⟨rfl, List.forall_mem_cons.mpr ⟨rfl, List.forall_mem_cons.mpr ⟨rfl, List.forall_mem_cons.mpr ⟨rfl, fun _ h => absurd h List.not_mem_nil⟩⟩⟩⟩⟩⟩)
      · refine r_iload_n (i := 0) hX dX4_give_69 rfl (RR.pc (b := 70) rfl ?_)
        refine r_goto (tgt := 85) hX dX4_give_70 rfl ?_
        first | exact RR.cut (fin _ (by rw [if_neg h0, rd3, if_pos h66])) (List.forall_mem_cons.mpr ⟨rfl, List.forall_mem_cons.mpr ⟨rfl, List.forall_mem_cons.mpr ⟨rfl, List.forall_mem_cons.mpr ⟨rfl, List.forall_mem_cons.mpr ⟨rfl, List.forall_mem_cons.mpr ⟨rfl, fun _ h => absurd h List.not_mem_nil⟩⟩⟩⟩⟩⟩) | exact RR.cut (fin _ (by rw [if_neg h0, rd3, if_neg h66, if_pos h77])) (List.forall_mem_cons.mpr ⟨rfl, List.forall_mem_cons.mpr ⟨rfl, List.forall_mem_cons.mpr ⟨rfl, List.forall_mem_cons.mpr ⟨rfl, List.forall_mem_cons.mpr ⟨rfl, List.forall_mem_cons.mpr ⟨rfl, fun _ h => absurd h List.not_mem_nil⟩⟩⟩⟩⟩⟩) | exact RR.cut (fin _ (by rw [if_neg h0, rd3, if_neg h66, if_neg h77])) (List.forall_mem_cons.mpr ⟨rfl, List.forall_mem_cons.mpr ⟨rfl, List.forall_mem_cons.mpr ⟨rfl, List.forall_mem_cons.mpr ⟨rfl, List.forall_mem_cons.mpr ⟨rfl, List.forall_mem_cons.mpr ⟨rfl, fun _ h => absurd h List.not_mem_nil⟩⟩⟩⟩⟩⟩)
set_option maxHeartbeats 4000000 in
set_option maxRecDepth 100000 in
theorem c_X4_give {G : GM} {σ : SG} {T : Tx} {t : Nat} {a b c : Int32} (h14 : t < 14) (hT : TC (σ 3) t T) (ho : okT T) : CI G yX4_give cX4_give 7 (some .int) 1 [rf G (3 + 2 * t), .int a, .int b, .int c] σ (fun r s => r = evT T (fun v => rd3 a b c (encN T.1 v)) ∧ same [4] σ s) := by
  refine Con.of cd_X4_give (Nat.le_of_ble_eq_true rfl) ?_
  intro X hX hZ
  have hX : Fx X G RX4 cX4_give 7 1 := hX
  show RR X G 7 0 (ll [(0, rf G (3 + 2 * t)), (1, .int a), (2, .int b), (3, .int c)]) [] σ
  have hlen := ho.2.2.1
  obtain ⟨hl1, hl2⟩ := layT h14
  have loop : ∀ (m k : Nat) (f : Nat → Int32) (S : List Int32), k + m = T.2.2.length → Pl f S → S.length ≤ k → hgt (T.2.2.drop k) S.length = some 1 → evL (fun v => rd3 a b c (encN T.1 v)) (T.2.2.drop k) S = evL (fun v => rd3 a b c (encN T.1 v)) T.2.2 [] → RR X G 7 6 (ll [(0, rf G (3 + 2 * t)), (1, .int a), (2, .int b), (3, .int c), (4, .int (nI S.length - 1)), (5, .int (nI k))]) [] (sr σ 4 f) := by
    intro m
    induction m with
    | zero =>
      intro k f S hk hP hS hh he
      have hS1 : S.length = 1 := by
        rw [List.drop_eq_nil_of_le (by omega)] at hh
        unfold hgt at hh
        exact Option.some.inj hh
      refine r_iload hX dX4_give_6 rfl (RR.pc (b := 8) rfl ?_)
      refine r_aload_n hX dX4_give_8 rfl ⟨_, rfl⟩ (RR.pc (b := 9) rfl ?_)
      refine r_geti hX dX4_give_9 fl_X4_22 (by first | rfl | assumption) rfl (RR.pc (b := 12) rfl ?_)
      rw [sr_ne (by decide), hT.1]
      refine r_icmp_ge (tgt := 174) hX dX4_give_12 rfl (fun _ => ?_) (fun h => absurd (nI_le (by omega) (by omega)) h)
      refine r_iload hX dX4_give_174 rfl (RR.pc (b := 176) rfl ?_)
      rw [hS1]
      refine r_if_lt (tgt := 189) hX dX4_give_176 rfl (fun h => absurd h (by decide)) (fun _ => RR.pc (b := 179) rfl ?_)
      refine r_aload_n hX dX4_give_179 rfl ⟨_, rfl⟩ (RR.pc (b := 180) rfl ?_)
      refine r_getr hX dX4_give_180 fl_X4_15 (by first | rfl | assumption) rfl (RR.pc (b := 183) rfl ?_)
      refine r_iload hX dX4_give_183 rfl (RR.pc (b := 185) rfl ?_)
      refine r_iald hX dX4_give_185 (by first | rfl | assumption) (j := 0) rfl (by decide) (by decide) (by first | exact Nat.zero_add _ | rfl) (RR.pc (b := 186) rfl ?_)
      rw [sr_eq]
      refine r_goto (tgt := 190) hX dX4_give_186 rfl ?_
      exact r_iret hX hZ dX4_give_190 ⟨_, rfl, ⟨ev_end (by omega) hP hh he, same.rf.sr (by simp)⟩⟩
    | succ m ih =>
      intro k f S hk hP hS hh he
      exact gv_step hX h14 hT ho k f S (by omega) hP hS hh he (fun f S a b c d => ih (k + 1) f S (by omega) a b c d)
  refine r_iconst (v := -1) hX dX4_give_0 (by decide) (RR.pc (b := 1) rfl ?_)
  refine r_istore hX dX4_give_1 (by decide) (RR.pc (b := 3) rfl ?_)
  refine r_iconst (v := 0) hX dX4_give_3 (by decide) (RR.pc (b := 4) rfl ?_)
  refine r_istore hX dX4_give_4 (by decide) (RR.pc (b := 6) rfl ?_)
  exact RR.cut (RR.eqs (sr_self (r := 4)).symm (loop T.2.2.length 0 (σ 4) [] (by omega) Pl.nil (by simp) (by simpa using ho.2.1) (by simp))) (List.forall_mem_cons.mpr ⟨rfl, List.forall_mem_cons.mpr ⟨rfl, List.forall_mem_cons.mpr ⟨rfl, List.forall_mem_cons.mpr ⟨rfl, List.forall_mem_cons.mpr ⟨rfl, List.forall_mem_cons.mpr ⟨rfl, fun _ h => absurd h List.not_mem_nil⟩⟩⟩⟩⟩⟩)
