/-! constant texts: length, charAt, indexOf -/
def bf (G : GM) (i : Nat) : Value := .ref (G.2.2.2.2.2.1 i)
section RRK
variable {X : CX} {G : GM} {own : String} {cc : ByteArray} {nL d pc : Nat} {lv : LVs} {st : List Value} {σ : SG}
theorem r_sval {i : Nat} (hX : Fx X G RJ0 cc nL d) (hd : decode cc pc = .ok (.getfield 9, 3)) (hi : i < 14) (kk : RR X G nL (pc + 3) lv (bf G i :: st) σ) : RR X G nL pc lv (sf G i :: st) σ :=
  fun H locs ls hP hS hls => vk_getf hX.1 hX.2.1 (hX.2.2.2.2.2.2.2.1.2.2.2.2.1.1 i hi).2.2.1 hS hX.2.2.2.1 (hX.2.2.2.2.1 _ (wI_29 _ (List.mem_of_getElem? (i := 16) rfl))) (fun _ h => h) hd (kk H locs ls hP hS hls)
theorem r_scod {i : Nat} (hX : Fx X G RJ0 cc nL d) (hd : decode cc pc = .ok (.getfield 15, 3)) (hi : i < 14) (kk : RR X G nL (pc + 3) lv (.int 0 :: st) σ) : RR X G nL pc lv (sf G i :: st) σ :=
  fun H locs ls hP hS hls => vk_getf hX.1 hX.2.1 (hX.2.2.2.2.2.2.2.1.2.2.2.2.1.1 i hi).2.1 hS hX.2.2.2.1 (hX.2.2.2.2.1 _ (wI_29 _ (List.mem_of_getElem? (i := 22) rfl))) (fun _ h => h) hd (kk H locs ls hP hS hls)
theorem r_compact (hX : Fx X G RJ0 cc nL d) (hd : decode cc pc = .ok (.getstatic 38, 3)) (kk : RR X G nL (pc + 3) lv (.int 1 :: st) σ) : RR X G nL pc lv st σ :=
  fun H locs ls hP hS hls => va_gets hX.1 hX.2.1 hX.2.2.2.2.2.2.2.1.2.2.2.1 hS hX.2.2.2.1 (hX.2.2.2.2.1 _ (wI_29 _ (List.mem_of_getElem? (i := 21) rfl))) (fun _ h => h) hd (kk H locs ls hP hS hls)
theorem r_siobe (hX : Fx X G RJ0 cc nL d) (hd : decode cc pc = .ok (.getstatic 1053, 3)) (kk : ∀ v : Value, (v = .null ∨ ∃ t : Nat, v = .ref t) → RR X G nL (pc + 3) lv (v :: st) σ) : RR X G nL pc lv st σ := by
  intro H locs ls hP hS hls
  rcases hX.2.2.2.2.2.2.2.1.2.2.2.2.2.2.2 with h | ⟨t, h⟩
  · exact va_gets hX.1 hX.2.1 h hS hX.2.2.2.1 (hX.2.2.2.2.1 _ (wI_30 _ (List.mem_of_getElem? (i := 14) rfl))) (fun _ h => h) hd (kk _ (Or.inl rfl) H locs ls hP hS hls)
  · exact va_gets hX.1 hX.2.1 h hS hX.2.2.2.1 (hX.2.2.2.2.1 _ (wI_30 _ (List.mem_of_getElem? (i := 14) rfl))) (fun _ h => h) hd (kk _ (Or.inr ⟨t, rfl⟩) H locs ls hP hS hls)
theorem r_blen {i : Nat} (hX : Fx X G own cc nL d) (hd : decode cc pc = .ok (.arraylength, 1)) (hi : i < 14) (kk : RR X G nL (pc + 1) lv (.int (nI (kLen.getD i 0)) :: st) σ) : RR X G nL pc lv (bf G i :: st) σ :=
  fun H locs ls hP hS hls => va_tlen hX.1 hX.2.1 (hX.2.2.2.2.2.2.2.1.2.2.2.2.1.1 i hi).2.2.2 hS rfl hd (kk H locs ls hP hS hls)
theorem kLen_lt : ∀ i, i < 14 → kLen.getD i 0 ≤ 4 ∧ (kByt.getD i []).length = kLen.getD i 0 := by decide +kernel
theorem r_bald {i j : Nat} {x : Int32} (hX : Fx X G own cc nL d) (hd : decode cc pc = .ok (.baload, 1)) (hi : i < 14) (hx : x = nI j) (hj : j < kLen.getD i 0) (kk : RR X G nL (pc + 1) lv (.int ((kByt.getD i []).getD j 0) :: st) σ) : RR X G nL pc lv (.int x :: bf G i :: st) σ := by
  subst hx
  have := (kLen_lt i hi).1
  exact fun H locs ls hP hS hls => va_tb hX.1 hX.2.1 (hX.2.2.2.2.2.2.2.1.2.2.2.2.1.1 i hi).2.2.2 hS (vp_in_nI hj (by omega)) (by rw [nI_clamp (by omega)]) hd (kk H locs ls hP hS hls)
theorem r_callVK {Q : Option Value → SG → Prop} {y : MethodName} {cy : ByteArray} {maxL n d' idx i : Nat} {ret : Option FieldType} {As st0 : List Value} (hX : Fx X G own cc nL d) (hd : decode cc pc = .ok (.invokevirtual idx, 3)) (hm : ML own idx y) (hy : CD y cy maxL ret n) (hv : CV y)
    (hc : Con G y cy maxL ret d' (sf G i :: As) σ Q) (hdd : d' + 1 ≤ d) (hi : i < 14) (hC1 : "java/lang/String" = y.cls) (hn : As.length = n) (hst : st0 = As.reverse ++ sf G i :: st) (hcat : (st.map fun v => v.category).sum ≤ 8)
    (kk : ∀ v σ', Q v σ' → RR X G nL (pc + 3) lv (v.toList ++ st) σ') : RR X G nL pc lv st0 σ := by
  intro H locs ls hP hS hls
  subst hst
  have hfr := hX.2.2.2.2.2.2.2.2.1
  have hlo := hX.2.2.2.2.2.2.2.2.2.1
  have hcw : CallW X.2.2.2.1 X.2.2.2.2.1 X.2.2.2.2.2.2.1 own y.cls idx y cy maxL ret (Cond.code y cy maxL ret :: wsL_law) { frames := d', cells := 0, slots := 0, locals := 40 * d' } 0 0 n := by
    refine cwV n hX.2.2.2.2.1 ?_ rfl rfl rfl ⟨rfl, hy.2.2.1⟩ ⟨by show d' + 1 ≤ _; omega, by have := hy.2.2.2.1; show 8 + (maxL + 11) + 40 * d' ≤ _; omega⟩
    refine goodSub hy (fun w hw => ?_)
    simp only [List.mem_cons, List.not_mem_nil, or_false] at hw
    rcases hw with rfl | rfl | rfl | rfl
    · exact hm
    · exact hv.1
    · exact hv.2
    · exact hy.2.1
  refine r_after (Q := Q) hS hls (va_runV (As := As) (rest := st) (b := G.2.2.2.2.1 i) ⟨hX.1, hX.2.1, hX.2.2.1, hX.2.2.2.1, hX.2.2.2.2.1⟩ (hc X.2.1) hcw ⟨pw_blind, ?_, ?_⟩ rfl hn hls.1 rfl (lv_room hcat) hd ⟨hX.2.2.2.2.2.2.2.2.2.2.1, hX.2.2.2.2.2.2.2.2.2.2.2⟩) kk
  · have := vk_recv hX.2.2.2.2.2.2.2.1.2.2.2.2.1 hi hS
    rw [hC1] at this
    exact this
  · exact pw_at (av := sf G i :: As) hX.2.2.2.2.2.1 hX.2.2.2.2.2.2.1 hX.2.2.2.2.2.2.2.1 hP hS
theorem r_callVKie {a : Int32} {b : SG} {y : MethodName} {cy : ByteArray} {maxL n d' idx i : Nat} {ret : Option FieldType} {As st0 : List Value} (hX : Fx X G own cc nL d) (hd : decode cc pc = .ok (.invokevirtual idx, 3)) (hm : ML own idx y) (hy : CD y cy maxL ret n) (hv : CV y)
    (hc : CI G y cy maxL ret d' (sf G i :: As) σ (fun r s => r = a ∧ s = b)) (hdd : d' + 1 ≤ d) (hi : i < 14) (hC1 : "java/lang/String" = y.cls) (hn : As.length = n) (hst : st0 = As.reverse ++ sf G i :: st) (hcat : (st.map fun v => v.category).sum ≤ 8)
    (kk : RR X G nL (pc + 3) lv (.int a :: st) b) : RR X G nL pc lv st0 σ := by
  refine r_callVK hX hd hm hy hv hc hdd hi hC1 hn hst hcat ?_
  rintro v s ⟨r, rfl, rfl, rfl⟩
  exact kk
end RRK
set_option maxHeartbeats 4000000 in
set_option maxRecDepth 100000 in
theorem c_J0_coder_7d493 {G : GM} {σ : SG} {i : Nat} (hi : i < 14) : CI G yJ0_coder_7d493 cJ0_coder_7d493 1 (some .byte) 0 [sf G i] σ (fun r s => r = 0 ∧ s = σ) := by
  refine Con.of cd_J0_coder_7d493 (Nat.le_of_ble_eq_true rfl) ?_
  intro X hX hZ
  have hX : Fx X G RJ0 cJ0_coder_7d493 1 0 := hX
  show RR X G 1 0 (ll [(0, sf G i)]) [] σ
  refine r_compact hX dJ0_coder_7d493_0 (RR.pc (b := 3) rfl ?_)
  refine r_if_eq (tgt := 13) hX dJ0_coder_7d493_3 rfl (fun h3 => absurd h3 (by decide)) (fun h3 => RR.pc (b := 6) rfl ?_)
  refine r_aload_n hX dJ0_coder_7d493_6 rfl ⟨_, rfl⟩ (RR.pc (b := 7) rfl ?_)
  refine r_scod hX dJ0_coder_7d493_7 (by assumption) (RR.pc (b := 10) rfl ?_)
  refine r_goto (tgt := 14) hX dJ0_coder_7d493_10 rfl ?_
  exact r_zret hX hZ dJ0_coder_7d493_14 (by first | rfl | exact nar_bz _) ⟨_, rfl, ⟨rfl, rfl⟩⟩
set_option maxHeartbeats 4000000 in
set_option maxRecDepth 100000 in
theorem c_J0_isLatin1_aae02 {G : GM} {σ : SG} {i : Nat} (hi : i < 14) : CI G yJ0_isLatin1_aae02 cJ0_isLatin1_aae02 1 (some .boolean) 0 [sf G i] σ (fun r s => r = 1 ∧ s = σ) := by
  refine Con.of cd_J0_isLatin1_aae02 (Nat.le_of_ble_eq_true rfl) ?_
  intro X hX hZ
  have hX : Fx X G RJ0 cJ0_isLatin1_aae02 1 0 := hX
  show RR X G 1 0 (ll [(0, sf G i)]) [] σ
  refine r_compact hX dJ0_isLatin1_aae02_0 (RR.pc (b := 3) rfl ?_)
  refine r_if_eq (tgt := 17) hX dJ0_isLatin1_aae02_3 rfl (fun h3 => absurd h3 (by decide)) (fun h3 => RR.pc (b := 6) rfl ?_)
  refine r_aload_n hX dJ0_isLatin1_aae02_6 rfl ⟨_, rfl⟩ (RR.pc (b := 7) rfl ?_)
  refine r_scod hX dJ0_isLatin1_aae02_7 (by assumption) (RR.pc (b := 10) rfl ?_)
  refine r_if_ne (tgt := 17) hX dJ0_isLatin1_aae02_10 rfl (fun h10 => absurd rfl h10) (fun h10 => RR.pc (b := 13) rfl ?_)
  refine r_iconst (v := 1) hX dJ0_isLatin1_aae02_13 (by decide) (RR.pc (b := 14) rfl ?_)
  refine r_goto (tgt := 18) hX dJ0_isLatin1_aae02_14 rfl ?_
  exact r_zret hX hZ dJ0_isLatin1_aae02_18 (by first | rfl | exact nar_bz _) ⟨_, rfl, ⟨rfl, rfl⟩⟩
theorem kLen_sh : ∀ i, i < 14 → nI (kLen.getD i 0) >>> ((0 : Int32) &&& 31) = nI (kLen.getD i 0) := by decide +kernel
set_option maxHeartbeats 4000000 in
set_option maxRecDepth 100000 in
theorem c_J0_length_8abf5 {G : GM} {σ : SG} {i : Nat} (hi : i < 14) : CI G yJ0_length_8abf5 cJ0_length_8abf5 1 (some .int) 1 [sf G i] σ (fun r s => r = nI (kLen.getD i 0) ∧ s = σ) := by
  refine Con.of cd_J0_length_8abf5 (Nat.le_of_ble_eq_true rfl) ?_
  intro X hX hZ
  have hX : Fx X G RJ0 cJ0_length_8abf5 1 1 := hX
  show RR X G 1 0 (ll [(0, sf G i)]) [] σ
  refine r_aload_n hX dJ0_length_8abf5_0 rfl ⟨_, rfl⟩ (RR.pc (b := 1) rfl ?_)
  refine r_sval hX dJ0_length_8abf5_1 (by assumption) (RR.pc (b := 4) rfl ?_)
  refine r_blen hX dJ0_length_8abf5_4 hi (RR.pc (b := 5) rfl ?_)
  refine r_aload_n hX dJ0_length_8abf5_5 rfl ⟨_, rfl⟩ (RR.pc (b := 6) rfl ?_)
  refine r_callVKie hX dJ0_length_8abf5_6 ml_J0_335 cd_J0_coder_7d493 iv_J0_coder_7d493 (c_J0_coder_7d493 hi) (by decide) (by assumption) rfl rfl rfl (Nat.le_of_ble_eq_true rfl) (RR.pc (b := 9) rfl ?_)
  refine r_ishr hX dJ0_length_8abf5_9 (RR.pc (b := 10) rfl ?_)
  exact r_iret hX hZ dJ0_length_8abf5_10 ⟨_, rfl, ⟨kLen_sh i hi, rfl⟩⟩
set_option maxHeartbeats 4000000 in
set_option maxRecDepth 100000 in
theorem c_J3n {G : GM} {σ : SG} {j n : Nat} (hj : j < n) (hn : n < 1000) : CI G yJ3_checkIndex_8e157 cJ3_checkIndex_8e157 3 (some .int) 0 [.int (nI j), .int (nI n), .null] σ (fun r s => r = nI j ∧ s = σ) := by
  refine Con.of cd_J3_checkIndex_8e157 (Nat.le_of_ble_eq_true rfl) ?_
  intro X hX hZ
  have hX : Fx X G RJ3 cJ3_checkIndex_8e157 3 0 := hX
  show RR X G 3 0 (ll [(0, .int (nI j)), (1, .int (nI n)), (2, .null)]) [] σ
  refine r_iload_n (i := 0) hX dJ3_checkIndex_8e157_0 rfl (RR.pc (b := 1) rfl ?_)
  refine r_if_lt (tgt := 9) hX dJ3_checkIndex_8e157_1 rfl (fun h1 => absurd h1 (nI_pos (by omega))) (fun h1 => RR.pc (b := 4) rfl ?_)
  refine r_iload_n (i := 0) hX dJ3_checkIndex_8e157_4 rfl (RR.pc (b := 5) rfl ?_)
  refine r_iload_n (i := 0) hX dJ3_checkIndex_8e157_5 rfl (RR.pc (b := 6) rfl ?_)
  refine r_icmp_lt (tgt := 16) hX dJ3_checkIndex_8e157_6 rfl (fun h6 => ?_) (fun h6 => absurd (nI_lt hj (by omega)) h6)
  refine r_iload_n (i := 0) hX dJ3_checkIndex_8e157_16 rfl (RR.pc (b := 17) rfl ?_)
  exact r_iret hX hZ dJ3_checkIndex_8e157_17 ⟨_, rfl, ⟨rfl, rfl⟩⟩
set_option maxHeartbeats 4000000 in
set_option maxRecDepth 100000 in
theorem c_J3r {G : GM} {σ : SG} {j n t : Nat} (hj : j < n) (hn : n < 1000) : CI G yJ3_checkIndex_8e157 cJ3_checkIndex_8e157 3 (some .int) 0 [.int (nI j), .int (nI n), .ref t] σ (fun r s => r = nI j ∧ s = σ) := by
  refine Con.of cd_J3_checkIndex_8e157 (Nat.le_of_ble_eq_true rfl) ?_
  intro X hX hZ
  have hX : Fx X G RJ3 cJ3_checkIndex_8e157 3 0 := hX
  show RR X G 3 0 (ll [(0, .int (nI j)), (1, .int (nI n)), (2, .ref t)]) [] σ
  refine r_iload_n (i := 0) hX dJ3_checkIndex_8e157_0 rfl (RR.pc (b := 1) rfl ?_)
  refine r_if_lt (tgt := 9) hX dJ3_checkIndex_8e157_1 rfl (fun h1 => absurd h1 (nI_pos (by omega))) (fun h1 => RR.pc (b := 4) rfl ?_)
  refine r_iload_n (i := 0) hX dJ3_checkIndex_8e157_4 rfl (RR.pc (b := 5) rfl ?_)
  refine r_iload_n (i := 0) hX dJ3_checkIndex_8e157_5 rfl (RR.pc (b := 6) rfl ?_)
  refine r_icmp_lt (tgt := 16) hX dJ3_checkIndex_8e157_6 rfl (fun h6 => ?_) (fun h6 => absurd (nI_lt hj (by omega)) h6)
  refine r_iload_n (i := 0) hX dJ3_checkIndex_8e157_16 rfl (RR.pc (b := 17) rfl ?_)
  exact r_iret hX hZ dJ3_checkIndex_8e157_17 ⟨_, rfl, ⟨rfl, rfl⟩⟩
set_option maxHeartbeats 4000000 in
set_option maxRecDepth 100000 in
theorem c_J0_checkIndex_df160 {G : GM} {σ : SG} {j n : Nat} (hj : j < n) (hn : n < 1000) : CU G yJ0_checkIndex_df160 cJ0_checkIndex_df160 2 none 1 [.int (nI j), .int (nI n)] σ (fun s => s = σ) := by
  refine Con.of cd_J0_checkIndex_df160 (Nat.le_of_ble_eq_true rfl) ?_
  intro X hX hZ
  have hX : Fx X G RJ0 cJ0_checkIndex_df160 2 1 := hX
  show RR X G 2 0 (ll [(0, .int (nI j)), (1, .int (nI n))]) [] σ
  refine r_iload_n (i := 0) hX dJ0_checkIndex_df160_0 rfl (RR.pc (b := 1) rfl ?_)
  refine r_iload_n (i := 0) hX dJ0_checkIndex_df160_1 rfl (RR.pc (b := 2) rfl ?_)
  refine r_siobe hX dJ0_checkIndex_df160_2 (fun v hv => RR.pc (b := 5) rfl ?_)
  rcases hv with rfl | ⟨t, rfl⟩
  · skip
    refine r_callSie hX dJ0_checkIndex_df160_5 ml_J0_1059 cd_J3_checkIndex_8e157 st_J3_checkIndex_8e157 (c_J3n hj hn) (by decide) rfl rfl (Nat.le_of_ble_eq_true rfl) (RR.pc (b := 8) rfl ?_)
    refine r_pop hX dJ0_checkIndex_df160_8 rfl (RR.pc (b := 9) rfl ?_)
    exact r_vret hX hZ dJ0_checkIndex_df160_9 ⟨rfl, rfl⟩
  · skip
    refine r_callSie hX dJ0_checkIndex_df160_5 ml_J0_1059 cd_J3_checkIndex_8e157 st_J3_checkIndex_8e157 (c_J3r (t := t) hj hn) (by decide) rfl rfl (Nat.le_of_ble_eq_true rfl) (RR.pc (b := 8) rfl ?_)
    refine r_pop hX dJ0_checkIndex_df160_8 rfl (RR.pc (b := 9) rfl ?_)
    exact r_vret hX hZ dJ0_checkIndex_df160_9 ⟨rfl, rfl⟩
theorem kByt_c : ∀ i, i < 14 → ∀ j, j < 4 → (((kByt.getD i []).getD j 0 &&& 255).toUInt32 % 65536).toInt32 = (kByt.getD i []).getD j 0 ∧ narrow .char (.int ((kByt.getD i []).getD j 0)) = .int ((kByt.getD i []).getD j 0) := by decide +kernel
set_option maxHeartbeats 4000000 in
set_option maxRecDepth 100000 in
theorem c_J1_charAt_3b067 {G : GM} {σ : SG} {i j : Nat} (hi : i < 14) (hj : j < kLen.getD i 0) : CI G yJ1_charAt_3b067 cJ1_charAt_3b067 2 (some .char) 2 [bf G i, .int (nI j)] σ (fun r s => r = (kByt.getD i []).getD j 0 ∧ s = σ) := by
  refine Con.of cd_J1_charAt_3b067 (Nat.le_of_ble_eq_true rfl) ?_
  intro X hX hZ
  have hX : Fx X G RJ1 cJ1_charAt_3b067 2 2 := hX
  show RR X G 2 0 (ll [(0, bf G i), (1, .int (nI j))]) [] σ
  have hk := (kLen_lt i hi).1
  have hc := kByt_c i hi j (by omega)
  refine r_iload_n (i := 0) hX dJ1_charAt_3b067_0 rfl (RR.pc (b := 1) rfl ?_)
  refine r_aload_n hX dJ1_charAt_3b067_1 rfl ⟨_, rfl⟩ (RR.pc (b := 2) rfl ?_)
  refine r_blen hX dJ1_charAt_3b067_2 hi (RR.pc (b := 3) rfl ?_)
  refine r_callSve hX dJ1_charAt_3b067_3 ml_J1_9 cd_J0_checkIndex_df160 st_J0_checkIndex_df160 (c_J0_checkIndex_df160 hj (by omega)) (by decide) rfl rfl (Nat.le_of_ble_eq_true rfl) (RR.pc (b := 6) rfl ?_)
  refine r_aload_n hX dJ1_charAt_3b067_6 rfl ⟨_, rfl⟩ (RR.pc (b := 7) rfl ?_)
  refine r_iload_n (i := 0) hX dJ1_charAt_3b067_7 rfl (RR.pc (b := 8) rfl ?_)
  refine r_bald hX dJ1_charAt_3b067_8 (by assumption) rfl (by omega) (RR.pc (b := 9) rfl ?_)
  refine r_sipush (v := 255) hX dJ1_charAt_3b067_9 (by decide) (RR.pc (b := 12) rfl ?_)
  refine r_iand hX dJ1_charAt_3b067_12 (RR.pc (b := 13) rfl ?_)
  refine r_i2c hX dJ1_charAt_3b067_13 (RR.pc (b := 14) rfl ?_)
  rw [hc.1]
  exact r_zret hX hZ dJ1_charAt_3b067_14 hc.2 ⟨_, rfl, rfl, rfl⟩
set_option maxHeartbeats 4000000 in
set_option maxRecDepth 100000 in
theorem c_J0_charAt_5068e {G : GM} {σ : SG} {i j : Nat} (hi : i < 14) (hj : j < kLen.getD i 0) : CI G yJ0_charAt_5068e cJ0_charAt_5068e 2 (some .char) 4 [sf G i, .int (nI j)] σ (fun r s => r = (kByt.getD i []).getD j 0 ∧ s = σ) := by
  refine Con.of cd_J0_charAt_5068e (Nat.le_of_ble_eq_true rfl) ?_
  intro X hX hZ
  have hX : Fx X G RJ0 cJ0_charAt_5068e 2 4 := hX
  show RR X G 2 0 (ll [(0, sf G i), (1, .int (nI j))]) [] σ
  have hk := (kLen_lt i hi).1
  have hc := kByt_c i hi j (by omega)
  refine r_aload_n hX dJ0_charAt_5068e_0 rfl ⟨_, rfl⟩ (RR.pc (b := 1) rfl ?_)
  refine r_callVKie hX dJ0_charAt_5068e_1 ml_J0_492 cd_J0_isLatin1_aae02 iv_J0_isLatin1_aae02 (c_J0_isLatin1_aae02 hi) (by decide) (by assumption) rfl rfl rfl (Nat.le_of_ble_eq_true rfl) (RR.pc (b := 4) rfl ?_)
  refine r_if_eq (tgt := 16) hX dJ0_charAt_5068e_4 rfl (fun h4 => absurd h4 (by decide)) (fun h4 => RR.pc (b := 7) rfl ?_)
  refine r_aload_n hX dJ0_charAt_5068e_7 rfl ⟨_, rfl⟩ (RR.pc (b := 8) rfl ?_)
  refine r_sval hX dJ0_charAt_5068e_8 (by assumption) (RR.pc (b := 11) rfl ?_)
  refine r_iload_n (i := 0) hX dJ0_charAt_5068e_11 rfl (RR.pc (b := 12) rfl ?_)
  refine r_callSie hX dJ0_charAt_5068e_12 ml_J0_495 cd_J1_charAt_3b067 st_J1_charAt_3b067 (c_J1_charAt_3b067 hi hj) (by decide) rfl rfl (Nat.le_of_ble_eq_true rfl) (RR.pc (b := 15) rfl ?_)
  exact r_zret hX hZ dJ0_charAt_5068e_15 hc.2 ⟨_, rfl, rfl, rfl⟩
set_option maxHeartbeats 4000000 in
set_option maxRecDepth 100000 in
theorem c_J1_canEncode_9a6ad {G : GM} {σ : SG} {c : Nat} (hc : c < 256) : CI G yJ1_canEncode_9a6ad cJ1_canEncode_9a6ad 1 (some .boolean) 0 [.int (nI c)] σ (fun r s => r = 1 ∧ s = σ) := by
  refine Con.of cd_J1_canEncode_9a6ad (Nat.le_of_ble_eq_true rfl) ?_
  intro X hX hZ
  have hX : Fx X G RJ1 cJ1_canEncode_9a6ad 1 0 := hX
  show RR X G 1 0 (ll [(0, .int (nI c))]) [] σ
  refine r_iload_n (i := 0) hX dJ1_canEncode_9a6ad_0 rfl (RR.pc (b := 1) rfl ?_)
  refine r_if_lt (tgt := 15) hX dJ1_canEncode_9a6ad_1 rfl (fun h1 => absurd h1 (nI_pos (by omega))) (fun h1 => RR.pc (b := 4) rfl ?_)
  refine r_iload_n (i := 0) hX dJ1_canEncode_9a6ad_4 rfl (RR.pc (b := 5) rfl ?_)
  refine r_sipush (v := 255) hX dJ1_canEncode_9a6ad_5 (by decide) (RR.pc (b := 8) rfl ?_)
  refine r_icmp_gt (tgt := 15) hX dJ1_canEncode_9a6ad_8 rfl (fun h8 => absurd h8 (nI_nlt (a := 255) (by omega) (by omega))) (fun h8 => RR.pc (b := 11) rfl ?_)
  refine r_iconst (v := 1) hX dJ1_canEncode_9a6ad_11 (by decide) (RR.pc (b := 12) rfl ?_)
  refine r_goto (tgt := 16) hX dJ1_canEncode_9a6ad_12 rfl ?_
  exact r_zret hX hZ dJ1_canEncode_9a6ad_16 (by first | rfl | exact nar_bz _) ⟨_, rfl, ⟨rfl, rfl⟩⟩
/-- where a char stands in a text -/
def ixF (c : Int32) : List Int32 → Nat → Int32
  | [], _ => -1
  | b :: l, k => if b = c then nI k else ixF c l (k + 1)
theorem kByt_b : ∀ i, i < 14 → ∀ b ∈ kByt.getD i [], ∃ x : Nat, x < 128 ∧ b = nI x := by
  have h : ∀ i, i < 14 → ∀ b ∈ kByt.getD i [], b.toNatClampNeg < 128 ∧ b = nI b.toNatClampNeg := by decide +kernel
  exact fun i hi b hb => ⟨_, (h i hi b hb).1, (h i hi b hb).2⟩
theorem i2b_eq : ∀ x, x < 128 → ∀ c, c < 256 → (nI x = (nI c).toInt8.toInt32 ↔ x = c) := by
  intro x hx c hc
  by_cases h : c < 128
  · have e : ∀ c, c < 128 → (nI c).toInt8.toInt32 = nI c := by decide +kernel
    rw [e c h, nI_eq (by omega) (by omega)]
  · have e : ∀ c, c < 256 → ¬ c < 128 → (nI c).toInt8.toInt32 < 0 := by decide +kernel
    refine ⟨fun z => absurd (e c hc h) (by rw [← z]; exact nI_pos (by omega)), fun z => by omega⟩
theorem drop_cons {l : List Int32} {k : Nat} (h : k < l.length) : l.drop k = l.getD k 0 :: l.drop (k + 1) := by
  rw [List.drop_eq_getElem_cons h, List.getD_eq_getElem?_getD, List.getElem?_eq_getElem h]
  rfl
theorem mem_getD {l : List Int32} {k : Nat} (h : k < l.length) : l.getD k 0 ∈ l := by
  rw [List.getD_eq_getElem?_getD, List.getElem?_eq_getElem h]
  exact List.getElem_mem _
set_option maxHeartbeats 4000000 in
set_option maxRecDepth 100000 in
theorem c_J1_indexOfChar_4cfef {G : GM} {σ : SG} {i c : Nat} (hi : i < 14) (hc : c < 256) : CI G yJ1_indexOfChar_4cfef cJ1_indexOfChar_4cfef 6 (some .int) 0 [bf G i, .int (nI c), .int (nI 0), .int (nI (kLen.getD i 0))] σ (fun r s => r = ixF (nI c) (kByt.getD i []) 0 ∧ s = σ) := by
  refine Con.of cd_J1_indexOfChar_4cfef (Nat.le_of_ble_eq_true rfl) ?_
  intro X hX hZ
  have hX : Fx X G RJ1 cJ1_indexOfChar_4cfef 6 0 := hX
  show RR X G 6 0 (ll [(0, bf G i), (1, .int (nI c)), (2, .int (nI 0)), (3, .int (nI (kLen.getD i 0)))]) [] σ
  have hk := kLen_lt i hi
  generalize hv : ixF (nI c) (kByt.getD i []) 0 = v at hZ
  have loop := loopK (kLen.getD i 0) (fun k => ixF (nI c) ((kByt.getD i []).drop k) k = v → RR X G 6 7 (ll [(0, bf G i), (3, .int (nI (kLen.getD i 0))), (4, .int (nI c).toInt8.toInt32), (5, .int (nI k))]) [] σ) (by
    intro k hkk ih he
    refine r_iload hX dJ1_indexOfChar_4cfef_7 rfl (RR.pc (b := 9) rfl ?_)
    refine r_iload_n (i := 0) hX dJ1_indexOfChar_4cfef_9 rfl (RR.pc (b := 10) rfl ?_)
    refine r_icmp_ge (tgt := 31) hX dJ1_indexOfChar_4cfef_10 rfl (fun h10 => ?_) (fun h10 => RR.pc (b := 13) rfl ?_)
    · have hk2 : k = kLen.getD i 0 := by rw [nI_leI (by omega) (by omega)] at h10; omega
      rw [List.drop_eq_nil_of_le (by omega)] at he
      refine r_iconst (v := -1) hX dJ1_indexOfChar_4cfef_31 (by decide) (RR.pc (b := 32) rfl ?_)
      exact r_iret hX hZ dJ1_indexOfChar_4cfef_32 ⟨_, rfl, ⟨he, rfl⟩⟩
    · have hk2 : k < kLen.getD i 0 := by rw [nI_leI (by omega) (by omega)] at h10; omega
      rw [drop_cons (by omega), ixF] at he
      have hm : (kByt.getD i []).getD k 0 ∈ kByt.getD i [] := mem_getD (by omega)
      obtain ⟨x, hx, ex⟩ := kByt_b i hi _ hm
      refine r_aload_n hX dJ1_indexOfChar_4cfef_13 rfl ⟨_, rfl⟩ (RR.pc (b := 14) rfl ?_)
      refine r_iload hX dJ1_indexOfChar_4cfef_14 rfl (RR.pc (b := 16) rfl ?_)
      refine r_bald hX dJ1_indexOfChar_4cfef_16 (by assumption) rfl hk2 (RR.pc (b := 17) rfl ?_)
      refine r_iload hX dJ1_indexOfChar_4cfef_17 rfl (RR.pc (b := 19) rfl ?_)
      rw [ex] at he ⊢
      refine r_icmp_ne (tgt := 25) hX dJ1_indexOfChar_4cfef_19 rfl (fun h19 => ?_) (fun h19 => RR.pc (b := 22) rfl ?_)
      · rw [if_neg (fun z => h19 ((i2b_eq x hx c hc).mpr ((nI_eq (by omega) (by omega)).mp z)))] at he
        refine r_iinc hX dJ1_indexOfChar_4cfef_25 rfl (by decide) (nI_1 k) (RR.pc (b := 28) rfl ?_)
        refine r_goto (tgt := 7) hX dJ1_indexOfChar_4cfef_28 rfl ?_
        exact RR.cut (ih hk2 he) (List.forall_mem_cons.mpr ⟨rfl, List.forall_mem_cons.mpr ⟨rfl, List.forall_mem_cons.mpr ⟨rfl, List.forall_mem_cons.mpr ⟨rfl, fun _ h => absurd h List.not_mem_nil⟩⟩⟩⟩)
      · rw [if_pos (by rw [(i2b_eq x hx c hc).mp h19])] at he
        refine r_iload hX dJ1_indexOfChar_4cfef_22 rfl (RR.pc (b := 24) rfl ?_)
        exact r_iret hX hZ dJ1_indexOfChar_4cfef_24 ⟨_, rfl, ⟨he, rfl⟩⟩
    )
  refine r_iload_n (i := 0) hX dJ1_indexOfChar_4cfef_0 rfl (RR.pc (b := 1) rfl ?_)
  refine r_i2b hX dJ1_indexOfChar_4cfef_1 (RR.pc (b := 2) rfl ?_)
  refine r_istore hX dJ1_indexOfChar_4cfef_2 (by decide) (RR.pc (b := 4) rfl ?_)
  refine r_iload_n (i := 0) hX dJ1_indexOfChar_4cfef_4 rfl (RR.pc (b := 5) rfl ?_)
  refine r_istore hX dJ1_indexOfChar_4cfef_5 (by decide) (RR.pc (b := 7) rfl ?_)
  exact RR.cut (loop 0 (by omega) hv) (List.forall_mem_cons.mpr ⟨rfl, List.forall_mem_cons.mpr ⟨rfl, List.forall_mem_cons.mpr ⟨rfl, List.forall_mem_cons.mpr ⟨rfl, fun _ h => absurd h List.not_mem_nil⟩⟩⟩⟩)
theorem kLen_pos : ∀ i, i < 14 → 0 < kLen.getD i 0 := by decide +kernel
set_option maxHeartbeats 4000000 in
set_option maxRecDepth 100000 in
theorem c_J1_indexOf_4cfef {G : GM} {σ : SG} {i c : Nat} (hi : i < 14) (hc : c < 256) : CI G yJ1_indexOf_4cfef cJ1_indexOf_4cfef 4 (some .int) 1 [bf G i, .int (nI c), .int (nI 0), .int (nI (kLen.getD i 0))] σ (fun r s => r = ixF (nI c) (kByt.getD i []) 0 ∧ s = σ) := by
  refine Con.of cd_J1_indexOf_4cfef (Nat.le_of_ble_eq_true rfl) ?_
  intro X hX hZ
  have hX : Fx X G RJ1 cJ1_indexOf_4cfef 4 1 := hX
  show RR X G 4 0 (ll [(0, bf G i), (1, .int (nI c)), (2, .int (nI 0)), (3, .int (nI (kLen.getD i 0)))]) [] σ
  have hk := kLen_lt i hi
  have hp := kLen_pos i hi
  refine r_iload_n (i := 0) hX dJ1_indexOf_4cfef_0 rfl (RR.pc (b := 1) rfl ?_)
  refine r_callSie hX dJ1_indexOf_4cfef_1 ml_J1_88 cd_J1_canEncode_9a6ad st_J1_canEncode_9a6ad (c_J1_canEncode_9a6ad hc) (by decide) rfl rfl (Nat.le_of_ble_eq_true rfl) (RR.pc (b := 4) rfl ?_)
  refine r_if_ne (tgt := 9) hX dJ1_indexOf_4cfef_4 rfl (fun h4 => ?_) (fun h4 => absurd h4 (by decide))
  refine r_iload_n (i := 0) hX dJ1_indexOf_4cfef_9 rfl (RR.pc (b := 10) rfl ?_)
  refine r_iconst (v := 0) hX dJ1_indexOf_4cfef_10 (by decide) (RR.pc (b := 11) rfl ?_)
  refine r_max hX (by decide) dJ1_indexOf_4cfef_11 ml_J1_92 (Nat.le_of_ble_eq_true rfl) (RR.pc (b := 14) rfl ?_)
  rw [show (if nI 0 < 0 then (0 : Int32) else nI 0) = nI 0 from rfl]
  refine r_istore_n hX dJ1_indexOf_4cfef_14 (by decide) (RR.pc (b := 15) rfl ?_)
  refine r_iload_n (i := 0) hX dJ1_indexOf_4cfef_15 rfl (RR.pc (b := 16) rfl ?_)
  refine r_aload_n hX dJ1_indexOf_4cfef_16 rfl ⟨_, rfl⟩ (RR.pc (b := 17) rfl ?_)
  refine r_blen hX dJ1_indexOf_4cfef_17 hi (RR.pc (b := 18) rfl ?_)
  refine r_min hX (by decide) dJ1_indexOf_4cfef_18 ml_J1_38 (Nat.le_of_ble_eq_true rfl) (RR.pc (b := 21) rfl ?_)
  rw [show (if nI (kLen.getD i 0) < nI (kLen.getD i 0) then nI (kLen.getD i 0) else nI (kLen.getD i 0)) = nI (kLen.getD i 0) from by split <;> rfl]
  refine r_istore_n hX dJ1_indexOf_4cfef_21 (by decide) (RR.pc (b := 22) rfl ?_)
  refine r_iload_n (i := 0) hX dJ1_indexOf_4cfef_22 rfl (RR.pc (b := 23) rfl ?_)
  refine r_iload_n (i := 0) hX dJ1_indexOf_4cfef_23 rfl (RR.pc (b := 24) rfl ?_)
  refine r_icmp_lt (tgt := 29) hX dJ1_indexOf_4cfef_24 rfl (fun h24 => ?_) (fun h24 => absurd (nI_lt hp (by omega)) h24)
  refine r_aload_n hX dJ1_indexOf_4cfef_29 rfl ⟨_, rfl⟩ (RR.pc (b := 30) rfl ?_)
  refine r_iload_n (i := 0) hX dJ1_indexOf_4cfef_30 rfl (RR.pc (b := 31) rfl ?_)
  refine r_iload_n (i := 0) hX dJ1_indexOf_4cfef_31 rfl (RR.pc (b := 32) rfl ?_)
  refine r_iload_n (i := 0) hX dJ1_indexOf_4cfef_32 rfl (RR.pc (b := 33) rfl ?_)
  refine r_callSie hX dJ1_indexOf_4cfef_33 ml_J1_95 cd_J1_indexOfChar_4cfef st_J1_indexOfChar_4cfef (c_J1_indexOfChar_4cfef hi hc) (by decide) rfl rfl (Nat.le_of_ble_eq_true rfl) (RR.pc (b := 36) rfl ?_)
  exact r_iret hX hZ dJ1_indexOf_4cfef_36 ⟨_, rfl, ⟨rfl, rfl⟩⟩
set_option maxHeartbeats 4000000 in
set_option maxRecDepth 100000 in
theorem c_J0_indexOf_7cf53 {G : GM} {σ : SG} {i c : Nat} (hi : i < 14) (hc : c < 256) : CI G yJ0_indexOf_7cf53 cJ0_indexOf_7cf53 3 (some .int) 5 [sf G i, .int (nI c), .int (nI 0)] σ (fun r s => r = ixF (nI c) (kByt.getD i []) 0 ∧ s = σ) := by
  refine Con.of cd_J0_indexOf_7cf53 (Nat.le_of_ble_eq_true rfl) ?_
  intro X hX hZ
  have hX : Fx X G RJ0 cJ0_indexOf_7cf53 3 5 := hX
  show RR X G 3 0 (ll [(0, sf G i), (1, .int (nI c)), (2, .int (nI 0))]) [] σ
  refine r_aload_n hX dJ0_indexOf_7cf53_0 rfl ⟨_, rfl⟩ (RR.pc (b := 1) rfl ?_)
  refine r_callVKie hX dJ0_indexOf_7cf53_1 ml_J0_492 cd_J0_isLatin1_aae02 iv_J0_isLatin1_aae02 (c_J0_isLatin1_aae02 hi) (by decide) (by assumption) rfl rfl rfl (Nat.le_of_ble_eq_true rfl) (RR.pc (b := 4) rfl ?_)
  refine r_if_eq (tgt := 23) hX dJ0_indexOf_7cf53_4 rfl (fun h4 => absurd h4 (by decide)) (fun h4 => RR.pc (b := 7) rfl ?_)
  refine r_aload_n hX dJ0_indexOf_7cf53_7 rfl ⟨_, rfl⟩ (RR.pc (b := 8) rfl ?_)
  refine r_sval hX dJ0_indexOf_7cf53_8 (by assumption) (RR.pc (b := 11) rfl ?_)
  refine r_iload_n (i := 0) hX dJ0_indexOf_7cf53_11 rfl (RR.pc (b := 12) rfl ?_)
  refine r_iload_n (i := 0) hX dJ0_indexOf_7cf53_12 rfl (RR.pc (b := 13) rfl ?_)
  refine r_aload_n hX dJ0_indexOf_7cf53_13 rfl ⟨_, rfl⟩ (RR.pc (b := 14) rfl ?_)
  refine r_callVKie hX dJ0_indexOf_7cf53_14 ml_J0_505 cd_J0_length_8abf5 iv_J0_length_8abf5 (c_J0_length_8abf5 hi) (by decide) (by assumption) rfl rfl rfl (Nat.le_of_ble_eq_true rfl) (RR.pc (b := 17) rfl ?_)
  refine r_callSie hX dJ0_indexOf_7cf53_17 ml_J0_637 cd_J1_indexOf_4cfef st_J1_indexOf_4cfef (c_J1_indexOf_4cfef hi hc) (by decide) rfl rfl (Nat.le_of_ble_eq_true rfl) (RR.pc (b := 20) rfl ?_)
  refine r_goto (tgt := 36) hX dJ0_indexOf_7cf53_20 rfl ?_
  exact r_iret hX hZ dJ0_indexOf_7cf53_36 ⟨_, rfl, ⟨rfl, rfl⟩⟩
set_option maxHeartbeats 4000000 in
set_option maxRecDepth 100000 in
theorem c_J0_indexOf_0f7a4 {G : GM} {σ : SG} {i c : Nat} (hi : i < 14) (hc : c < 256) : CI G yJ0_indexOf_0f7a4 cJ0_indexOf_0f7a4 2 (some .int) 6 [sf G i, .int (nI c)] σ (fun r s => r = ixF (nI c) (kByt.getD i []) 0 ∧ s = σ) := by
  refine Con.of cd_J0_indexOf_0f7a4 (Nat.le_of_ble_eq_true rfl) ?_
  intro X hX hZ
  have hX : Fx X G RJ0 cJ0_indexOf_0f7a4 2 6 := hX
  show RR X G 2 0 (ll [(0, sf G i), (1, .int (nI c))]) [] σ
  refine r_aload_n hX dJ0_indexOf_0f7a4_0 rfl ⟨_, rfl⟩ (RR.pc (b := 1) rfl ?_)
  refine r_iload_n (i := 0) hX dJ0_indexOf_0f7a4_1 rfl (RR.pc (b := 2) rfl ?_)
  refine r_iconst (v := 0) hX dJ0_indexOf_0f7a4_2 (by decide) (RR.pc (b := 3) rfl ?_)
  refine r_callVKie hX dJ0_indexOf_0f7a4_3 ml_J0_633 cd_J0_indexOf_7cf53 iv_J0_indexOf_7cf53 (c_J0_indexOf_7cf53 hi hc) (by decide) (by assumption) rfl rfl rfl (Nat.le_of_ble_eq_true rfl) (RR.pc (b := 6) rfl ?_)
  exact r_iret hX hZ dJ0_indexOf_0f7a4_6 ⟨_, rfl, ⟨rfl, rfl⟩⟩
