/-! calls that only look -/
theorem p_told {G : GM} {σ : SG} {k what : Int32} (hR : Rel σ) : Pair G yX7_told cX7_told 4 4 yX8_told cX8_told 3 3 [.int k, .int what] σ := by
  obtain ⟨⟨Ts, nt, ⟨n, m, hC, hRT, hW, hA, hG, hm⟩, hI⟩, hSh, hSl, hTp, hWt⟩ := id hR
  have h8 := hW.2.1
  have hN20 : σ 20 0 = nI n := by rw [← hA 0 (by omega)]; exact hW.1
  have hW20 : WO (σ 20) n m := hW.ag hA
  have hV : VO (lkV Ts nt) := lkV_VO
  have k : ∀ {r : Int32} {s : SG}, (r = toldF (lkV Ts nt) (σ 0) n k what ∧ same [4] σ s) → s 20 = σ 20 ∧ s 24 = σ 24 ∧ shR s = shR σ := fun h => ⟨h.2 20 (by decide), h.2 24 (by decide), by unfold shR; rw [h.2 23 (by decide), h.2 24 (by decide), h.2 25 (by decide)]⟩
  refine Pair.mk (c_X7_told hW hC) (fun r s hp => c_X8_told (Ts := Ts) (nt := nt) (n := n) (by rw [(k hp).1]; exact hN20) h8 (by rw [(k hp).1]; exact hRT)) ?_
  rintro r s r' s' ⟨rfl, h1⟩ ⟨rfl, h2⟩
  exact ⟨by rw [(k ⟨rfl, h1⟩).1]; exact (toldF_ag hA h8).symm, hR.look (h1.mono (by simp)) (h2.mono (by simp))⟩
theorem p_as {G : GM} {σ : SG} {k kind : Int32} (hR : Rel σ) : Pair G yX7_as cX7_as 4 3 yX8_as cX8_as 3 2 [.int k, .int kind] σ := by
  obtain ⟨⟨Ts, nt, ⟨n, m, hC, hRT, hW, hA, hG, hm⟩, hI⟩, hSh, hSl, hTp, hWt⟩ := id hR
  have h8 := hW.2.1
  have hN20 : σ 20 0 = nI n := by rw [← hA 0 (by omega)]; exact hW.1
  have hW20 : WO (σ 20) n m := hW.ag hA
  have hV : VO (lkV Ts nt) := lkV_VO
  refine Pair.mk (P := fun r s => r = asF (σ 0) n k kind ∧ s = σ) (Q := fun r s r' s' => r' = asF (σ 20) n k kind ∧ s' = σ) (c_X7_as hW) (fun r s hp => ?_) ?_
  · obtain ⟨-, rfl⟩ := hp
    exact c_X8_as hN20 h8
  · rintro r s r' s' ⟨rfl, rfl⟩ ⟨rfl, rfl⟩
    exact ⟨(asF_ag hA h8).symm, hR⟩
theorem p_yard {G : GM} {σ : SG} {y what : Int32} (hR : Rel σ) : Pair G yX7_yard cX7_yard 3 2 yX8_yard cX8_yard 3 2 [.int y, .int what] σ := by
  obtain ⟨⟨Ts, nt, ⟨n, m, hC, hRT, hW, hA, hG, hm⟩, hI⟩, hSh, hSl, hTp, hWt⟩ := id hR
  have h8 := hW.2.1
  have hN20 : σ 20 0 = nI n := by rw [← hA 0 (by omega)]; exact hW.1
  have hW20 : WO (σ 20) n m := hW.ag hA
  have hV : VO (lkV Ts nt) := lkV_VO
  refine Pair.mk (P := fun r s => r = yardF (σ 0) y what ∧ s = σ) (Q := fun r s r' s' => r' = yardF (σ 20) y what ∧ s' = σ) (c_X7_yard) (fun r s hp => ?_) ?_
  · obtain ⟨-, rfl⟩ := hp
    exact c_X8_yard
  · rintro r s r' s' ⟨rfl, rfl⟩ ⟨rfl, rfl⟩
    exact ⟨(yardF_ag hA (by omega)).symm, hR⟩
theorem p_way {G : GM} {σ : SG} {what : Int32} (hR : Rel σ) : Pair G yX7_way cX7_way 2 2 yX8_way cX8_way 2 2 [.int what] σ := by
  obtain ⟨⟨Ts, nt, ⟨n, m, hC, hRT, hW, hA, hG, hm⟩, hI⟩, hSh, hSl, hTp, hWt⟩ := id hR
  have h8 := hW.2.1
  have hN20 : σ 20 0 = nI n := by rw [← hA 0 (by omega)]; exact hW.1
  have hW20 : WO (σ 20) n m := hW.ag hA
  have hV : VO (lkV Ts nt) := lkV_VO
  refine Pair.mk (P := fun r s => r = wayF (σ 0) n what ∧ s = σ) (Q := fun r s r' s' => r' = wayF (σ 20) n what ∧ s' = σ) (c_X7_way hW.1 h8) (fun r s hp => ?_) ?_
  · obtain ⟨-, rfl⟩ := hp
    exact c_X8_way hN20 h8
  · rintro r s r' s' ⟨rfl, rfl⟩ ⟨rfl, rfl⟩
    exact ⟨(wayF_ag hA).symm, hR⟩
theorem p_behind {G : GM} {σ : SG} {q what : Int32} (hR : Rel σ) : Pair G yX7_behind cX7_behind 3 6 yX8_behind cX8_behind 4 6 [.int q, .int what] σ := by
  obtain ⟨⟨Ts, nt, ⟨n, m, hC, hRT, hW, hA, hG, hm⟩, hI⟩, hSh, hSl, hTp, hWt⟩ := id hR
  have h8 := hW.2.1
  have hN20 : σ 20 0 = nI n := by rw [← hA 0 (by omega)]; exact hW.1
  have hW20 : WO (σ 20) n m := hW.ag hA
  have hV : VO (lkV Ts nt) := lkV_VO
  have k : ∀ {r : Int32} {s : SG}, (r = behF (lkV Ts nt) n (σ 0) q what ∧ same [2, 4] σ s) → s 20 = σ 20 ∧ s 24 = σ 24 ∧ shR s = shR σ := fun h => ⟨h.2 20 (by decide), h.2 24 (by decide), by unfold shR; rw [h.2 23 (by decide), h.2 24 (by decide), h.2 25 (by decide)]⟩
  refine Pair.mk (c_X7_behind hC hW hm) (fun r s hp => c_X8_behind (Ts := Ts) (nt := nt) (n := n) (m := m) (by rw [(k hp).1]; exact hRT) (by rw [(k hp).1]; exact hW20) hm) ?_
  rintro r s r' s' ⟨rfl, h1⟩ ⟨rfl, h2⟩
  exact ⟨by rw [(k ⟨rfl, h1⟩).1]; exact (behF_ag hA hV hW).symm, hR.look (h1.mono (by simp)) (h2.mono (by simp))⟩
theorem p_empty {G : GM} {σ : SG} (hR : Rel σ) : Pair G yX7_empty cX7_empty 2 6 yX8_empty cX8_empty 3 5 [] σ := by
  obtain ⟨⟨Ts, nt, ⟨n, m, hC, hRT, hW, hA, hG, hm⟩, hI⟩, hSh, hSl, hTp, hWt⟩ := id hR
  have h8 := hW.2.1
  have hN20 : σ 20 0 = nI n := by rw [← hA 0 (by omega)]; exact hW.1
  have hW20 : WO (σ 20) n m := hW.ag hA
  have hV : VO (lkV Ts nt) := lkV_VO
  have k : ∀ {r : Int32} {s : SG}, (r = empN (lkV Ts nt) n (σ 0) 301 ∧ same [2, 4] σ s) → s 20 = σ 20 ∧ s 24 = σ 24 ∧ shR s = shR σ := fun h => ⟨h.2 20 (by decide), h.2 24 (by decide), by unfold shR; rw [h.2 23 (by decide), h.2 24 (by decide), h.2 25 (by decide)]⟩
  refine Pair.mk (c_X7_empty hC hW hm) (fun r s hp => c_X8_empty (Ts := Ts) (nt := nt) (n := n) (m := m) (by rw [(k hp).1]; exact hRT) (by rw [(k hp).1]; exact hW20) hm) ?_
  rintro r s r' s' ⟨rfl, h1⟩ ⟨rfl, h2⟩
  exact ⟨by rw [(k ⟨rfl, h1⟩).1]; exact (empN_ag hA hV hW 301).symm, hR.look (h1.mono (by simp)) (h2.mono (by simp))⟩
theorem p_thickest {G : GM} {σ : SG} {q what : Int32} (hR : Rel σ) : Pair G yX7_thickest cX7_thickest 4 6 yX8_thickest cX8_thickest 5 6 [.int q, .int what] σ := by
  obtain ⟨⟨Ts, nt, ⟨n, m, hC, hRT, hW, hA, hG, hm⟩, hI⟩, hSh, hSl, hTp, hWt⟩ := id hR
  have h8 := hW.2.1
  have hN20 : σ 20 0 = nI n := by rw [← hA 0 (by omega)]; exact hW.1
  have hW20 : WO (σ 20) n m := hW.ag hA
  have hV : VO (lkV Ts nt) := lkV_VO
  have k : ∀ {r : Int32} {s : SG}, (r = thiF (lkV Ts nt) n (σ 0) q what ∧ same [2, 4] σ s) → s 20 = σ 20 ∧ s 24 = σ 24 ∧ shR s = shR σ := fun h => ⟨h.2 20 (by decide), h.2 24 (by decide), by unfold shR; rw [h.2 23 (by decide), h.2 24 (by decide), h.2 25 (by decide)]⟩
  refine Pair.mk (c_X7_thickest hC hW hm) (fun r s hp => c_X8_thickest (Ts := Ts) (nt := nt) (n := n) (m := m) (by rw [(k hp).1]; exact hRT) (by rw [(k hp).1]; exact hW20) hm) ?_
  rintro r s r' s' ⟨rfl, h1⟩ ⟨rfl, h2⟩
  exact ⟨by rw [(k ⟨rfl, h1⟩).1]; exact (thiF_ag hA hV hW).symm, hR.look (h1.mono (by simp)) (h2.mono (by simp))⟩
theorem p_patch {G : GM} {σ : SG} {q what : Int32} (hR : Rel σ) : Pair G yX7_patch cX7_patch 7 7 yX8_patch cX8_patch 7 6 [.int q, .int what] σ := by
  obtain ⟨⟨Ts, nt, ⟨n, m, hC, hRT, hW, hA, hG, hm⟩, hI⟩, hSh, hSl, hTp, hWt⟩ := id hR
  have h8 := hW.2.1
  have hN20 : σ 20 0 = nI n := by rw [← hA 0 (by omega)]; exact hW.1
  have hW20 : WO (σ 20) n m := hW.ag hA
  have hV : VO (lkV Ts nt) := lkV_VO
  have k : ∀ {r : Int32} {s : SG}, (r = patF (lkV Ts nt) n (σ 0) q what ∧ same [2, 4] σ s) → s 20 = σ 20 ∧ s 24 = σ 24 ∧ shR s = shR σ := fun h => ⟨h.2 20 (by decide), h.2 24 (by decide), by unfold shR; rw [h.2 23 (by decide), h.2 24 (by decide), h.2 25 (by decide)]⟩
  refine Pair.mk (c_X7_patch hC hW hm) (fun r s hp => c_X8_patch (Ts := Ts) (nt := nt) (n := n) (m := m) (by rw [(k hp).1]; exact hRT) (by rw [(k hp).1]; exact hW20) hm) ?_
  rintro r s r' s' ⟨rfl, h1⟩ ⟨rfl, h2⟩
  exact ⟨by rw [(k ⟨rfl, h1⟩).1]; exact (patF_ag hA hV hW).symm, hR.look (h1.mono (by simp)) (h2.mono (by simp))⟩
theorem p_pan {G : GM} {σ : SG} {p q : Int32} (hR : Rel σ) : Pair G yX7_pan cX7_pan 5 6 yX8_pan cX8_pan 5 5 [.int p, .int q] σ := by
  obtain ⟨⟨Ts, nt, ⟨n, m, hC, hRT, hW, hA, hG, hm⟩, hI⟩, hSh, hSl, hTp, hWt⟩ := id hR
  have h8 := hW.2.1
  have hN20 : σ 20 0 = nI n := by rw [← hA 0 (by omega)]; exact hW.1
  have hW20 : WO (σ 20) n m := hW.ag hA
  have hV : VO (lkV Ts nt) := lkV_VO
  have k : ∀ {r : Int32} {s : SG}, (r = panF (lkV Ts nt) n (σ 0) p q ∧ same [2, 4] σ s) → s 20 = σ 20 ∧ s 24 = σ 24 ∧ shR s = shR σ := fun h => ⟨h.2 20 (by decide), h.2 24 (by decide), by unfold shR; rw [h.2 23 (by decide), h.2 24 (by decide), h.2 25 (by decide)]⟩
  refine Pair.mk (c_X7_pan hC hW hm) (fun r s hp => c_X8_pan (Ts := Ts) (nt := nt) (n := n) (m := m) (by rw [(k hp).1]; exact hRT) (by rw [(k hp).1]; exact hW20) hm) ?_
  rintro r s r' s' ⟨rfl, h1⟩ ⟨rfl, h2⟩
  exact ⟨by rw [(k ⟨rfl, h1⟩).1]; exact (panF_ag hA hV hW).symm, hR.look (h1.mono (by simp)) (h2.mono (by simp))⟩
theorem p_whose {G : GM} {σ : SG} {sheet q what : Int32} (hR : Rel σ) : Pair G yX7_whose cX7_whose 9 7 yX8_whose cX8_whose 10 6 [.int sheet, .int q, .int what] σ := by
  obtain ⟨⟨Ts, nt, ⟨n, m, hC, hRT, hW, hA, hG, hm⟩, hI⟩, hSh, hSl, hTp, hWt⟩ := id hR
  have h8 := hW.2.1
  have hN20 : σ 20 0 = nI n := by rw [← hA 0 (by omega)]; exact hW.1
  have hW20 : WO (σ 20) n m := hW.ag hA
  have hV : VO (lkV Ts nt) := lkV_VO
  have k : ∀ {r : Int32} {s : SG}, (r = whosF (lkV Ts nt) n (σ 0) (shC σ) sheet q what ∧ same [2, 4] σ s) → s 20 = σ 20 ∧ s 24 = σ 24 ∧ shR s = shR σ := fun h => ⟨h.2 20 (by decide), h.2 24 (by decide), by unfold shR; rw [h.2 23 (by decide), h.2 24 (by decide), h.2 25 (by decide)]⟩
  refine Pair.mk (c_X7_whose hC hW hm hG hSh.2.1 hSh.2.2) (fun r s hp => c_X8_whose (Ts := Ts) (nt := nt) (n := n) (m := m) (by rw [(k hp).1]; exact hRT) (by rw [(k hp).1]; exact hW20) hm (by rw [(k hp).2.1]; exact shz hSh)) ?_
  rintro r s r' s' ⟨rfl, h1⟩ ⟨rfl, h2⟩
  exact ⟨by rw [(k ⟨rfl, h1⟩).1, (k ⟨rfl, h1⟩).2.2]; exact (whosF_ag hA hV hW hSh.1 hSh.2.1).symm, hR.look (h1.mono (by simp)) (h2.mono (by simp))⟩
theorem p_fee {G : GM} {σ : SG} (hR : Rel σ) : Pair G yX7_fee cX7_fee 1 3 yX8_fee cX8_fee 2 2 [] σ := by
  obtain ⟨⟨Ts, nt, ⟨n, m, hC, hRT, hW, hA, hG, hm⟩, hI⟩, hSh, hSl, hTp, hWt⟩ := id hR
  have h8 := hW.2.1
  have hN20 : σ 20 0 = nI n := by rw [← hA 0 (by omega)]; exact hW.1
  have hW20 : WO (σ 20) n m := hW.ag hA
  have hV : VO (lkV Ts nt) := lkV_VO
  have k : ∀ {r : Int32} {s : SG}, (r = feeF Ts nt (σ 0) ∧ same [4] σ s) → s 20 = σ 20 ∧ s 24 = σ 24 ∧ shR s = shR σ := fun h => ⟨h.2 20 (by decide), h.2 24 (by decide), by unfold shR; rw [h.2 23 (by decide), h.2 24 (by decide), h.2 25 (by decide)]⟩
  refine Pair.mk (c_X7_fee hC) (fun r s hp => c_X8_fee (Ts := Ts) (nt := nt) (by rw [(k hp).1]; exact hRT)) ?_
  rintro r s r' s' ⟨rfl, h1⟩ ⟨rfl, h2⟩
  exact ⟨by rw [(k ⟨rfl, h1⟩).1]; exact (feeF_ag hA (by omega)).symm, hR.look (h1.mono (by simp)) (h2.mono (by simp))⟩
theorem p_fine {G : GM} {σ : SG} {k : Int32} (hR : Rel σ) : Pair G yX7_fine cX7_fine 3 3 yX8_fine cX8_fine 3 2 [.int k] σ := by
  obtain ⟨⟨Ts, nt, ⟨n, m, hC, hRT, hW, hA, hG, hm⟩, hI⟩, hSh, hSl, hTp, hWt⟩ := id hR
  have h8 := hW.2.1
  have hN20 : σ 20 0 = nI n := by rw [← hA 0 (by omega)]; exact hW.1
  have hW20 : WO (σ 20) n m := hW.ag hA
  have hV : VO (lkV Ts nt) := lkV_VO
  have k : ∀ {r : Int32} {s : SG}, (r = finF Ts nt n (σ 0) k ∧ same [4] σ s) → s 20 = σ 20 ∧ s 24 = σ 24 ∧ shR s = shR σ := fun h => ⟨h.2 20 (by decide), h.2 24 (by decide), by unfold shR; rw [h.2 23 (by decide), h.2 24 (by decide), h.2 25 (by decide)]⟩
  refine Pair.mk (c_X7_fine hC hW.1 h8) (fun r s hp => c_X8_fine (Ts := Ts) (nt := nt) (n := n) (by rw [(k hp).1]; exact hN20) h8 (by rw [(k hp).1]; exact hRT)) ?_
  rintro r s r' s' ⟨rfl, h1⟩ ⟨rfl, h2⟩
  exact ⟨by rw [(k ⟨rfl, h1⟩).1]; exact (finF_ag hA h8).symm, hR.look (h1.mono (by simp)) (h2.mono (by simp))⟩
theorem p_textTold {G : GM} {σ : SG} {t what : Int32} (hR : Rel σ) : Pair G yX7_textTold cX7_textTold 3 1 yX8_textTold cX8_textTold 3 2 [.int t, .int what] σ := by
  obtain ⟨⟨Ts, nt, ⟨n, m, hC, hRT, hW, hA, hG, hm⟩, hI⟩, hSh, hSl, hTp, hWt⟩ := id hR
  have h8 := hW.2.1
  have hN20 : σ 20 0 = nI n := by rw [← hA 0 (by omega)]; exact hW.1
  have hW20 : WO (σ 20) n m := hW.ag hA
  have hV : VO (lkV Ts nt) := lkV_VO
  refine Pair.mk (P := fun r s => r = ttF Ts nt t what ∧ s = σ) (Q := fun r s r' s' => r' = ttF Ts nt t what ∧ s' = σ) (c_X7_textTold hC) (fun r s hp => ?_) ?_
  · obtain ⟨-, rfl⟩ := hp
    exact c_X8_textTold hRT
  · rintro r s r' s' ⟨rfl, rfl⟩ ⟨rfl, rfl⟩
    exact ⟨rfl, hR⟩
theorem p_why {G : GM} {σ : SG} {k : Int32} (hR : Rel σ) : Pair G yX7_why cX7_why 2 1 yX8_why cX8_why 2 2 [.int k] σ := by
  obtain ⟨⟨Ts, nt, ⟨n, m, hC, hRT, hW, hA, hG, hm⟩, hI⟩, hSh, hSl, hTp, hWt⟩ := id hR
  have h8 := hW.2.1
  have hN20 : σ 20 0 = nI n := by rw [← hA 0 (by omega)]; exact hW.1
  have hW20 : WO (σ 20) n m := hW.ag hA
  have hV : VO (lkV Ts nt) := lkV_VO
  refine Pair.mk (P := fun r s => r = whyF Ts nt k ∧ s = σ) (Q := fun r s r' s' => r' = whyF Ts nt k ∧ s' = σ) (c_X7_why hC) (fun r s hp => ?_) ?_
  · obtain ⟨-, rfl⟩ := hp
    exact c_X8_why hRT
  · rintro r s r' s' ⟨rfl, rfl⟩ ⟨rfl, rfl⟩
    exact ⟨rfl, hR⟩
theorem p_reads {G : GM} {σ : SG} {sheet : Int32} (hR : Rel σ) : Pair G yX7_reads cX7_reads 4 3 yX8_reads cX8_reads 4 2 [.int sheet] σ := by
  obtain ⟨⟨Ts, nt, ⟨n, m, hC, hRT, hW, hA, hG, hm⟩, hI⟩, hSh, hSl, hTp, hWt⟩ := id hR
  have h8 := hW.2.1
  have hN20 : σ 20 0 = nI n := by rw [← hA 0 (by omega)]; exact hW.1
  have hW20 : WO (σ 20) n m := hW.ag hA
  have hV : VO (lkV Ts nt) := lkV_VO
  refine Pair.mk (P := fun r s => r = readF (shC σ) (σ 0) sheet ∧ s = σ) (Q := fun r s r' s' => r' = readF (shR σ) (σ 20) sheet ∧ s' = σ) (c_X7_reads hSh.2.1) (fun r s hp => ?_) ?_
  · obtain ⟨-, rfl⟩ := hp
    exact c_X8_reads (shz hSh)
  · rintro r s r' s' ⟨rfl, rfl⟩ ⟨rfl, rfl⟩
    exact ⟨(readF_ag hSh.1 hSh.2.1 hA (by omega)).symm, hR⟩
theorem p_count {G : GM} {σ : SG} {what : Int32} (hR : Rel σ) : Pair G yX7_count cX7_count 2 0 yX8_count cX8_count 2 0 [.int what] σ := by
  obtain ⟨⟨Ts, nt, ⟨n, m, hC, hRT, hW, hA, hG, hm⟩, hI⟩, hSh, hSl, hTp, hWt⟩ := id hR
  have h8 := hW.2.1
  have hN20 : σ 20 0 = nI n := by rw [← hA 0 (by omega)]; exact hW.1
  have hW20 : WO (σ 20) n m := hW.ag hA
  have hV : VO (lkV Ts nt) := lkV_VO
  obtain ⟨L, hL, t5, t38, -⟩ := hTp
  obtain ⟨k, hk, w9, w38, -⟩ := hWt
  refine Pair.mk (P := fun r s => r = countF (σ 0) (σ 9 61) (σ 5 96) what ∧ s = σ) (Q := fun r s r' s' => r' = countF (σ 20) (σ 38 12) (σ 38 1) what ∧ s' = σ) c_X7_count (fun r s hp => ?_) ?_
  · obtain ⟨-, rfl⟩ := hp
    exact c_X8_count
  · rintro r s r' s' ⟨rfl, rfl⟩ ⟨rfl, rfl⟩
    refine ⟨?_, hR⟩
    rw [w9, w38, t5, t38]
    exact (countF_ag hA (by omega)).symm
theorem p_ask {G : GM} {σ : SG} {slot kind : Int32} (hR : Rel σ) : Pair G yX7_ask cX7_ask 4 3 yX8_ask cX8_ask 3 2 [.int slot, .int kind] σ := by
  obtain ⟨⟨Ts, nt, ⟨n, m, hC, hRT, hW, hA, hG, hm⟩, hI⟩, hSh, hSl, hTp, hWt⟩ := id hR
  have h8 := hW.2.1
  have hN20 : σ 20 0 = nI n := by rw [← hA 0 (by omega)]; exact hW.1
  have hW20 : WO (σ 20) n m := hW.ag hA
  have hV : VO (lkV Ts nt) := lkV_VO
  refine Pair.mk (c_X7_ask (fun i hi => (hSl i hi).2.2.2.2.1)) (fun r s hp => c_X8_ask) ?_
  rintro r s r' s' ⟨e1, a1, a2, a3⟩ ⟨e2, b1, b2, b3⟩
  subst s'
  subst s
  refine ⟨?_, hR⟩
  cases hi : ix slot 5 with
  | none => rw [a1 hi, b1 hi]
  | some i =>
    have hi5 := (ix_lt hi (by omega)).1
    obtain ⟨s1, s2, s3, s4, s5, s6, s7⟩ := hSl i hi5
    by_cases hk : 0 ≤ kind.toInt ∧ kind.toInt ≤ 5
    · rw [a3 i hi hk, b3 i hi hk, s1]
      by_cases c0 : σ 8 (64 * i) = 0
      · rw [if_pos c0, if_pos c0]
      · rw [if_neg c0, if_neg c0]
        by_cases c1 : σ 8 (64 * i) = 1
        · rw [(s2 c1).1, (s2 c1).2]
        · rw [if_neg (fun z => c1 z.1), if_neg (fun z => c1 z.1)]
    · rw [a2 hk, b2 hk]
theorem p_item {G : GM} {σ : SG} {slot place : Int32} (hR : Rel σ) : Pair G yX7_item cX7_item 4 3 yX8_item cX8_item 4 2 [.int slot, .int place] σ := by
  obtain ⟨⟨Ts, nt, ⟨n, m, hC, hRT, hW, hA, hG, hm⟩, hI⟩, hSh, hSl, hTp, hWt⟩ := id hR
  have h8 := hW.2.1
  have hN20 : σ 20 0 = nI n := by rw [← hA 0 (by omega)]; exact hW.1
  have hW20 : WO (σ 20) n m := hW.ag hA
  have hV : VO (lkV Ts nt) := lkV_VO
  refine Pair.mk (c_X7_item (fun i hi => (hSl i hi).2.2.2.2.2.1)) (fun r s hp => c_X8_item (by rw [hp.1]; exact fun i hi => (hSl i hi).2.2.2.2.2.2)) ?_
  rintro r s r' s' ⟨e1, a1, a2⟩ ⟨e2, b1, b2⟩
  subst s'
  subst s
  refine ⟨?_, hR⟩
  cases hi : ix slot 5 with
  | none => rw [a1 hi, b1 hi]
  | some i =>
    have hi5 := (ix_lt hi (by omega)).1
    obtain ⟨s1, s2, s3, s4, s5, ⟨z, hz, ez⟩, s7⟩ := hSl i hi5
    rw [a2 i hi, b2 i hi, s1]
    by_cases c2 : σ 8 (64 * i) = 2
    · rw [if_pos c2, if_pos c2, (s3 c2).1, ez, nI_clamp (by omega)]
      cases hp : ix place z with
      | none => rfl
      | some p =>
        have hp2 := (ix_lt hp (by omega)).1
        dsimp only
        rw [(s3 c2).2 p (by omega)]
    · rw [if_neg c2, if_neg c2]
theorem p_rest {G : GM} {σ : SG} {slot n : Int32} (hR : Rel σ) : Pair G yX7_rest cX7_rest 4 2 yX8_rest cX8_rest 3 2 [.int slot, .int n] σ := by
  obtain ⟨⟨Ts, nt, ⟨n, m, hC, hRT, hW, hA, hG, hm⟩, hI⟩, hSh, hSl, hTp, hWt⟩ := id hR
  have h8 := hW.2.1
  have hN20 : σ 20 0 = nI n := by rw [← hA 0 (by omega)]; exact hW.1
  have hW20 : WO (σ 20) n m := hW.ag hA
  have hV : VO (lkV Ts nt) := lkV_VO
  refine Pair.mk (c_X7_rest) (fun r s hp => c_X8_rest) ?_
  rintro r s r' s' ⟨e1, a1, a2⟩ ⟨e2, b1, b2⟩
  subst s'
  subst s
  refine ⟨?_, hR⟩
  cases hi : ix slot 5 with
  | none => rw [a1 hi, b1 hi]
  | some i =>
    have hi5 := (ix_lt hi (by omega)).1
    obtain ⟨s1, s2, s3, s4, s5, s6, s7⟩ := hSl i hi5
    rw [a2 i hi, b2 i hi, s1]
    by_cases c3 : σ 8 (64 * i) = 3
    · rw [if_pos c3, if_pos c3, s4 c3]
    · rw [if_neg c3, if_neg c3]
