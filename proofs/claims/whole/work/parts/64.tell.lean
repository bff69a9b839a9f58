theorem sm_told (x : Int32) : Sm RR (f_X7_told x) (f_X8_told x) := by
  intro σ τ ⟨N, hS, hA, hP, h26, h27⟩
  obtain ⟨⟨s0, s1, s2, s3, s4, s5, s6⟩, hDo, hDe, hLe, hEv, hTi, hDa, hPc⟩ := id hS
  obtain ⟨qt, qr, qc, qd, qw, ql, qo, qg⟩ := id hA
  have hR : RR σ τ := ⟨N, hS, hA, hP, h26, h27⟩
  obtain ⟨⟨t, ht, a0, b0⟩, a1, a2, sk, hsk, a4, b4⟩ := id qt
  obtain ⟨k, hk, a5, b5, -⟩ := id qr
  obtain ⟨q, -, -, a3, b3⟩ := id hPc
  obtain ⟨np, -, a6, b6, -⟩ := id hP
  have a0 : σ 24 0 = nI t := a0
  have a1 : σ 24 1 = τ 1 1 := a1
  have a2 : σ 24 2 = τ 1 2 := a2
  have a4 : σ 24 4 = nI sk := a4
  have a5 : σ 24 5 = nI k := a5
  unfold f_X7_told f_X8_told
  by_cases g0 : x = 0
  · refine ⟨σ 24 0, σ, τ, ?_, ?_, hR⟩
    · rw [if_pos g0]
    · rw [if_pos g0, zg_t (by decide)]
      exact congrArg some (congrArg (fun r => (r, τ)) (a0.trans b0.symm).symm)
  by_cases g1 : x = 1
  · refine ⟨σ 24 1, σ, τ, ?_, ?_, hR⟩
    · rw [if_neg g0, if_pos g1]
    · rw [if_neg g0, if_pos g1, zg_t (by decide)]
      exact congrArg some (congrArg (fun r => (r, τ)) (a1).symm)
  by_cases g2 : x = 2
  · refine ⟨σ 24 2, σ, τ, ?_, ?_, hR⟩
    · rw [if_neg g0, if_neg g1, if_pos g2]
    · rw [if_neg g0, if_neg g1, if_pos g2, zg_t (by decide)]
      exact congrArg some (congrArg (fun r => (r, τ)) (a2).symm)
  by_cases g3 : x = 3
  · refine ⟨σ 24 3, σ, τ, ?_, ?_, hR⟩
    · rw [if_neg g0, if_neg g1, if_neg g2, if_pos g3]
    · rw [if_neg g0, if_neg g1, if_neg g2, if_pos g3]
      exact congrArg some (congrArg (fun r => (r, τ)) (a3.trans b3.symm).symm)
  by_cases g4 : x = 4
  · refine ⟨σ 24 4, σ, τ, ?_, ?_, hR⟩
    · rw [if_neg g0, if_neg g1, if_neg g2, if_neg g3, if_pos g4]
    · rw [if_neg g0, if_neg g1, if_neg g2, if_neg g3, if_pos g4, zg_t (by decide)]
      exact congrArg some (congrArg (fun r => (r, τ)) (a4.trans b4.symm).symm)
  by_cases g5 : x = 5
  · refine ⟨σ 34 0, σ, τ, ?_, ?_, hR⟩
    · rw [if_neg g0, if_neg g1, if_neg g2, if_neg g3, if_neg g4, if_pos g5]
    · rw [if_neg g0, if_neg g1, if_neg g2, if_neg g3, if_neg g4, if_pos g5]
      exact congrArg some (congrArg (fun r => (r, τ)) (a6.trans b6.symm).symm)
  by_cases g6 : x = 6
  · refine ⟨σ 24 5, σ, τ, ?_, ?_, hR⟩
    · rw [if_neg g0, if_neg g1, if_neg g2, if_neg g3, if_neg g4, if_neg g5, if_pos g6]
    · rw [if_neg g0, if_neg g1, if_neg g2, if_neg g3, if_neg g4, if_neg g5, if_pos g6, zg_t (by decide)]
      exact congrArg some (congrArg (fun r => (r, τ)) (a5.trans b5.symm).symm)
  exact ⟨-3, σ, τ, by rw [if_neg g0, if_neg g1, if_neg g2, if_neg g3, if_neg g4, if_neg g5, if_neg g6], by rw [if_neg g0, if_neg g1, if_neg g2, if_neg g3, if_neg g4, if_neg g5, if_neg g6], hR⟩
theorem sm_count (x : Int32) : Sm RR (f_X7_count x) (f_X8_count x) := by
  intro σ τ ⟨N, hS, hA, hP, h26, h27⟩
  obtain ⟨⟨s0, s1, s2, s3, s4, s5, s6⟩, hDo, hDe, hLe, hEv, hTi, hDa, hPc⟩ := id hS
  obtain ⟨qt, qr, qc, qd, qw, ql, qo, qg⟩ := id hA
  have hR : RR σ τ := ⟨N, hS, hA, hP, h26, h27⟩
  unfold f_X7_count f_X8_count
  by_cases g0 : x = 0
  · refine ⟨σ 1 0, σ, τ, ?_, ?_, hR⟩
    · rw [if_pos g0]
    · rw [if_pos g0]
      exact congrArg some (congrArg (fun r => (r, τ)) (s0.2.1.trans s0.2.2.symm).symm)
  by_cases g1 : x = 1
  · refine ⟨σ 1 1, σ, τ, ?_, ?_, hR⟩
    · rw [if_neg g0, if_pos g1]
    · rw [if_neg g0, if_pos g1]
      exact congrArg some (congrArg (fun r => (r, τ)) (s1.2.1.trans s1.2.2.symm).symm)
  by_cases g2 : x = 2
  · refine ⟨σ 1 2, σ, τ, ?_, ?_, hR⟩
    · rw [if_neg g0, if_neg g1, if_pos g2]
    · rw [if_neg g0, if_neg g1, if_pos g2]
      exact congrArg some (congrArg (fun r => (r, τ)) (s2.2.1.trans s2.2.2.symm).symm)
  by_cases g3 : x = 3
  · refine ⟨σ 5 0, σ, τ, ?_, ?_, hR⟩
    · rw [if_neg g0, if_neg g1, if_neg g2, if_pos g3]
    · rw [if_neg g0, if_neg g1, if_neg g2, if_pos g3]
      exact congrArg some (congrArg (fun r => (r, τ)) (s3.2.1.trans s3.2.2.symm).symm)
  by_cases g4 : x = 4
  · refine ⟨σ 11 0, σ, τ, ?_, ?_, hR⟩
    · rw [if_neg g0, if_neg g1, if_neg g2, if_neg g3, if_pos g4]
    · rw [if_neg g0, if_neg g1, if_neg g2, if_neg g3, if_pos g4]
      exact congrArg some (congrArg (fun r => (r, τ)) (s4.2.1.trans s4.2.2.symm).symm)
  by_cases g5 : x = 5
  · refine ⟨σ 17 0, σ, τ, ?_, ?_, hR⟩
    · rw [if_neg g0, if_neg g1, if_neg g2, if_neg g3, if_neg g4, if_pos g5]
    · rw [if_neg g0, if_neg g1, if_neg g2, if_neg g3, if_neg g4, if_pos g5]
      exact congrArg some (congrArg (fun r => (r, τ)) (s5.2.1.trans s5.2.2.symm).symm)
  by_cases g6 : x = 6
  · refine ⟨σ 21 0, σ, τ, ?_, ?_, hR⟩
    · rw [if_neg g0, if_neg g1, if_neg g2, if_neg g3, if_neg g4, if_neg g5, if_pos g6]
    · rw [if_neg g0, if_neg g1, if_neg g2, if_neg g3, if_neg g4, if_neg g5, if_pos g6]
      exact congrArg some (congrArg (fun r => (r, τ)) (s6.2.1.trans s6.2.2.symm).symm)
  exact ⟨-3, σ, τ, by rw [if_neg g0, if_neg g1, if_neg g2, if_neg g3, if_neg g4, if_neg g5, if_neg g6], by rw [if_neg g0, if_neg g1, if_neg g2, if_neg g3, if_neg g4, if_neg g5, if_neg g6], hR⟩
theorem sm_counter (x : Int32) : Sm RR (f_X7_counter x) (f_X8_counter x) := by
  intro σ τ ⟨N, hS, hA, hP, h26, h27⟩
  obtain ⟨⟨s0, s1, s2, s3, s4, s5, s6⟩, hDo, hDe, hLe, hEv, hTi, hDa, hPc⟩ := id hS
  obtain ⟨qt, qr, qc, qd, qw, ql, qo, qg⟩ := id hA
  have hR : RR σ τ := ⟨N, hS, hA, hP, h26, h27⟩
  unfold f_X7_counter f_X8_counter
  rcases (p_ctr x σ τ).symm with ⟨e1, e2⟩ | ⟨c, hc, rfl, e1, e2⟩
  · exact ⟨-3, σ, τ, by rw [e1, zb_some, if_pos rfl], by rw [e2, zb_some, if_pos rfl], hR⟩
  have h1 : σ 27 c = τ 1 (4 + c) := (qc c hc).1
  refine ⟨σ 27 c, σ, τ, ?_, ?_, hR⟩
  · rw [e1, zb_some, if_neg n10, zg_n hc (by decide), ix_n (by omega)]
  · rw [e2, zb_some, if_neg n10, zgM (b := 4) 4 rfl (by omega) (by decide), ixM (b := 4) 4 rfl (by omega), h1]
theorem sm_left (x : Int32) : Sm RR (f_X7_left x) (f_X8_left x) := by
  intro σ τ ⟨N, hS, hA, hP, h26, h27⟩
  obtain ⟨⟨s0, s1, s2, s3, s4, s5, s6⟩, hDo, hDe, hLe, hEv, hTi, hDa, hPc⟩ := id hS
  obtain ⟨qt, qr, qc, qd, qw, ql, qo, qg⟩ := id hA
  have hR : RR σ τ := ⟨N, hS, hA, hP, h26, h27⟩
  unfold f_X7_left f_X8_left
  rw [s5.2.1, s5.2.2]
  rcases (p_there x (N 5) (by omega) σ τ).symm with ⟨e1, e2⟩ | ⟨t, ht, rfl, e1, e2⟩
  · exact ⟨-2, σ, τ, by rw [e1, zb_some, if_pos rfl], by rw [e2, zb_some, if_pos rfl], hR⟩
  have h12 : t < 12 := by have := s5.1; omega
  obtain ⟨k, hk, h1, h2⟩ := (ql t h12).1 ht
  have h1 : σ 31 t = nI k := h1
  refine ⟨nI k, σ, τ, ?_, ?_, hR⟩
  · rw [e1, zb_some, if_neg n10, zg_n h12 (by decide), ix_n (by omega), h1]
  · rw [e2, zb_some, if_neg n10, zgM (b := 47) 47 rfl (by omega) (by decide), ixM (b := 47) 47 rfl (by omega), h2]
theorem p_asN {x : Int32} (h : x = 0 ∨ x = 1) (σ : zS) : f_X7_asNumber x σ = some (x, σ) := by
  rcases h with rfl | rfl <;> rfl
theorem sm_is (x y : Int32) : Sm RR (f_X7_is x y) (f_X8_is x y) := by
  intro σ τ ⟨N, hS, hA, hP, h26, h27⟩
  obtain ⟨⟨s0, s1, s2, s3, s4, s5, s6⟩, hDo, hDe, hLe, hEv, hTi, hDa, hPc⟩ := id hS
  obtain ⟨qt, qr, qc, qd, qw, ql, qo, qg⟩ := id hA
  have hR : RR σ τ := ⟨N, hS, hA, hP, h26, h27⟩
  unfold f_X7_is f_X8_is
  by_cases g0 : x = 0
  · subst g0
    have e0 : f_X8_in 0 0 2 τ = some (1, τ) := rfl
    rw [if_pos rfl, e0, zb_some, if_neg n10, if_pos rfl, s6.2.1, s6.2.2]
    unfold j_X8_is_J40
    rcases (p_there y (N 6) (by omega) σ τ).symm with ⟨e1, e2⟩ | ⟨d, hd, rfl, e1, e2⟩
    · exact ⟨-2, σ, τ, by rw [e1, zb_some, if_pos rfl], by rw [e2, zb_some, if_pos rfl], hR⟩
    have h12 : d < 12 := by have := s6.1; omega
    obtain ⟨h1, h2⟩ := (qo d h12).1 hd
    have h1 : σ 32 d = τ 1 (59 + d) := h1
    have h2 : σ 32 d = 0 ∨ σ 32 d = 1 := h2
    refine ⟨σ 32 d, σ, τ, ?_, ?_, hR⟩
    · rw [e1, zb_some, if_neg n10, zg_n h12 (by decide), ix_n (by omega), p_asN h2, zb_some]
    · rw [e2, zb_some, if_neg n10, if_pos rfl, zgM (b := 59) 59 rfl (by omega) (by decide), ixM (b := 59) 59 rfl (by omega), h1]
  rw [if_neg g0]
  by_cases g1 : x = 1
  · subst g1
    have e0 : f_X8_in 1 0 2 τ = some (1, τ) := rfl
    rw [if_pos rfl, e0, zb_some, if_neg n10, if_neg n10, if_pos rfl, s1.2.1, s1.2.2]
    unfold j_X8_is_J40
    rcases (p_there y (N 1) (by omega) σ τ).symm with ⟨e1, e2⟩ | ⟨d, hd, rfl, e1, e2⟩
    · exact ⟨-2, σ, τ, by rw [e1, zb_some, if_pos rfl], by rw [e2, zb_some, if_pos rfl], hR⟩
    have h15 : d < 15 := by have := s1.1; omega
    have e3 : zg (z_in (12 + nI d) 192) (some (τ 1 (12 + nI d).toNatClampNeg, τ)) = some (τ 1 (12 + d), τ) := by
      rw [zgM (b := 12) 12 rfl (by omega) (by decide), ixM (b := 12) 12 rfl (by omega)]
    rcases (qd d h15).1 hd with ⟨h1, h2⟩ | ⟨h1, h2⟩
    · have h1 : σ 28 d = 0 := h1
      refine ⟨1, σ, τ, ?_, ?_, hR⟩
      · rw [e1, zb_some, if_neg n10, zg_n h15 (by decide), ix_n (by omega), if_pos h1]
        rfl
      · rw [e2, zb_some, if_neg n10, if_neg n10, if_pos rfl, e3, h2]
    · have h1 : σ 28 d = 1 := h1
      refine ⟨0, σ, τ, ?_, ?_, hR⟩
      · rw [e1, zb_some, if_neg n10, zg_n h15 (by decide), ix_n (by omega), if_neg (by rw [h1]; decide)]
        rfl
      · rw [e2, zb_some, if_neg n10, if_neg n10, if_pos rfl, e3, h2]
  rw [if_neg g1]
  by_cases g2 : x = 2
  · subst g2
    have e0 : f_X8_in 2 0 2 τ = some (1, τ) := rfl
    have n20 : ¬ (2 : Int32) = 0 := by decide
    have n21 : ¬ (2 : Int32) = 1 := by decide
    rw [if_pos rfl, e0, zb_some, if_neg n10, if_neg n20, if_neg n21, s4.2.1, s4.2.2]
    unfold j_X8_is_J40
    rcases (p_there y (N 4) (by omega) σ τ).symm with ⟨e1, e2⟩ | ⟨d, hd, rfl, e1, e2⟩
    · exact ⟨-2, σ, τ, by rw [e1, zb_some, if_pos rfl], by rw [e2, zb_some, if_pos rfl], hR⟩
    have h12 : d < 12 := by have := s4.1; omega
    have e3 : zg (z_in (35 + nI d) 192) (some (1 - τ 1 (35 + nI d).toNatClampNeg, τ)) = some (1 - τ 1 (35 + d), τ) := by
      rw [zgM (b := 35) 35 rfl (by omega) (by decide), ixM (b := 35) 35 rfl (by omega)]
    obtain ⟨h1, h2⟩ := (qg d h12).1 hd
    have h1 : σ 33 d = τ 1 (35 + d) := h1
    have h2 : σ 33 d = 0 ∨ σ 33 d = 1 := h2
    rcases h2 with h2 | h2
    · refine ⟨1, σ, τ, ?_, ?_, hR⟩
      · rw [e1, zb_some, if_neg n10, zg_n h12 (by decide), ix_n (by omega), if_pos h2]
        rfl
      · rw [e2, zb_some, if_neg n10, if_neg n20, if_neg n21, e3, ← h1, h2]
        rfl
    · refine ⟨0, σ, τ, ?_, ?_, hR⟩
      · rw [e1, zb_some, if_neg n10, zg_n h12 (by decide), ix_n (by omega), if_neg (by rw [h2]; decide)]
        rfl
      · rw [e2, zb_some, if_neg n10, if_neg n20, if_neg n21, e3, ← h1, h2]
        rfl
  rw [if_neg g2]
  refine ⟨-3, σ, τ, rfl, ?_, hR⟩
  rcases p_within x 0 2 σ τ with ⟨-, -, h1, h2⟩ | ⟨-, e2, -⟩
  · exfalso
    obtain ⟨m, hm, rfl⟩ := n_range (n := 2) (by decide) h1 h2
    have h3 : m = 0 ∨ m = 1 ∨ m = 2 := by omega
    rcases h3 with rfl | rfl | rfl
    · exact g0 rfl
    · exact g1 rfl
    · exact g2 rfl
  · rw [e2, zb_some, if_pos rfl]
theorem sm_walks (x y : Int32) : Sm RR (f_X7_walks x y) (f_X8_walks x y) := by
  intro σ τ ⟨N, hS, hA, hP, h26, h27⟩
  obtain ⟨⟨s0, s1, s2, s3, s4, s5, s6⟩, hDo, hDe, hLe, hEv, hTi, hDa, hPc⟩ := id hS
  obtain ⟨qt, qr, qc, qd, qw, ql, qo, qg⟩ := id hA
  have hR : RR σ τ := ⟨N, hS, hA, hP, h26, h27⟩
  unfold f_X7_walks f_X8_walks
  rw [s2.2.1, s2.2.2]
  rcases (p_there x (N 2) (by omega) σ τ).symm with ⟨e1, e2⟩ | ⟨w, hw, rfl, e1, e2⟩
  · exact ⟨-2, σ, τ, by rw [e1, zb_some, if_pos rfl], by rw [e2, zb_some, if_pos rfl], hR⟩
  have h4 : w < 4 := by have := s2.1; omega
  obtain ⟨⟨a, ha, h1, h2⟩, h3, -⟩ := qw w hw
  have h1 : σ 29 w = nI a := h1
  have h3 : σ 30 w = τ 1 (31 + w) := h3
  rw [e1, e2, zb_some, zb_some, if_neg n10, if_neg n10]
  by_cases g0 : y = 0
  · rw [if_pos g0, if_pos g0, zg_n h4 (by decide), ix_n (by omega), zgM (b := 27) 27 rfl (by omega) (by decide), ixM (b := 27) 27 rfl (by omega)]
    exact ⟨nI a, σ, τ, by rw [h1], by rw [h2], hR⟩
  rw [if_neg g0, if_neg g0]
  by_cases g1 : y = 1
  · rw [if_pos g1, if_pos g1, zg_n h4 (by decide), ix_n (by omega), zgM (b := 31) 31 rfl (by omega) (by decide), ixM (b := 31) 31 rfl (by omega)]
    exact ⟨σ 30 w, σ, τ, rfl, by rw [h3], hR⟩
  rw [if_neg g1, if_neg g1]
  exact ⟨-3, σ, τ, rfl, rfl, hR⟩
theorem sm_row (x y : Int32) : Sm RR (f_X7_row x y) (f_X8_row x y) := by
  intro σ τ ⟨N, hS, hA, hP, h26, h27⟩
  obtain ⟨⟨s0, s1, s2, s3, s4, s5, s6⟩, hDo, hDe, hLe, hEv, hTi, hDa, hPc⟩ := id hS
  obtain ⟨qt, qr, qc, qd, qw, ql, qo, qg⟩ := id hA
  have hR : RR σ τ := ⟨N, hS, hA, hP, h26, h27⟩
  unfold f_X7_row f_X8_row
  obtain ⟨k, hk, a5, b5, h5⟩ := id qr
  have a5 : σ 24 5 = nI k := a5
  rcases (p_within y 0 1 σ τ).symm with ⟨e3, e4, -⟩ | ⟨e3, e4, h1, h2⟩
  · exact ⟨-3, σ, τ, by rw [e3, zb_some, if_pos rfl], by rw [e4, zb_some, if_pos rfl], hR⟩
  obtain ⟨m, hm, rfl⟩ := n_range (n := 1) (by decide) h1 h2
  have e71 : ((71 : Int32).toNatClampNeg) = 71 := by decide
  rw [e3, e4, zb_some, zb_some, if_neg n10, if_neg n10, zg_t (by decide), e71, a5, b5]
  rcases (p_there x k (by omega) σ τ).symm with ⟨e1, e2⟩ | ⟨i, hi, rfl, e1, e2⟩
  · exact ⟨-1, σ, τ, by rw [e1, zb_some, if_pos rfl], by rw [e2, zb_some, if_pos rfl], hR⟩
  rw [e1, e2, zb_some, zb_some, if_neg n10, if_neg n10]
  have h40 : i < 40 := by omega
  have e2i : (72 + 2 * nI i + nI m : Int32) = nI (72 + 2 * i + m) := by
    rw [show (2 * nI i : Int32) = nI (2 * i) from pk_mul 2 i, show (72 + nI (2 * i) : Int32) = nI (72 + 2 * i) from nI_add 72 (2 * i), nI_add]
  obtain ⟨h6, h7⟩ := h5 i hi
  have h6 : σ 25 i = τ 1 (72 + 2 * i) := h6
  have h7 : σ 26 i = τ 1 (73 + 2 * i) := h7
  have hm2 : m = 0 ∨ m = 1 := by omega
  rcases hm2 with rfl | rfl
  · refine ⟨σ 25 i, σ, τ, ?_, ?_, hR⟩
    · rw [if_pos (show nI 0 = 0 from rfl), zg_n h40 (by decide), ix_n (by omega)]
    · rw [zg_t (by rw [e2i]; exact zin_n (by omega) (by decide)), e2i, ix_n (by omega), h6, Nat.add_zero]
  · refine ⟨σ 26 i, σ, τ, ?_, ?_, hR⟩
    · rw [if_neg (by decide), zg_n h40 (by decide), ix_n (by omega)]
    · rw [zg_t (by rw [e2i]; exact zin_n (by omega) (by decide)), e2i, ix_n (by omega), h7, show 72 + 2 * i + 1 = 73 + 2 * i by omega]
/-- minutes until: from t to m within a day -/
theorem n_dif {a b c : Nat} (ha : a ≤ 100000) (hb : b ≤ 100000) (h : b ≤ a + c) : nI a - nI b + nI c = nI (a + c - b) := by
  have e : nI a - nI b + nI c = nI a + nI c - nI b := by
    rw [Int32.sub_eq_add_neg, Int32.sub_eq_add_neg, Int32.add_assoc, Int32.add_comm (-nI b), ← Int32.add_assoc]
  rw [e, nI_add, pk_sub h]
theorem n_le0 {a b : Nat} (ha : a ≤ 100000) (hb : b ≤ 100000) : nI a - nI b ≤ 0 ↔ a ≤ b := by
  rw [Int32.le_iff_toInt_le, pk_sub_toInt (by omega) (by omega)]
  have : (0 : Int32).toInt = 0 := by decide
  omega
def p_wait (m t : Nat) : Nat := if m ≤ t then m + 1440 - t else m - t
theorem p_until {m t : Nat} {σ : zS} (hm : m < 1440) (ht : t < 1440) (h : σ 24 0 = nI t) : f_X7_minutesUntil (nI m) σ = some (nI (p_wait m t), σ) := by
  unfold f_X7_minutesUntil p_wait
  rw [h]
  by_cases hc : m ≤ t
  · rw [if_pos ((n_le0 (by omega) (by omega)).mpr hc), if_pos hc, show nI m - nI t + 1440 = nI (m + 1440 - t) from n_dif (c := 1440) (by omega) (by omega) (by omega)]
  · rw [if_neg (fun e => hc ((n_le0 (by omega) (by omega)).mp e)), if_neg hc, pk_sub (by omega)]
theorem sm_minutes (x : Int32) : Sm RR (f_X7_minutes x) (f_X8_minutes x) := by
  intro σ τ ⟨N, hS, hA, hP, h26, h27⟩
  obtain ⟨⟨s0, s1, s2, s3, s4, s5, s6⟩, hDo, hDe, hLe, hEv, hTi, hDa, hPc⟩ := id hS
  obtain ⟨qt, qr, qc, qd, qw, ql, qo, qg⟩ := id hA
  have hR : RR σ τ := ⟨N, hS, hA, hP, h26, h27⟩
  unfold f_X7_minutes f_X8_minutes
  rw [s4.2.1, s4.2.2]
  rcases (p_there x (N 4) (by omega) σ τ).symm with ⟨e1, e2⟩ | ⟨e, he, rfl, e1, e2⟩
  · exact ⟨-2, σ, τ, by rw [e1, zb_some, if_pos rfl], by rw [e2, zb_some, if_pos rfl], hR⟩
  have h12 : e < 12 := by have := s4.1; omega
  obtain ⟨⟨d, m, -, hm, -, -, hm1, hm2⟩, -⟩ := hEv e he
  obtain ⟨⟨t, ht, a0, b0⟩, -⟩ := id qt
  have a0 : σ 24 0 = nI t := a0
  obtain ⟨h1, h2⟩ := (qg e h12).1 he
  have h1 : σ 33 e = τ 1 (35 + e) := h1
  have h2 : σ 33 e = 0 ∨ σ 33 e = 1 := h2
  have e00 : ((0 : Int32).toNatClampNeg) = 0 := by decide
  have hz0 : z_in (0 : Int32) 192 := by decide
  simp only [e1, e2, zb_some, if_neg n10, zg_n h12 (show 12 ≤ 100000 by decide), ix_n (show e ≤ 100000 by omega), zg_t hz0, zgM (b := 35) 35 rfl (show 35 + e < 192 by omega) (show 192 ≤ 100000 by decide), ixM (b := 35) 35 rfl (show 35 + e ≤ 100000 by omega), e00, b0, hm2]
  rw [← h1]
  rcases h2 with h2 | h2
  · rw [if_pos h2, hm1, p_until hm ht a0, zb_some, if_neg (by rw [h2]; decide)]
    have e3 : nI m - nI t + 1440 = nI (m + 1440 - t) := n_dif (c := 1440) (by omega) (by omega) (by omega)
    have e4 : nI (m + 1440 - t) - nI (m + 1440 - t) / 1440 * 1440 = nI ((m + 1440 - t) % 1440) := pk_rem (d := 1440) (by omega) (by decide) (by decide)
    rw [e3, e4]
    refine ⟨nI (p_wait m t), σ, τ, rfl, ?_, hR⟩
    unfold p_wait
    by_cases hc : m ≤ t
    · rw [if_pos hc]
      by_cases hmt : m = t
      · subst hmt
        rw [show m + 1440 - m = 1440 by omega, if_pos (show nI (1440 % 1440) = 0 from rfl)]
        rfl
      · rw [Nat.mod_eq_of_lt (by omega), if_neg (nI_ne0 (by omega) (by omega))]
    · rw [if_neg hc, show m + 1440 - t = 1440 + (m - t) by omega, Nat.add_mod_left, Nat.mod_eq_of_lt (by omega), if_neg (nI_ne0 (by omega) (by omega))]
  · rw [if_neg (by rw [h2]; decide), if_pos h2]
    exact ⟨-1, σ, τ, rfl, rfl, hR⟩
