theorem sm_event (x y c : Int32) (hc : c = 0 ∨ c = 1) : Sm RR (f_X7_event x y c) (f_X8_event x y c) := by
  intro σ τ ⟨N, hS, hA, hP, h26, h27⟩
  obtain ⟨⟨s0, s1, s2, s3, s4, s5, s6⟩, hDo, hDe, hLe, hEv, hTi, hDa, hPc⟩ := id hS
  obtain ⟨qt, qr, qc, qd, qw, ql, qo, qg⟩ := id hA
  have hR : RR σ τ := ⟨N, hS, hA, hP, h26, h27⟩
  unfold f_X7_event f_X8_event
  rw [s3.2.1, s3.2.2]
  rcases (p_there x (N 3) (by omega) σ τ).symm with ⟨e1, e2⟩ | ⟨d, hd, rfl, e1, e2⟩
  · exact ⟨-2, σ, τ, by rw [e1, zb_some, if_pos rfl], by rw [e2, zb_some, if_pos rfl], hR⟩
  rw [e1, e2, zb_some, zb_some, if_neg n10, if_neg n10]
  rcases (p_within y 0 1439 σ τ).symm with ⟨e3, e4, -⟩ | ⟨e3, e4, h1, h2⟩
  · exact ⟨-3, σ, τ, by rw [e3, zb_some, if_pos rfl], by rw [e4, zb_some, if_pos rfl], hR⟩
  have h1' : ¬ y < 0 := by
    rw [Int32.lt_iff_toInt_lt] at h1 ⊢
    have z0 : (0 : Int32).toInt = 0 := by decide
    have z1 : (0 : Int32).toInt = 0 := by decide
    omega
  obtain ⟨m, hm, rfl⟩ := n_range (n := 1439) (by decide) h1' h2
  have hm1 : 0 ≤ m := by
    rw [Int32.lt_iff_toInt_lt, nI_toInt (by omega)] at h1
    have z1 : (0 : Int32).toInt = 0 := by decide
    omega
  rw [e3, e4, zb_some, zb_some, if_neg n10, if_neg n10, s4.2.2]
  by_cases h : N 4 = 12
  · refine ⟨-5, σ, τ, ?_, ?_, hR⟩
    · unfold f_X2_addEvent
      rw [s4.2.1, if_neg (by rw [h]; decide), zb_some, p_close5, zb_some]
    · rw [if_pos (by rw [h]; rfl)]
  · have hlt : N 4 < 12 := by have := s4.1; omega
    have hix : (nI (N 4)).toNatClampNeg = N 4 := ix_n (by omega)
    refine ⟨nI (N 4), zs (zs (zs (zs (zs σ 12 (N 4) (nI d)) 13 (N 4) (nI m)) 14 (N 4) c) 11 0 (nI (N 4 + 1))) 34 0 0, zs (zs (zs (zs (zs (zs τ 10 (N 4) (nI d)) 11 (N 4) (nI m)) 12 (N 4) c) 1 (35 + N 4) 0) 0 15 (nI (N 4 + 1))) 0 2 0, ?_, ?_, fun k => if k = 4 then N 4 + 1 else N k, ⟨⟨s0, s1, s2, s3, ⟨by show N 4 + 1 ≤ 12; omega, rfl, rfl⟩, s5, s6⟩, hDo, hDe, hLe, ?_, hTi, hDa, hPc⟩, ⟨?_, ?_, ?_, ?_, ?_, ?_, ?_, ?_⟩, pPa_0 hP rfl rfl rfl, h26, h27⟩
    · simp +decide only [f_X2_addEvent, s4.2.1, if_pos (show nI (N 4) < 12 from nI_lt hlt (by decide)), zg_n hlt (by decide), hix, nar01 hc, zl_eq, zb_some, zs_at, zs_ne, up_at, ne_eq, Nat.reduceEqDiff, not_false_eq_true, if_false, if_true, nI_1, nI_pred, p_close (k := N 4) (by omega)]
    · simp +decide only [s4.2.2, if_neg (show ¬ nI (N 4) = 12 from fun e => h (n_eqI (b := 12) (by omega) (by omega) e)), zg_n hlt (by decide), hix, zgM (b := 35) 35 rfl (show 35 + N 4 < 192 by omega) (by decide), ixM (b := 35) 35 rfl (show 35 + N 4 ≤ 100000 by omega), nar01 hc, zl_eq, zb_some, zs_at, zs_ne, up_at, ne_eq, Nat.reduceEqDiff, not_false_eq_true, if_false, if_true, nI_1, nI_pred, p_changed]

    · intro e he
      have he : e < N 4 + 1 := he
      show (∃ d' m', d' < N 3 ∧ m' < 1440 ∧ upd (σ 12) (N 4) (nI d) e = nI d' ∧ upd (τ 10) (N 4) (nI d) e = nI d' ∧ upd (σ 13) (N 4) (nI m) e = nI m' ∧ upd (τ 11) (N 4) (nI m) e = nI m') ∧ upd (σ 14) (N 4) c e = upd (τ 12) (N 4) c e ∧ (upd (σ 14) (N 4) c e = 0 ∨ upd (σ 14) (N 4) c e = 1)
      by_cases hee : e = N 4
      · subst hee
        simp only [up_at]
        exact ⟨⟨d, m, hd, by omega, rfl, rfl, rfl, rfl⟩, trivial, hc⟩
      · simp only [up_ne hee]
        exact hEv e (by omega)
    · exact qT_g qt (fun j hj => up_ne (by omega))
    · exact qR_g qr (fun j hj => up_ne (by omega))
    · exact qC_g qc (fun j hj hj2 => up_ne (by omega))
    · exact qD_g (N := N) qd (fun j hj hj2 => up_ne (by omega))
    · exact qW_g (N := N) s2.1 qw (fun j hj hj2 => up_ne (by omega))
    · exact qL_g (N := N) ql (fun j hj hj2 => up_ne (by omega))
    · exact qO_g (N := N) qo (fun j hj hj2 => up_ne (by omega))
    · intro e he
      show (e < N 4 + 1 → σ 33 e = upd (τ 1) (35 + N 4) 0 (35 + e) ∧ (σ 33 e = 0 ∨ σ 33 e = 1)) ∧ (N 4 + 1 ≤ e → σ 33 e = 0)
      by_cases hee : e = N 4
      · subst hee
        have h0 : σ 33 (N 4) = 0 := (qg _ he).2 (Nat.le_refl _)
        exact ⟨fun _ => ⟨by rw [up_at]; exact h0, Or.inl h0⟩, fun h => absurd h (by omega)⟩
      · rw [up_ne (by omega)]
        exact ⟨fun h1 => (qg e he).1 (by omega), fun h1 => (qg e he).2 (by omega)⟩
theorem sm_timer (x y c : Int32) (hc : c = 0 ∨ c = 1) : Sm RR (f_X7_timer x y c) (f_X8_timer x y c) := by
  intro σ τ ⟨N, hS, hA, hP, h26, h27⟩
  obtain ⟨⟨s0, s1, s2, s3, s4, s5, s6⟩, hDo, hDe, hLe, hEv, hTi, hDa, hPc⟩ := id hS
  obtain ⟨qt, qr, qc, qd, qw, ql, qo, qg⟩ := id hA
  have hR : RR σ τ := ⟨N, hS, hA, hP, h26, h27⟩
  unfold f_X7_timer f_X8_timer
  rw [s3.2.1, s3.2.2]
  rcases (p_there x (N 3) (by omega) σ τ).symm with ⟨e1, e2⟩ | ⟨d, hd, rfl, e1, e2⟩
  · exact ⟨-2, σ, τ, by rw [e1, zb_some, if_pos rfl], by rw [e2, zb_some, if_pos rfl], hR⟩
  rw [e1, e2, zb_some, zb_some, if_neg n10, if_neg n10]
  rcases (p_within y 1 50 σ τ).symm with ⟨e3, e4, -⟩ | ⟨e3, e4, h1, h2⟩
  · exact ⟨-3, σ, τ, by rw [e3, zb_some, if_pos rfl], by rw [e4, zb_some, if_pos rfl], hR⟩
  have h1' : ¬ y < 0 := by
    rw [Int32.lt_iff_toInt_lt] at h1 ⊢
    have z0 : (0 : Int32).toInt = 0 := by decide
    have z1 : (1 : Int32).toInt = 1 := by decide
    omega
  obtain ⟨m, hm, rfl⟩ := n_range (n := 50) (by decide) h1' h2
  have hm1 : 1 ≤ m := by
    rw [Int32.lt_iff_toInt_lt, nI_toInt (by omega)] at h1
    have z1 : (1 : Int32).toInt = 1 := by decide
    omega
  rw [e3, e4, zb_some, zb_some, if_neg n10, if_neg n10, s5.2.2]
  by_cases h : N 5 = 12
  · refine ⟨-5, σ, τ, ?_, ?_, hR⟩
    · unfold f_X6_addTimer
      rw [s5.2.1, if_neg (by rw [h]; decide), zb_some, p_close5, zb_some]
    · rw [if_pos (by rw [h]; rfl)]
  · have hlt : N 5 < 12 := by have := s5.1; omega
    have hix : (nI (N 5)).toNatClampNeg = N 5 := ix_n (by omega)
    refine ⟨nI (N 5), zs (zs (zs (zs (zs σ 18 (N 5) (nI d)) 19 (N 5) (nI m)) 20 (N 5) c) 17 0 (nI (N 5 + 1))) 34 0 0, zs (zs (zs (zs (zs (zs τ 13 (N 5) (nI d)) 14 (N 5) (nI m)) 15 (N 5) c) 1 (47 + N 5) 0) 0 19 (nI (N 5 + 1))) 0 2 0, ?_, ?_, fun k => if k = 5 then N 5 + 1 else N k, ⟨⟨s0, s1, s2, s3, s4, ⟨by show N 5 + 1 ≤ 12; omega, rfl, rfl⟩, s6⟩, hDo, hDe, hLe, hEv, ?_, hDa, hPc⟩, ⟨?_, ?_, ?_, ?_, ?_, ?_, ?_, ?_⟩, pPa_0 hP rfl rfl rfl, h26, h27⟩
    · simp +decide only [f_X6_addTimer, s5.2.1, if_pos (show nI (N 5) < 12 from nI_lt hlt (by decide)), zg_n hlt (by decide), hix, nar01 hc, zl_eq, zb_some, zs_at, zs_ne, up_at, ne_eq, Nat.reduceEqDiff, not_false_eq_true, if_false, if_true, nI_1, nI_pred, p_close (k := N 5) (by omega)]
    · simp +decide only [s5.2.2, if_neg (show ¬ nI (N 5) = 12 from fun e => h (n_eqI (b := 12) (by omega) (by omega) e)), zg_n hlt (by decide), hix, zgM (b := 47) 47 rfl (show 47 + N 5 < 192 by omega) (by decide), ixM (b := 47) 47 rfl (show 47 + N 5 ≤ 100000 by omega), nar01 hc, zl_eq, zb_some, zs_at, zs_ne, up_at, ne_eq, Nat.reduceEqDiff, not_false_eq_true, if_false, if_true, nI_1, nI_pred, p_changed]

    · intro e he
      have he : e < N 5 + 1 := he
      show (∃ d' m', d' < N 3 ∧ 1 ≤ m' ∧ m' ≤ 50 ∧ upd (σ 18) (N 5) (nI d) e = nI d' ∧ upd (τ 13) (N 5) (nI d) e = nI d' ∧ upd (σ 19) (N 5) (nI m) e = nI m' ∧ upd (τ 14) (N 5) (nI m) e = nI m') ∧ upd (σ 20) (N 5) c e = upd (τ 15) (N 5) c e ∧ (upd (σ 20) (N 5) c e = 0 ∨ upd (σ 20) (N 5) c e = 1)
      by_cases hee : e = N 5
      · subst hee
        simp only [up_at]
        exact ⟨⟨d, m, hd, hm1, by omega, rfl, rfl, rfl, rfl⟩, trivial, hc⟩
      · simp only [up_ne hee]
        exact hTi e (by omega)
    · exact qT_g qt (fun j hj => up_ne (by omega))
    · exact qR_g qr (fun j hj => up_ne (by omega))
    · exact qC_g qc (fun j hj hj2 => up_ne (by omega))
    · exact qD_g (N := N) qd (fun j hj hj2 => up_ne (by omega))
    · exact qW_g (N := N) s2.1 qw (fun j hj hj2 => up_ne (by omega))
    · intro e he
      show (e < N 5 + 1 → ∃ k, k ≤ 50 ∧ σ 31 e = nI k ∧ upd (τ 1) (47 + N 5) 0 (47 + e) = nI k) ∧ (N 5 + 1 ≤ e → σ 31 e = 0)
      by_cases hee : e = N 5
      · subst hee
        have h0 : σ 31 (N 5) = 0 := (ql _ he).2 (Nat.le_refl _)
        exact ⟨fun _ => ⟨0, by omega, h0, by rw [up_at]; rfl⟩, fun h => absurd h (by omega)⟩
      · rw [up_ne (by omega)]
        exact ⟨fun h1 => (ql e he).1 (by omega), fun h1 => (ql e he).2 (by omega)⟩
    · exact qO_g (N := N) qo (fun j hj hj2 => up_ne (by omega))
    · exact qG_g (N := N) qg (fun j hj hj2 => up_ne (by omega))
theorem sm_daemon (x y : Int32) : Sm RR (f_X7_daemon x y) (f_X8_daemon x y) := by
  intro σ τ ⟨N, hS, hA, hP, h26, h27⟩
  obtain ⟨⟨s0, s1, s2, s3, s4, s5, s6⟩, hDo, hDe, hLe, hEv, hTi, hDa, hPc⟩ := id hS
  obtain ⟨qt, qr, qc, qd, qw, ql, qo, qg⟩ := id hA
  have hR : RR σ τ := ⟨N, hS, hA, hP, h26, h27⟩
  unfold f_X7_daemon f_X8_daemon
  rw [s3.2.1, s3.2.2]
  rcases (p_there x (N 3) (by omega) σ τ).symm with ⟨e1, e2⟩ | ⟨d, hd, rfl, e1, e2⟩
  · exact ⟨-2, σ, τ, by rw [e1, zb_some, if_pos rfl], by rw [e2, zb_some, if_pos rfl], hR⟩
  rw [e1, e2, zb_some, zb_some, if_neg n10, if_neg n10]
  rcases (p_within y 0 9 σ τ).symm with ⟨e3, e4, -⟩ | ⟨e3, e4, h1, h2⟩
  · exact ⟨-3, σ, τ, by rw [e3, zb_some, if_pos rfl], by rw [e4, zb_some, if_pos rfl], hR⟩
  have h1' : ¬ y < 0 := by
    rw [Int32.lt_iff_toInt_lt] at h1 ⊢
    have z0 : (0 : Int32).toInt = 0 := by decide
    have z1 : (0 : Int32).toInt = 0 := by decide
    omega
  obtain ⟨m, hm, rfl⟩ := n_range (n := 9) (by decide) h1' h2
  have hm1 : 0 ≤ m := by
    rw [Int32.lt_iff_toInt_lt, nI_toInt (by omega)] at h1
    have z1 : (0 : Int32).toInt = 0 := by decide
    omega
  rw [e3, e4, zb_some, zb_some, if_neg n10, if_neg n10, s6.2.2]
  by_cases h : N 6 = 12
  · refine ⟨-5, σ, τ, ?_, ?_, hR⟩
    · unfold f_X0_addDaemon
      rw [s6.2.1, if_neg (by rw [h]; decide), zb_some, p_close5, zb_some]
    · rw [if_pos (by rw [h]; rfl)]
  · have hlt : N 6 < 12 := by have := s6.1; omega
    have hix : (nI (N 6)).toNatClampNeg = N 6 := ix_n (by omega)
    refine ⟨nI (N 6), zs (zs (zs (zs σ 22 (N 6) (nI d)) 23 (N 6) (nI m)) 21 0 (nI (N 6 + 1))) 34 0 0, zs (zs (zs (zs (zs τ 16 (N 6) (nI d)) 17 (N 6) (nI m)) 1 (59 + N 6) 0) 0 23 (nI (N 6 + 1))) 0 2 0, ?_, ?_, fun k => if k = 6 then N 6 + 1 else N k, ⟨⟨s0, s1, s2, s3, s4, s5, ⟨by show N 6 + 1 ≤ 12; omega, rfl, rfl⟩⟩, hDo, hDe, hLe, hEv, hTi, ?_, hPc⟩, ⟨?_, ?_, ?_, ?_, ?_, ?_, ?_, ?_⟩, pPa_0 hP rfl rfl rfl, h26, h27⟩
    · simp +decide only [f_X0_addDaemon, s6.2.1, if_pos (show nI (N 6) < 12 from nI_lt hlt (by decide)), zg_n hlt (by decide), hix, zl_eq, zb_some, zs_at, zs_ne, up_at, ne_eq, Nat.reduceEqDiff, not_false_eq_true, if_false, if_true, nI_1, nI_pred, p_close (k := N 6) (by omega)]
    · simp +decide only [s6.2.2, if_neg (show ¬ nI (N 6) = 12 from fun e => h (n_eqI (b := 12) (by omega) (by omega) e)), zg_n hlt (by decide), hix, zgM (b := 59) 59 rfl (show 59 + N 6 < 192 by omega) (by decide), ixM (b := 59) 59 rfl (show 59 + N 6 ≤ 100000 by omega), zl_eq, zb_some, zs_at, zs_ne, up_at, ne_eq, Nat.reduceEqDiff, not_false_eq_true, if_false, if_true, nI_1, nI_pred, p_changed]

    · intro e he
      have he : e < N 6 + 1 := he
      show ∃ d' m', d' < N 3 ∧ m' ≤ 9 ∧ upd (σ 22) (N 6) (nI d) e = nI d' ∧ upd (τ 16) (N 6) (nI d) e = nI d' ∧ upd (σ 23) (N 6) (nI m) e = nI m' ∧ upd (τ 17) (N 6) (nI m) e = nI m'
      by_cases hee : e = N 6
      · subst hee
        simp only [up_at]
        exact ⟨d, m, hd, by omega, rfl, rfl, rfl, rfl⟩
      · simp only [up_ne hee]
        exact hDa e (by omega)
    · exact qT_g qt (fun j hj => up_ne (by omega))
    · exact qR_g qr (fun j hj => up_ne (by omega))
    · exact qC_g qc (fun j hj hj2 => up_ne (by omega))
    · exact qD_g (N := N) qd (fun j hj hj2 => up_ne (by omega))
    · exact qW_g (N := N) s2.1 qw (fun j hj hj2 => up_ne (by omega))
    · exact qL_g (N := N) ql (fun j hj hj2 => up_ne (by omega))
    · intro e he
      show (e < N 6 + 1 → σ 32 e = upd (τ 1) (59 + N 6) 0 (59 + e) ∧ (σ 32 e = 0 ∨ σ 32 e = 1)) ∧ (N 6 + 1 ≤ e → σ 32 e = 0)
      by_cases hee : e = N 6
      · subst hee
        have h0 : σ 32 (N 6) = 0 := (qo _ he).2 (Nat.le_refl _)
        exact ⟨fun _ => ⟨by rw [up_at]; exact h0, Or.inl h0⟩, fun h => absurd h (by omega)⟩
      · rw [up_ne (by omega)]
        exact ⟨fun h1 => (qo e he).1 (by omega), fun h1 => (qo e he).2 (by omega)⟩
    · exact qG_g (N := N) qg (fun j hj hj2 => up_ne (by omega))
theorem sm_pace (x : Int32) : Sm RR (f_X7_pace x) (f_X8_pace x) := by
  intro σ τ ⟨N, hS, hA, hP, h26, h27⟩
  obtain ⟨⟨s0, s1, s2, s3, s4, s5, s6⟩, hDo, hDe, hLe, hEv, hTi, hDa, hPc⟩ := id hS
  obtain ⟨qt, qr, qc, qd, qw, ql, qo, qg⟩ := id hA
  have hR : RR σ τ := ⟨N, hS, hA, hP, h26, h27⟩
  unfold f_X7_pace f_X8_pace
  rcases (p_within x 1 60 σ τ).symm with ⟨e3, e4, -⟩ | ⟨e3, e4, h1, h2⟩
  · exact ⟨-3, σ, τ, by rw [e3, zb_some, if_pos rfl], by rw [e4, zb_some, if_pos rfl], hR⟩
  have h1' : ¬ x < 0 := by
    rw [Int32.lt_iff_toInt_lt] at h1 ⊢
    have z0 : (0 : Int32).toInt = 0 := by decide
    have z1 : (1 : Int32).toInt = 1 := by decide
    omega
  obtain ⟨m, hm, rfl⟩ := n_range (n := 60) (by decide) h1' h2
  have hm1 : 1 ≤ m := by
    rw [Int32.lt_iff_toInt_lt, nI_toInt (by omega)] at h1
    have z1 : (1 : Int32).toInt = 1 := by decide
    omega
  obtain ⟨q, hq1, hq2, hq3, hq4⟩ := hPc
  rw [e3, e4, zb_some, zb_some, if_neg n10, if_neg n10, zl_eq, zl_eq, hq3, hq4, p_close (by omega), p_changed, zb_some, zb_some]
  exact ⟨nI q, _, _, rfl, rfl, N, ⟨⟨s0, s1, s2, s3, s4, s5, s6⟩, hDo, hDe, hLe, hEv, hTi, hDa, m, hm1, hm, rfl, rfl⟩, hA, pPa_0 hP rfl rfl rfl, h26, h27⟩
