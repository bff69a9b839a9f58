theorem nar01 {x : Int32} (h : x = 0 ∨ x = 1) : vp_nar .boolean x = x := by rcases h with rfl | rfl <;> rfl
theorem p_ctr (x : Int32) (σ τ : zS) : (∃ c, c < 8 ∧ x = nI c ∧ f_X7_isCounter x σ = some (1, σ) ∧ f_X8_in x 0 7 τ = some (1, τ)) ∨ (f_X7_isCounter x σ = some (0, σ) ∧ f_X8_in x 0 7 τ = some (0, τ)) := by
  unfold f_X7_isCounter
  rcases p_within x 0 7 σ τ with ⟨-, e2, h1, h2⟩ | ⟨-, e2, h⟩
  · obtain ⟨c, hc, rfl⟩ := n_range (n := 7) (by decide) h1 h2
    left
    refine ⟨c, by omega, rfl, ?_, e2⟩
    rw [if_neg (nI_pos (by omega)), if_neg (show ¬ ((8 : Int32) ≤ nI c) from nI_ge (b := 8) (by omega) (by omega))]
  · right
    refine ⟨?_, e2⟩
    by_cases h0 : x < 0
    · rw [if_pos h0]
    · have h8 : (8 : Int32) ≤ x := by
        rcases h with h | h
        · exact absurd h h0
        · rw [Int32.le_iff_toInt_le]
          rw [Int32.lt_iff_toInt_lt] at h
          have e7 : (7 : Int32).toInt = 7 := by decide
          have e8 : (8 : Int32).toInt = 8 := by decide
          omega
      rw [if_neg h0, if_pos h8]
theorem p_cval (x : Int32) (σ τ : zS) : (f_X7_isCounterValue x σ = some (1, σ) ∧ f_X8_in x (-1000) 1000 τ = some (1, τ) ∧ -1000 ≤ x.toInt ∧ x.toInt ≤ 1000) ∨ (f_X7_isCounterValue x σ = some (0, σ) ∧ f_X8_in x (-1000) 1000 τ = some (0, τ)) := by
  unfold f_X7_isCounterValue
  rcases p_within x (-1000) 1000 σ τ with ⟨e1, e2, h1, h2⟩ | ⟨e1, e2, h⟩
  · left
    rw [Int32.lt_iff_toInt_lt] at h1 h2
    have e3 : (-1000 : Int32).toInt = -1000 := by decide
    have e4 : (1000 : Int32).toInt = 1000 := by decide
    exact ⟨by rw [e1, zb_some, zg_t (Or.inr rfl)], e2, by omega, by omega⟩
  · right
    exact ⟨by rw [e1, zb_some, zg_t (Or.inl rfl)], e2⟩
theorem sm_walker (x : Int32) : Sm RR (f_X7_walker x) (f_X8_walker x) := by
  intro σ τ ⟨N, hS, hA, hP, h26, h27⟩
  obtain ⟨⟨s0, s1, s2, s3, s4, s5, s6⟩, hDo, hDe, hLe, hEv, hTi, hDa, hPc⟩ := id hS
  obtain ⟨qt, qr, qc, qd, qw, ql, qo, qg⟩ := id hA
  have hR : RR σ τ := ⟨N, hS, hA, hP, h26, h27⟩
  unfold f_X7_walker f_X8_walker
  rw [s0.2.1, s0.2.2]
  rcases (p_there x (N 0) (by omega) σ τ).symm with ⟨e1, e2⟩ | ⟨a, ha, rfl, e1, e2⟩
  · exact ⟨-2, σ, τ, by rw [e1, zb_some, if_pos rfl], by rw [e2, zb_some, if_pos rfl], hR⟩
  rw [e1, e2, zb_some, zb_some, if_neg n10, if_neg n10, s2.2.2]
  by_cases h : N 2 = 4
  · refine ⟨-5, σ, τ, ?_, ?_, hR⟩
    · have e3 : f_X7_isThere (-5) (σ 1 2) σ = some (0, σ) := by
        unfold f_X7_isThere
        rw [if_pos (by decide)]
      simp only [f_X3_addWalker]
      rw [s2.2.1, if_neg (by rw [h]; decide), zb_some, e3, zb_some, if_pos rfl, p_close5, zb_some]
    · rw [if_pos (by rw [h]; rfl)]
  · have hlt : N 2 < 4 := by have := s2.1; omega
    have hix : (nI (N 2)).toNatClampNeg = N 2 := ix_n (by omega)
    have e3 : ∀ σ' : zS, f_X7_isThere (nI (N 2)) (nI (N 2 + 1)) σ' = some (1, σ') := fun σ' => by
      unfold f_X7_isThere
      rw [if_neg (nI_pos (by omega)), if_neg (nI_ge (by omega) (by omega))]
    refine ⟨nI (N 2), zs (zs (zs (zs σ 1 2 (nI (N 2 + 1))) 29 (N 2) (nI a)) 30 (N 2) (-1)) 34 0 0, zs (zs (zs (zs τ 1 (27 + N 2) (nI a)) 1 (31 + N 2) (-1)) 0 8 (nI (N 2 + 1))) 0 2 0, ?_, ?_, fun k => if k = 2 then N 2 + 1 else N k, ⟨⟨s0, s1, ⟨by show N 2 + 1 ≤ 4; omega, rfl, rfl⟩, s3, s4, s5, s6⟩, hDo, hDe, hLe, hEv, hTi, hDa, hPc⟩, ⟨?_, ?_, ?_, ?_, ?_, ?_, ?_, ?_⟩, pPa_0 hP rfl rfl rfl, h26, h27⟩
    · simp +decide only [f_X3_addWalker, s2.2.1, if_pos (show nI (N 2) < 4 from nI_lt hlt (by decide)), zg_n hlt (by decide), hix, e3, if_neg n10, zl_eq, zb_some, zs_at, zs_ne, up_at, ne_eq, Nat.reduceEqDiff, not_false_eq_true, if_false, if_true, nI_1, nI_pred, p_close (k := N 2) (by omega)]
    · simp +decide only [s2.2.2, if_neg (show ¬ nI (N 2) = 4 from fun e => h (n_eqI (b := 4) (by omega) (by omega) e)), zgM (b := 27) 27 rfl (show 27 + N 2 < 192 by omega) (by decide), ixM (b := 27) 27 rfl (show 27 + N 2 ≤ 100000 by omega), zgM (b := 31) 31 rfl (show 31 + N 2 < 192 by omega) (by decide), ixM (b := 31) 31 rfl (show 31 + N 2 ≤ 100000 by omega), zl_eq, zb_some, zs_at, zs_ne, up_at, ne_eq, Nat.reduceEqDiff, not_false_eq_true, if_false, if_true, nI_1, nI_pred, p_changed]
    · exact qT_g qt (fun j hj => (up_ne (by omega)).trans (up_ne (by omega)))
    · exact qR_g qr (fun j hj => (up_ne (by omega)).trans (up_ne (by omega)))
    · exact qC_g qc (fun j hj hj2 => (up_ne (by omega)).trans (up_ne (by omega)))
    · exact qD_g (N := N) qd (fun j hj hj2 => (up_ne (by omega)).trans (up_ne (by omega)))
    · intro w hw
      have hw : w < N 2 + 1 := hw
      show (∃ a', a' < N 0 ∧ upd (σ 29) (N 2) (nI a) w = nI a' ∧ upd (upd (τ 1) (27 + N 2) (nI a)) (31 + N 2) (-1) (27 + w) = nI a') ∧ upd (σ 30) (N 2) (-1) w = upd (upd (τ 1) (27 + N 2) (nI a)) (31 + N 2) (-1) (31 + w) ∧ (upd (σ 30) (N 2) (-1) w = -1 ∨ ∃ b, b < N 0 ∧ upd (σ 30) (N 2) (-1) w = nI b)
      by_cases hww : w = N 2
      · subst hww
        rw [up_at, up_at, up_at, up_ne (by omega), up_at]
        exact ⟨⟨a, ha, rfl, rfl⟩, rfl, Or.inl rfl⟩
      · rw [up_ne hww, up_ne hww, up_ne (j := 27 + w) (by omega), up_ne (j := 27 + w) (by omega), up_ne (j := 31 + w) (by omega), up_ne (j := 31 + w) (by omega)]
        exact qw w (by omega)
    · exact qL_g (N := N) ql (fun j hj hj2 => (up_ne (by omega)).trans (up_ne (by omega)))
    · exact qO_g (N := N) qo (fun j hj hj2 => (up_ne (by omega)).trans (up_ne (by omega)))
    · exact qG_g (N := N) qg (fun j hj hj2 => (up_ne (by omega)).trans (up_ne (by omega)))
theorem p_addDeed {σ τ : zS} {k : Nat} {x y : Int32} (hR : RR σ τ) (hk : k ≤ 8) (h0 : k = 0 → (∃ c, c < 8 ∧ x = nI c) ∧ -1000 ≤ y.toInt ∧ y.toInt ≤ 1000) (h8 : k = 8 → 1 ≤ y.toInt ∧ y.toInt ≤ 600) : ∃ (r : Int32) (σ1 τ1 : zS), (zb (f_X1_addDeed (nI k) x y σ) fun r6 σ7 => zb (f_X7_closePast r6 σ7) fun r8 σ9 => some (r8, σ9)) = some (r, σ1) ∧ j_X8_deed_J59 (nI k) x y 1 τ = some (r, τ1) ∧ RR σ1 τ1 := by
  obtain ⟨N, hS, hA, hP, h26, h27⟩ := id hR
  obtain ⟨⟨s0, s1, s2, s3, s4, s5, s6⟩, hDo, hDe, hLe, hEv, hTi, hDa, hPc⟩ := id hS
  by_cases h : N 3 = 40
  · refine ⟨-5, σ, τ, ?_, ?_, hR⟩
    · unfold f_X1_addDeed
      rw [s3.2.1, if_neg (by rw [h]; decide), zb_some, p_close5, zb_some]
    · unfold j_X8_deed_J59
      rw [if_neg n10, s3.2.2, if_pos (by rw [h]; rfl)]
  · have hlt : N 3 < 40 := by have := s3.1; omega
    have hix : (nI (N 3)).toNatClampNeg = N 3 := ix_n (by omega)
    refine ⟨nI (N 3), zs (zs (zs (zs (zs (zs σ 6 (N 3) (nI k)) 7 (N 3) x) 8 (N 3) y) 9 (N 3) (-1)) 5 0 (nI (N 3 + 1))) 34 0 0, zs (zs (zs (zs (zs (zs τ 5 (N 3) (nI k)) 6 (N 3) x) 7 (N 3) y) 8 (N 3) (-1)) 0 9 (nI (N 3 + 1))) 0 2 0, ?_, ?_, fun k => if k = 3 then N 3 + 1 else N k, ⟨⟨s0, s1, s2, ⟨by show N 3 + 1 ≤ 40; omega, rfl, rfl⟩, s4, s5, s6⟩, hDo, ?_, hLe, ?_, ?_, ?_, hPc⟩, hA, pPa_0 hP rfl rfl rfl, h26, h27⟩
    · simp +decide only [f_X1_addDeed, s3.2.1, if_pos (show nI (N 3) < 40 from nI_lt hlt (by decide)), zg_n hlt (by decide), hix, zl_eq, zb_some, zs_at, zs_ne, up_at, ne_eq, Nat.reduceEqDiff, not_false_eq_true, if_false, if_true, nI_1, nI_pred, p_close (k := N 3) (by omega)]
    · simp +decide only [j_X8_deed_J59, if_neg n10, s3.2.2, if_neg (show ¬ nI (N 3) = 40 from fun e => h (n_eqI (b := 40) (by omega) (by omega) e)), zg_n hlt (by decide), hix, zl_eq, zb_some, zs_at, zs_ne, up_at, ne_eq, Nat.reduceEqDiff, not_false_eq_true, if_false, if_true, nI_1, nI_pred, p_changed]
    · intro d hd
      have hd : d < N 3 + 1 := hd
      show upd (σ 6) (N 3) (nI k) d = upd (τ 5) (N 3) (nI k) d ∧ upd (σ 7) (N 3) x d = upd (τ 6) (N 3) x d ∧ upd (σ 8) (N 3) y d = upd (τ 7) (N 3) y d ∧ upd (σ 9) (N 3) (-1) d = upd (τ 8) (N 3) (-1) d ∧ (∃ k', k' ≤ 8 ∧ upd (σ 6) (N 3) (nI k) d = nI k' ∧ (k' = 0 → (∃ c, c < 8 ∧ upd (σ 7) (N 3) x d = nI c) ∧ -1000 ≤ (upd (σ 8) (N 3) y d).toInt ∧ (upd (σ 8) (N 3) y d).toInt ≤ 1000) ∧ (k' = 8 → 1 ≤ (upd (σ 8) (N 3) y d).toInt ∧ (upd (σ 8) (N 3) y d).toInt ≤ 600)) ∧ (upd (σ 9) (N 3) (-1) d = -1 ∨ ∃ c, c < 8 ∧ upd (σ 9) (N 3) (-1) d = nI c)
      by_cases hdd : d = N 3
      · subst hdd
        refine ⟨by rw [up_at, up_at], by rw [up_at, up_at], by rw [up_at, up_at], by rw [up_at, up_at], ⟨k, hk, up_at, ?_, ?_⟩, Or.inl up_at⟩
        · rw [up_at, up_at]; exact h0
        · rw [up_at]; exact h8
      · simp only [up_ne hdd]
        exact hDe d (by omega)
    · intro e he
      obtain ⟨⟨d, m, h1, h2⟩, h3⟩ := hEv e he
      exact ⟨⟨d, m, by show d < N 3 + 1; omega, h2⟩, h3⟩
    · intro e he
      obtain ⟨⟨d, m, h1, h2⟩, h3⟩ := hTi e he
      exact ⟨⟨d, m, by show d < N 3 + 1; omega, h2⟩, h3⟩
    · intro e he
      obtain ⟨d, q, h1, h2⟩ := hDa e he
      exact ⟨d, q, by show d < N 3 + 1; omega, h2⟩
theorem sm_deed (s x y : Int32) : Sm RR (f_X7_deed s x y) (f_X8_deed s x y) := by
  intro σ τ hR
  unfold f_X7_deed f_X8_deed
  rcases (p_within s 0 8 σ τ).symm with ⟨e1, e2, h⟩ | ⟨e1, e2, h1, h2⟩
  · refine ⟨-3, σ, τ, by rw [e1, zb_some, if_pos rfl], ?_, hR⟩
    have hs0 : ¬ s = 0 := by rintro rfl; rcases h with h | h <;> exact absurd h (by decide)
    have hs8 : ¬ s = 8 := by rintro rfl; rcases h with h | h <;> exact absurd h (by decide)
    rw [e2, zb_some, if_neg hs0]
    unfold j_X8_deed_J43
    rw [if_neg hs8]
    unfold j_X8_deed_J59
    rw [if_pos rfl]
  obtain ⟨k, hk, rfl⟩ := n_range (n := 8) (by decide) h1 h2
  rw [e1, e2, zb_some, zb_some, if_neg n10]
  by_cases hk0 : k = 0
  · subst hk0
    have e00 : nI 0 = 0 := rfl
    rw [if_pos e00, if_pos e00]
    rcases (p_ctr x σ τ).symm with ⟨e3, e4⟩ | ⟨c, hc, rfl, e3, e4⟩
    · refine ⟨-3, σ, τ, by rw [e3, zb_some, if_pos rfl], ?_, hR⟩
      rw [e4, zb_some, if_pos rfl]
      unfold j_X8_deed_J40 j_X8_deed_J41 j_X8_deed_J43
      rw [if_neg (by decide)]
      unfold j_X8_deed_J59
      rw [if_pos rfl]
    rw [e3, e4, zb_some, zb_some, if_neg n10, if_neg n10]
    rcases (p_cval y σ τ).symm with ⟨e5, e6⟩ | ⟨e5, e6, h3, h4⟩
    · refine ⟨-3, σ, τ, by rw [e5, zb_some, if_pos rfl], ?_, hR⟩
      rw [e6, zb_some, if_pos rfl]
      unfold j_X8_deed_J40 j_X8_deed_J41 j_X8_deed_J43
      rw [if_neg (by decide)]
      unfold j_X8_deed_J59
      rw [if_pos rfl]
    rw [e5, e6, zb_some, zb_some, if_neg n10, if_neg n10]
    unfold j_X7_deed_J34 j_X8_deed_J41 j_X8_deed_J43
    rw [if_neg (by decide), if_neg (by decide)]
    exact p_addDeed hR (by omega) (fun _ => ⟨⟨c, hc, rfl⟩, h3, h4⟩) (fun h => by omega)
  · have hkn : ¬ nI k = 0 := fun e => hk0 (n_eqI (b := 0) (by omega) (by omega) e)
    rw [if_neg hkn, if_neg hkn]
    unfold j_X7_deed_J34 j_X8_deed_J43
    by_cases hk8 : k = 8
    · subst hk8
      have e88 : nI 8 = 8 := rfl
      rw [if_pos e88, if_pos e88]
      rcases (p_within y 1 600 σ τ).symm with ⟨e3, e4, h⟩ | ⟨e3, e4, h3, h4⟩
      · refine ⟨-3, σ, τ, by rw [e3, zb_some, if_pos rfl], ?_, hR⟩
        rw [e4, zb_some]
        unfold j_X8_deed_J59
        rw [if_pos rfl]
      rw [e3, e4, zb_some, zb_some, if_neg n10]
      rw [Int32.lt_iff_toInt_lt] at h3 h4
      have e5 : (1 : Int32).toInt = 1 := by decide
      have e6 : (600 : Int32).toInt = 600 := by decide
      exact p_addDeed hR (by omega) (fun h => by omega) (fun _ => ⟨by omega, by omega⟩)
    · have hk8n : ¬ nI k = 8 := fun e => hk8 (n_eqI (b := 8) (by omega) (by omega) e)
      rw [if_neg hk8n, if_neg hk8n]
      exact p_addDeed hR (by omega) (fun h => by omega) (fun h => by omega)
theorem sm_condition (x c l : Int32) : Sm RR (f_X7_condition x c l) (f_X8_condition x c l) := by
  intro σ τ ⟨N, hS, hA, hP, h26, h27⟩
  obtain ⟨⟨s0, s1, s2, s3, s4, s5, s6⟩, hDo, hDe, hLe, hEv, hTi, hDa, hPc⟩ := id hS
  obtain ⟨qt, qr, qc, qd, qw, ql, qo, qg⟩ := id hA
  have hR : RR σ τ := ⟨N, hS, hA, hP, h26, h27⟩
  have key : ∀ d, d < N 3 → (c = -1 ∨ ∃ k, k < 8 ∧ c = nI k) → ∃ (r : Int32) (σ1 τ1 : zS), j_X7_condition_J29 (nI d) c l σ = some (r, σ1) ∧ (zb (f_X8_in l (-1000) 1000 τ) fun r7 σ8 => if r7 = 0 then some ((-3), σ8) else zg (z_in (nI d) 40) <| zl (zs σ8 8 (nI d).toNatClampNeg c) fun σ11 => zg (z_in (nI d) 40) <| zl (zs σ11 9 (nI d).toNatClampNeg l) fun σ13 => zb (f_X8_changed 1 σ13) fun r14 σ15 => some (r14, σ15)) = some (r, τ1) ∧ RR σ1 τ1 := by
    intro d hd hc
    have hd40 : d < 40 := by have := s3.1; omega
    have hix : (nI d).toNatClampNeg = d := ix_n (by omega)
    unfold j_X7_condition_J29
    rcases (p_cval l σ τ).symm with ⟨e3, e4⟩ | ⟨e3, e4, -, -⟩
    · exact ⟨-3, σ, τ, by rw [e3, zb_some, if_pos rfl], by rw [e4, zb_some, if_pos rfl], hR⟩
    rw [e3, e4]
    refine ⟨1, zs (zs (zs σ 9 d c) 10 d l) 34 0 0, zs (zs (zs τ 8 d c) 9 d l) 0 2 0, ?_, ?_, N, ⟨⟨s0, s1, s2, s3, s4, s5, s6⟩, hDo, ?_, ?_, hEv, hTi, hDa, hPc⟩, hA, pPa_0 hP rfl rfl rfl, h26, h27⟩
    · simp +decide only [if_neg n10, zg_n hd40 (by decide), hix, zl_eq, zb_some, zs_at, zs_ne, up_at, ne_eq, Nat.reduceEqDiff, not_false_eq_true, if_false, if_true, nI_1, nI_pred, show f_X7_closePast 1 _ = _ from p_close (k := 1) (by decide) (zs (zs σ 9 d c) 10 d l)]
      rfl
    · simp +decide only [if_neg n10, zg_n hd40 (by decide), hix, zl_eq, zb_some, zs_at, zs_ne, up_at, ne_eq, Nat.reduceEqDiff, not_false_eq_true, if_false, if_true, nI_1, nI_pred, p_changed]
    · intro d' hd'
      show σ 6 d' = τ 5 d' ∧ σ 7 d' = τ 6 d' ∧ σ 8 d' = τ 7 d' ∧ upd (σ 9) d c d' = upd (τ 8) d c d' ∧ (∃ k, k ≤ 8 ∧ σ 6 d' = nI k ∧ (k = 0 → (∃ c, c < 8 ∧ σ 7 d' = nI c) ∧ -1000 ≤ (σ 8 d').toInt ∧ (σ 8 d').toInt ≤ 1000) ∧ (k = 8 → 1 ≤ (σ 8 d').toInt ∧ (σ 8 d').toInt ≤ 600)) ∧ (upd (σ 9) d c d' = -1 ∨ ∃ k, k < 8 ∧ upd (σ 9) d c d' = nI k)
      obtain ⟨h1, h2, h3, h4, h5, h6⟩ := hDe d' hd'
      by_cases hdd : d' = d
      · subst hdd
        rw [up_at, up_at]
        exact ⟨h1, h2, h3, rfl, h5, hc⟩
      · simp only [up_ne hdd]
        exact ⟨h1, h2, h3, h4, h5, h6⟩
    · intro d' hd'
      show upd (σ 10) d l d' = upd (τ 9) d l d'
      by_cases hdd : d' = d
      · subst hdd
        rw [up_at, up_at]
      · rw [up_ne hdd, up_ne hdd]
        exact hLe d' hd'
  unfold f_X7_condition f_X8_condition
  rw [s3.2.1, s3.2.2]
  rcases (p_there x (N 3) (by omega) σ τ).symm with ⟨e1, e2⟩ | ⟨d, hd, rfl, e1, e2⟩
  · exact ⟨-2, σ, τ, by rw [e1, zb_some, if_pos rfl], by rw [e2, zb_some, if_pos rfl], hR⟩
  rw [e1, e2, zb_some, zb_some, if_neg n10, if_neg n10]
  by_cases hc : c = -1
  · subst hc
    have e3 : f_X8_in (-1) (-1) 7 τ = some (1, τ) := by
      unfold f_X8_in
      rw [if_neg (by decide), if_neg (by decide)]
    rw [if_pos rfl, e3, zb_some, if_neg n10]
    exact key d hd (Or.inl rfl)
  · rw [if_neg hc]
    rcases (p_ctr c σ τ).symm with ⟨e3, e4⟩ | ⟨k, hk, rfl, e3, e4⟩
    · refine ⟨-3, σ, τ, by rw [e3, zb_some, if_pos rfl], ?_, hR⟩
      have e5 : f_X8_in c (-1) 7 τ = some (0, τ) := by
        unfold f_X8_in at e4 ⊢
        by_cases g1 : c < 0
        · have g2 : c < -1 := by
            rw [Int32.lt_iff_toInt_lt] at g1 ⊢
            have e0 : (0 : Int32).toInt = 0 := by decide
            have em : (-1 : Int32).toInt = -1 := by decide
            have : ¬ c.toInt = -1 := fun q => hc (Int32.toInt_inj.mp (by rw [q, em]))
            omega
          rw [if_pos g2]
        · rw [if_neg g1] at e4
          have g3 : ¬ c < -1 := by
            rw [Int32.lt_iff_toInt_lt] at g1 ⊢
            have e0 : (0 : Int32).toInt = 0 := by decide
            have em : (-1 : Int32).toInt = -1 := by decide
            omega
          rw [if_neg g3]
          exact e4
      rw [e5, zb_some, if_pos rfl]
    · have e5 : f_X8_in (nI k) (-1) 7 τ = some (1, τ) := by
        unfold f_X8_in
        rw [if_neg (by
          rw [Int32.lt_iff_toInt_lt, nI_toInt (by omega)]
          have em : (-1 : Int32).toInt = -1 := by decide
          omega), if_neg (by
          rw [Int32.lt_iff_toInt_lt, nI_toInt (by omega)]
          have em : (7 : Int32).toInt = 7 := by decide
          omega)]
      rw [e3, e5, zb_some, zb_some, if_neg n10, if_neg n10]
      exact key d hd (Or.inr ⟨k, hk, rfl⟩)
