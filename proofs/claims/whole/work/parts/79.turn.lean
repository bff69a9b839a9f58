/-- the reference's turn behind what it keeps -/
def tM (σ7 : zS) : Option (Int32 × zS) :=
  zl (zs σ7 0 26 1) fun σ8 =>
  zl (zs σ8 0 27 0) fun σ9 =>
  zl (zs σ9 0 28 0) fun σ10 =>
  zg (z_in 71 192) <|
  zl (zs σ10 1 (71 : Int32).toNatClampNeg 0) fun σ12 =>
  zg (z_in 2 192) <|
  zg (z_in 2 192) <|
  zl (zs σ12 1 (2 : Int32).toNatClampNeg ((σ12 1 (2 : Int32).toNatClampNeg) + 1)) fun σ15 =>
  zb (f_X8_goTime σ15) fun r16 σ17 =>
  zb (f_X8_goTimers σ17) fun r18 σ19 =>
  zb (f_X8_goDaemons σ19) fun r20 σ21 =>
  zb (f_X8_goWalkers σ21) fun r22 σ23 =>
  zl (zs σ23 0 26 0) fun σ24 =>
  zl (zs σ24 0 27 0) fun σ25 =>
  some (σ25 0 28, σ25)
theorem p_J46 (τ : zS) : j_X8_turn_J46 τ = (z_loop (b_X8_turn_L48) zfuel (0, τ)).bind fun a6 => zl (zs a6.2 0 2 ((a6.2 0 2) + 1)) tM := rfl
theorem p_keep {N : Nat → Nat} {σ τ : zS} (hS : pSt N σ τ) (hA : qA N (pM 24 σ) (τ 1)) (hP : pPa N σ τ) : ∃ (σ2 τ2 : zS), f_X5_keep σ = some (0, σ2) ∧ f_X8_turn τ = tM τ2 ∧ pPa N σ2 τ2 ∧ (∀ k, k < 34 → σ2 k = σ k) ∧ (∀ k, k ≠ 0 → k ≠ 2 → τ2 k = τ k) ∧ ∀ j, j ≠ 2 → τ2 0 j = τ 0 j := by
  obtain ⟨⟨s0, s1, s2, s3, s4, s5, s6⟩, hDo, hDe, hLe, hEv, hTi, hDa, q, -, -, q1, q2⟩ := id hS
  have hp : σ 24 3 = τ 0 3 := q1.trans q2.symm
  have hN := s2.1
  obtain ⟨np, n1, n2, n3, -⟩ := id hP
  by_cases h8 : np = 8
  · subst h8
    obtain ⟨σ8, a, d1, d2, d3, d4, d5, d6⟩ := p_drop hN hP n2
    have o1 : zs a.2 0 2 7 1 = τ 1 := by rw [zs_ne (by decide)]; exact d6 1 (by decide)
    obtain ⟨σ2, b, k1, k2, k3, k4, k5⟩ := p_add (np := 7) (σ := σ8) (τ := zs a.2 0 2 7) hN d3 (by
      rw [o1]
      exact qA_m hA (fun j hj => d5 _ (by omega) (by omega))) (by
      rw [d5 24 (by decide) (by decide), zs_at, up_ne (by decide), d6 0 (by decide)]
      exact hp) (by decide) d4
    refine ⟨σ2, _, ?_, ?_, k3, fun k hk => ?_, fun k h0 h2 => ?_, fun j hj => ?_⟩
    · unfold f_X5_keep
      have hc : ¬ σ 34 0 < 8 := by rw [n2]; exact nI_nlt (b := 8) (by decide) (by decide)
      rw [if_neg hc, d1, zb_some]
      exact k1
    · unfold f_X8_turn
      have hc : τ 0 2 = 8 := n3
      rw [if_pos hc, d2, Option.bind_some, zl_eq, p_J46, k2, Option.bind_some, zl_eq]
    · rw [k4 k hk]
      exact d5 k (by omega) (by omega)
    · rw [zs_ne h0, k5 k h2, zs_ne h0]
      exact d6 k h2
    · rw [zs_at, up_ne hj, k5 0 (by decide), zs_at, up_ne hj, d6 0 (by decide)]
  · have hn : np < 8 := by omega
    obtain ⟨σ2, b, k1, k2, k3, k4, k5⟩ := p_add hN hP hA hp hn n2
    refine ⟨σ2, _, ?_, ?_, k3, k4, fun k h0 h2 => ?_, fun j hj => ?_⟩
    · unfold f_X5_keep
      have hc : σ 34 0 < 8 := by rw [n2]; exact nI_lt (b := 8) hn (by decide)
      rw [if_pos hc]
      exact k1
    · unfold f_X8_turn
      have hc : ¬ τ 0 2 = 8 := by
        rw [n3]
        exact fun e => h8 (n_eqI (b := 8) (by omega) (by omega) e)
      rw [if_neg hc, p_J46, k2, Option.bind_some, zl_eq]
    · rw [zs_ne h0]
      exact k5 k h2
    · rw [zs_at, up_ne hj, k5 0 (by decide)]
theorem sm_turn : Sm RR f_X7_turn f_X8_turn := by
  intro σ τ ⟨N, hS, hA, hP, h26, h27⟩
  obtain ⟨σ2, τ2, g1, g2, g3, g4, g5, g6⟩ := p_keep hS hA hP
  have hS2 : pSt N σ2 τ2 := pSt_w hS (fun k _ h _ _ _ => g4 k (by omega)) (by rw [g4 24 (by decide)]) (fun k h3 _ => g5 k (by omega) (by omega)) (fun j h3 _ => g6 j (by omega))
  have o1 : τ2 1 = τ 1 := g5 1 (by decide) (by decide)
  have hA2 : qA N (pM 24 σ2) (τ2 1) := by
    rw [o1]
    exact qA_m hA (fun j hj => g4 _ (by omega))
  obtain ⟨⟨s0, s1, s2, s3, s4, s5, s6⟩, -⟩ := id hS2
  have hc5 : gC σ2 (zs (zs (zs σ2 24 2 ((σ2 24 2) + 1)) 24 5 0) 0 8 0) := gC_t (gC_t (gC_24 (by decide)) (gC_24 (by decide))) (gC_s (Or.inl rfl))
  have hm5 : gM τ2 (zs (zs (zs (zs (zs τ2 0 26 1) 0 27 0) 0 28 0) 1 71 0) 1 2 (τ2 1 2 + 1)) := gM_t (gM_t (gM_t (gM_t (gM_0 (Or.inl rfl)) (gM_0 (Or.inr (Or.inl rfl)))) (gM_0 (Or.inr (Or.inr rfl)))) (gM_s (Or.inl rfl))) (gM_s (Or.inl rfl))
  have hR : tR N 0 (zs (zs (zs σ2 24 2 ((σ2 24 2) + 1)) 24 5 0) 0 8 0) (zs (zs (zs (zs (zs τ2 0 26 1) 0 27 0) 0 28 0) 1 71 0) 1 2 (τ2 1 2 + 1)) := by
    refine ⟨pSt_g hS2 hc5 hm5, ?_, rfl, rfl, Or.inl rfl, 0, Nat.le_refl _, rfl, rfl⟩
    obtain ⟨⟨⟨t, t1, t2, t3⟩, t4, t5, s, t6, t7, t8⟩, qr, qc, qd, qw, ql, qo, qg⟩ := hA2
    have t5 : σ2 24 2 = τ2 1 2 := t5
    have lo : ∀ j, j ≠ 2 → j ≠ 71 → upd (upd (τ2 1) 71 0) 2 (τ2 1 2 + 1) j = τ2 1 j := fun j x0 x1 => by rw [up_ne x0, up_ne x1]
    refine ⟨⟨⟨t, t1, t2, (lo 0 (by decide) (by decide)).trans t3⟩, t4.trans (lo 1 (by decide) (by decide)).symm, ?_, s, t6, t7, (lo 3 (by decide) (by decide)).trans t8⟩, ⟨0, by decide, rfl, ?_, fun i hi => absurd hi (by omega)⟩, qC_g (m := pM 24 σ2) qc (fun j h1 h2 => lo j (by omega) (by omega)), qD_g (m := pM 24 σ2) qd (fun j h1 h2 => lo j (by omega) (by omega)), qW_g (m := pM 24 σ2) s2.1 qw (fun j h1 h2 => lo j (by omega) (by omega)), qL_g (m := pM 24 σ2) ql (fun j h1 h2 => lo j (by omega) (by omega)), qO_g (m := pM 24 σ2) qo (fun j h1 h2 => lo j (by omega) (by omega)), qG_g (m := pM 24 σ2) qg (fun j h1 h2 => lo j (by omega) (by omega))⟩
    · show σ2 24 2 + 1 = τ2 1 2 + 1
      rw [t5]
    · show upd (upd (τ2 1) 71 0) 2 (τ2 1 2 + 1) 71 = _
      rw [up_ne (by decide), up_at]
      rfl
  obtain ⟨ra, ra', σa, τa, a1, a2, a3, a4, a5⟩ := p_events hR
  obtain ⟨rb, rb', σb, τb, b1, b2, b3, b4, b5⟩ := p_timers a3 (by omega)
  obtain ⟨rc, rc', σc, τc, c1, c2, c3, c4, c5⟩ := p_daemons b3 (by omega)
  obtain ⟨rd, rd', σd, τd, d1, d2, d3, d4, d5⟩ := p_walkers c3 (by omega)
  obtain ⟨hSd, hAd, -, -, -, k, -, k1, k2⟩ := d3
  have hcE : gC σ2 σd := gC_t hc5 (gC_t a4 (gC_t b4 (gC_t c4 d4)))
  have hmE : gM τ2 (zs (zs τd 0 26 0) 0 27 0) := gM_t hm5 (gM_t a5 (gM_t b5 (gM_t c5 (gM_t d5 (gM_t (gM_0 (Or.inl rfl)) (gM_0 (Or.inr (Or.inl rfl))))))))
  refine ⟨nI k, σd, zs (zs τd 0 26 0) 0 27 0, ?_, ?_, N, pSt_g hS2 hcE hmE, hAd, pPa_g g3 hcE hmE, rfl, rfl⟩
  · unfold f_X7_turn
    rw [g1, zb_some]
    simp only [zl_eq]
    have e1 : zs σ2 24 2 ((σ2 24 2) + 1) = zs σ2 24 2 ((σ2 24 2) + 1) := rfl
    rw [a1, zb_some, b1, zb_some, c1, zb_some, d1, zb_some, k1]
  · have e71 : ((71 : Int32).toNatClampNeg) = 71 := by decide
    have e2z : ((2 : Int32).toNatClampNeg) = 2 := by decide
    have z71 : z_in (71 : Int32) 192 := by decide
    have z2 : z_in (2 : Int32) 192 := by decide
    have y2 : zs (zs (zs (zs τ2 0 26 1) 0 27 0) 0 28 0) 1 71 0 1 2 = τ2 1 2 := rfl
    have y28 : zs (zs τd 0 26 0) 0 27 0 0 28 = τd 0 28 := rfl
    rw [g2]
    unfold tM
    simp only [zl_eq, zg_t z71, zg_t z2, e71, e2z, y2]
    rw [a2, zb_some, b2, zb_some, c2, zb_some, d2, zb_some, y28, k2]
theorem sm_back : Sm RR f_X7_back f_X8_back := by
  intro σ τ ⟨N, hS, hA, hP, h26, h27⟩
  have hR : RR σ τ := ⟨N, hS, hA, hP, h26, h27⟩
  obtain ⟨⟨s0, s1, s2, s3, s4, s5, s6⟩, hDo, hDe, hLe, hEv, hTi, hDa, q, hq1, hq2, q1, q2⟩ := id hS
  obtain ⟨np, h1, h2, h3, h4, h5, h6⟩ := hP
  unfold f_X7_back f_X8_back
  by_cases h0 : np = 0
  · subst h0
    exact ⟨-4, σ, τ, by rw [if_pos (show σ 34 0 = 0 from h2)], by rw [if_pos (show τ 0 2 = 0 from h3)], hR⟩
  obtain ⟨n, rfl⟩ : ∃ n, np = n + 1 := ⟨np - 1, by omega⟩
  have hn8 : n < 8 := by omega
  have c1 : ¬ σ 34 0 = 0 := by rw [h2]; exact nI_ne0 (by omega) (by omega)
  have c2 : ¬ τ 0 2 = 0 := by rw [h3]; exact nI_ne0 (by omega) (by omega)
  have c3 : ¬ σ 34 0 ≤ 0 := by rw [h2]; exact nI_nle (by omega) (by omega)
  obtain ⟨b, b1, b2, b3⟩ := h4 n hn8
  have hcl : (σ 35 n).toNatClampNeg = b := by rw [b3]; exact ix_n (by omega)
  have hz := z_mo_r b1 b2
  obtain ⟨g1, g2⟩ := h6 n (by omega)
  rw [hcl, hz] at g1 g2
  have e34 : zs σ 34 0 (nI n) 34 0 = nI n := by rw [zs_at, up_at]
  have e35 : zs σ 34 0 (nI n) 35 = σ 35 := zs_ne (by decide)
  have g1' : qA N (pM (26 + 10 * b) (zs σ 34 0 (nI n))) (fun j => τ 2 (192 * n + j)) := qA_m g1 (fun j hj => zs_ne (by omega))
  obtain ⟨f4, f8, f9⟩ := qA_b g1'
  obtain ⟨σ6, k1, k2⟩ := p_copy (a := 0) (b := b) (A := 24) (B := 26 + 10 * b) (σ := zs σ 34 0 (nI n)) rfl hz (by omega) f4 f8 f9
  have o34 : σ6 34 0 = nI n := by rw [k2.1 34 (by omega)]; exact e34
  have o35 : σ6 35 = σ 35 := (k2.1 35 (by omega)).trans e35
  obtain ⟨⟨x, τ6⟩, l1, l2, l3⟩ : ∃ a : Int32 × zS, z_loop b_X8_back_L22 zfuel (0, zs τ 0 2 (nI n)) = some a ∧ (∀ k, k ≠ 1 → a.2 k = zs τ 0 2 (nI n) k) ∧ ∀ j, j < 192 → a.2 1 j = τ 2 (192 * n + j) := by
    refine lp_1 (fun i (a : Int32 × zS) => a.1 = nI i ∧ (∀ k, k ≠ 1 → a.2 k = zs τ 0 2 (nI n) k) ∧ ∀ j, j < i → a.2 1 j = τ 2 (192 * n + j)) _ 192 ?_ zfuel 0 (0, zs τ 0 2 (nI n)) (Nat.zero_le _) ⟨rfl, fun _ _ => rfl, fun x hx => by omega⟩ (by decide)
    intro i ⟨x, τ'⟩ hi ⟨ex, h1, h2⟩
    dsimp only at ex h1 h2
    subst ex
    unfold b_X8_back_L22
    dsimp only
    by_cases hin : i = 192
    · right
      subst hin
      rw [if_pos (show (192 : Int32) ≤ nI 192 by decide)]
      exact ⟨_, rfl, h1, h2⟩
    · left
      have hc : ¬ (192 : Int32) ≤ nI i := nI_ge (b := 192) (by omega) (by decide)
      have e3 : 192 * τ' 0 2 + nI i = nI (192 * n + i) := by
        rw [h1 0 (by decide), zs_at, up_at, show (192 * nI n : Int32) = nI (192 * n) from pk_mul 192 n, nI_add]
      have e4 : τ' 2 = τ 2 := (h1 2 (by decide)).trans (zs_ne (by decide))
      rw [if_neg hc]
      simp only [e3, zg_n (show i < 192 by omega) (show 192 ≤ 100000 by omega), zg_n (show 192 * n + i < 1536 by omega) (show 1536 ≤ 100000 by omega), ix_n (show i ≤ 100000 by omega), ix_n (show 192 * n + i ≤ 100000 by omega), zl_eq, nI_1, e4]
      refine ⟨_, rfl, by omega, rfl, fun k hk => (zs_ne hk).trans (h1 k hk), fun y hy => ?_⟩
      dsimp only
      rw [zs_at]
      by_cases hyi : y = i
      · rw [hyi, up_at]
      · rw [up_ne hyi]
        exact h2 y (by omega)
  dsimp only at l2 l3
  have o0 : ∀ j, j ≠ 2 → τ6 0 j = τ 0 j := fun j hj => by rw [l2 0 (by decide), zs_at, up_ne hj]
  have o02 : τ6 0 2 = nI n := by rw [l2 0 (by decide), zs_at, up_at]
  have o2 : τ6 2 = τ 2 := (l2 2 (by decide)).trans (zs_ne (by decide))
  have ok : ∀ k, k ≠ 0 → k ≠ 1 → τ6 k = τ k := fun k x0 x1 => (l2 k x1).trans (zs_ne x0)
  have oC : ∀ k, k < 24 → σ6 k = σ k := fun k hk => (k2.1 k (by omega)).trans (zs_ne (by omega))
  have op : σ6 24 3 = τ 0 3 := by
    rw [k2.2.1 3 (by decide), zs_ne (by omega)]
    exact g2
  refine ⟨nI n, σ6, τ6, ?_, ?_, N, ?_, ?_, ?_, ?_, ?_⟩
  · have h9 : b < 9 := by omega
    rw [if_neg c1]
    unfold f_X5_giveBack
    rw [if_neg c3]
    simp only [h2, nI_pred, zl_eq, e34, zg_n hn8 (show 8 ≤ 100000 by decide), ix_n (show n ≤ 100000 by omega), e35, hcl, zg_t h9, k1, zb_some, o34]
  · rw [if_neg c2]
    simp only [h3, nI_pred, zl_eq, l1, Option.bind_some, o02]
  · exact pSt_w hS (fun k _ h _ _ _ => oC k h) (op.trans (q2.trans q1.symm)) (fun k h3 _ => ok k (by omega) (by omega)) (fun j h3 _ => o0 j (by omega))
  · exact qA_cp s2.1 k2 l3 g1'
  · refine ⟨n, by omega, o34, o02, by rw [o35]; exact h4, by rw [o35]; exact h5, fun i hi => ?_⟩
    obtain ⟨b', b1', b2', b3'⟩ := h4 i (by omega)
    have hcl' : (σ 35 i).toNatClampNeg = b' := by rw [b3']; exact ix_n (by omega)
    have hz' := z_mo_r b1' b2'
    obtain ⟨w1, w2⟩ := h6 i (by omega)
    rw [hcl', hz'] at w1 w2
    rw [o35, hcl', hz', o2, o0 3 (by decide)]
    refine ⟨qA_m w1 (fun j hj => ?_), ?_⟩
    · exact (k2.1 _ (by omega)).trans (zs_ne (by omega))
    · rw [k2.1 _ (by omega), zs_ne (by omega)]
      exact w2
  · exact (o0 26 (by decide)).trans h26
  · exact (o0 27 (by decide)).trans h27
theorem r0 : RR s0_C s0_M := by
  refine ⟨fun _ => 0, ⟨⟨⟨by decide, rfl, rfl⟩, ⟨by decide, rfl, rfl⟩, ⟨by decide, rfl, rfl⟩, ⟨by decide, rfl, rfl⟩, ⟨by decide, rfl, rfl⟩, ⟨by decide, rfl, rfl⟩, ⟨by decide, rfl, rfl⟩⟩, fun d hd => absurd hd (Nat.not_lt_zero _), fun d hd => absurd hd (Nat.not_lt_zero _), fun _ _ => rfl, fun d hd => absurd hd (Nat.not_lt_zero _), fun d hd => absurd hd (Nat.not_lt_zero _), fun d hd => absurd hd (Nat.not_lt_zero _), 1, by decide, by decide, rfl, rfl⟩, ⟨⟨⟨0, by decide, rfl, rfl⟩, rfl, rfl, 0, by decide, rfl, rfl⟩, ⟨0, by decide, rfl, rfl, fun i hi => absurd hi (Nat.not_lt_zero _)⟩, fun c hc => ⟨rfl, show (-1000 : Int) ≤ (0 : Int32).toInt by decide, show (0 : Int32).toInt ≤ (1000 : Int) by decide⟩, fun d _ => ⟨fun h => absurd h (Nat.not_lt_zero _), fun _ => rfl⟩, fun w hw => absurd hw (Nat.not_lt_zero _), fun d _ => ⟨fun h => absurd h (Nat.not_lt_zero _), fun _ => rfl⟩, fun d _ => ⟨fun h => absurd h (Nat.not_lt_zero _), fun _ => rfl⟩, fun d _ => ⟨fun h => absurd h (Nat.not_lt_zero _), fun _ => rfl⟩⟩, ⟨0, by decide, rfl, rfl, fun i hi => ⟨i + 1, by omega, by omega, rfl⟩, fun i j hi hj h => ?_, fun i hi => absurd hi (Nat.not_lt_zero _)⟩, rfl, rfl⟩
  have := n_eqI (a := i + 1) (b := j + 1) (by omega) (by omega) h
  omega
