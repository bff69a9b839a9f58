theorem tR_gone {N : Nat → Nat} {b e : Nat} {σ τ : zS} {v : Int32} (h : tR N b σ τ) (he : e < N 4) (hv : v = 0 ∨ v = 1) : tR N b (zs σ 33 e v) (zs τ 1 (35 + e) v) := by
  obtain ⟨hS, hA, h26, h27, h01, hk2⟩ := h
  obtain ⟨⟨s0, s1, s2, s3, s4, s5, s6⟩, -⟩ := id hS
  obtain ⟨qt, qr, qc, qd, qw, ql, qo, qg⟩ := hA
  have h12 : e < 12 := by have := s4.1; omega
  exact ⟨hS, ⟨qT_g qt (fun j hj => up_ne (by omega)), qR_g qr (fun j hj => up_ne (by omega)), qC_g qc (fun j hj hj2 => up_ne (by omega)), qD_g qd (fun j hj hj2 => up_ne (by omega)), qW_g s2.1 qw (fun j hj hj2 => up_ne (by omega)), qL_g ql (fun j hj hj2 => up_ne (by omega)), qO_g qo (fun j hj hj2 => up_ne (by omega)), qG_u he qg hv rfl⟩, h26, h27, h01, hk2⟩
/-- an event comes -/
theorem p_event {N : Nat → Nat} {b e : Nat} {σ τ : zS} {c1 c2 c3 c4 c5 : Int32} (h : tR N b σ τ) (hb : b < 40) (he : e < N 4) (hs0 : σ 0 8 = 0) (hm : τ 11 e = c5) (hg : τ 1 (35 + e) = 0) : ∃ (r : Int32) (σ1 τ1 : zS), f_X7_bringEvent (nI e) σ = some (r, σ1) ∧ b_X8_goTime_L90 c1 c2 c3 c4 c5 (nI e, τ) = some (true, (nI (e + 1), τ1)) ∧ tR N (b + 1) σ1 τ1 ∧ gC σ σ1 ∧ gM τ τ1 ∧ σ1 15 = σ 15 ∧ ∀ x, x ≠ e → σ1 33 x = σ 33 x := by
  obtain ⟨hS, hA, h26, h27, h01, -⟩ := id h
  obtain ⟨⟨s0, s1, s2, s3, s4, s5, s6⟩, hDo, hDe, hLe, hEv, hTi, hDa, hPc⟩ := id hS
  obtain ⟨⟨d, m, hd, -, t1, t2, -, -⟩, t5, t6⟩ := hEv e he
  have h12 : e < 12 := by have := s4.1; omega
  have hix : (nI e).toNatClampNeg = e := ix_n (by omega)
  have zI : ∀ {α : Type} (e' : Option α), zg (z_in (nI e) 12) e' = e' := fun e' => zg_n h12 (by decide) e'
  have zA : ∀ {e' : Option (Bool × (Int32 × zS))}, zg (z_in (35 + nI e) 192) e' = e' := zgM (b := 35) 35 rfl (show 35 + e < 192 by omega) (by decide)
  have iA : (35 + nI e).toNatClampNeg = 35 + e := ixM (b := 35) 35 rfl (show 35 + e ≤ 100000 by omega)
  have m0 : τ 0 27 = 0 := h27.symm.trans hs0
  have c0 : ¬ (τ 0 15) ≤ nI e := by rw [s4.2.2]; exact nI_ge he (by omega)
  have v1 : vp_nar .boolean 1 = 1 := rfl
  have v0 : vp_nar .boolean 0 = 0 := rfl
  have fin : ∀ v : Int32, (v = 0 ∨ v = 1) → ∃ (r : Int32) (σ1 τ1 : zS), (zb (f_X4_addRow 0 (nI e) (zs σ 33 e v)) fun r5 σ6 => zb (f_X7_doDeed (σ6 12 e) σ6) fun r8 σ9 => some ((0 : Int32), σ9)) = some (r, σ1) ∧ (zb (f_X8_tell 0 (nI e) (zs τ 1 (35 + e) v)) fun r22 σ23 => zb (f_X8_perform (σ23 10 e) σ23) fun r25 σ26 => some (true, (nI (e + 1), σ26))) = some (true, (nI (e + 1), τ1)) ∧ tR N (b + 1) σ1 τ1 ∧ gC σ σ1 ∧ gM τ τ1 ∧ σ1 15 = σ 15 ∧ ∀ x, x ≠ e → σ1 33 x = σ 33 x := by
    intro v hv
    obtain ⟨σ1, τ1, g1, g2, g3, g4, g5⟩ := p_tell 0 (nI e) (tR_gone h he hv) hb
    have d1 : σ1 12 e = nI d := by rw [g4.1 12 (by decide) (by decide) (by decide)]; exact t1
    have d2 : τ1 10 e = nI d := by rw [g5.1 10 (by decide) (by decide)]; exact t2
    obtain ⟨r, σ2, τ2, k1, k2, k3, k4, k5, k6⟩ := p_doit g3 hd
    refine ⟨0, σ2, τ2, ?_, ?_, k3, gC_t (gC_t (gC_s (by omega)) (hC_g g4)) (fC_g k4), gM_t (gM_t (gM_s (by omega)) (hM_g g5)) (fM_g k5), ?_, ?_⟩
    · rw [g1, zb_some]
      simp only [d1, k1, zb_some]
    · rw [g2, zb_some]
      simp only [d2, k2, zb_some]
    · rw [k4.1 15 (by decide) (by decide) (by decide) (by decide) (by decide) (by decide) (by decide) (by decide), g4.1 15 (by decide) (by decide) (by decide)]
      rfl
    · intro x hx
      rw [k4.1 33 (by decide) (by decide) (by decide) (by decide) (by decide) (by decide) (by decide) (by decide), g4.1 33 (by decide) (by decide) (by decide)]
      exact up_ne hx
  unfold f_X7_bringEvent b_X8_goTime_L90 j_X7_bringEvent_J25
  simp only [if_neg c0, m0, if_true, zI, hix, hm, zA, iA, hg, v1, v0, zl_eq, nI_1, ← t5]
  rcases t6 with h6 | h6
  · simp only [h6, if_true]
    exact fin 1 (Or.inr rfl)
  · have h6n : ¬ σ 14 e = 0 := by rw [h6]; exact n10
    simp only [if_neg h6n]
    exact fin 0 (Or.inl rfl)
def eR (N : Nat → Nat) (n p : Nat) (du wt : Nat → Nat) (G : Nat → Int32) (σ0 τ0 : zS) (pos i : Nat) (σ' τ' : zS) : Prop := i ≤ n ∧ tR N i σ' τ' ∧ gC σ0 σ' ∧ gM τ0 τ' ∧ σ' 15 = σ0 15 ∧ (σ' 0 8 = 0 → (∀ x, x < i → 12 * wt (du x) + du x < pos) ∧ (∀ x, i ≤ x → x < n → pos ≤ 12 * wt (du x) + du x) ∧ ∀ e, e < N 4 → pos ≤ 12 * wt e + e → σ' 33 e = G e) ∧ ∀ f, z_loop (b_X7_bringEvents_L40 (nI p) (nI n)) (f + i) (0, σ0) = z_loop (b_X7_bringEvents_L40 (nI p) (nI n)) f (nI i, σ')
theorem eR_end {N : Nat → Nat} {n p pos pos' i : Nat} {du wt : Nat → Nat} {G : Nat → Int32} {σ0 τ0 σ' τ' : zS} (h : eR N n p du wt G σ0 τ0 pos i σ' τ') (h8 : ¬ σ' 0 8 = 0) : eR N n p du wt G σ0 τ0 pos' i σ' τ' := by
  obtain ⟨h1, h2, h3, h4, h5, -, h7⟩ := h
  exact ⟨h1, h2, h3, h4, h5, fun q => absurd q h8, h7⟩
theorem eR_skip {N : Nat → Nat} {n p k e i : Nat} {du wt : Nat → Nat} {G : Nat → Int32} {σ0 τ0 σ' τ' : zS} (hN : N 4 ≤ 12) (hE : eL wt G p (N 4) n du) (he : e < N 4) (hno : ¬ (G e = 0 ∧ wt e = k)) (h : eR N n p du wt G σ0 τ0 (12 * k + e) i σ' τ') : eR N n p du wt G σ0 τ0 (12 * k + (e + 1)) i σ' τ' := by
  obtain ⟨h1, h2, h3, h4, h5, h6, h7⟩ := h
  refine ⟨h1, h2, h3, h4, h5, fun h0 => ?_, h7⟩
  obtain ⟨q1, q2, q3⟩ := h6 h0
  refine ⟨fun x hx => by have := q1 x hx; omega, fun x hx hxn => ?_, fun e' he' hp => q3 e' he' (by omega)⟩
  have q4 := q2 x hx hxn
  obtain ⟨d1, d2, d3⟩ := hE.2.1 x hxn
  by_cases heq : 12 * wt (du x) + du x = 12 * k + e
  · exfalso
    have hd : du x = e := by omega
    have hw : wt (du x) = k := by omega
    rw [hd] at d2 hw
    exact hno ⟨d2, hw⟩
  · omega
theorem eR_row {N : Nat → Nat} {n p k i : Nat} {du wt : Nat → Nat} {G : Nat → Int32} {σ0 τ0 σ' τ' : zS} (hN : N 4 ≤ 12) (hE : eL wt G p (N 4) n du) (h : eR N n p du wt G σ0 τ0 (12 * k + N 4) i σ' τ') : eR N n p du wt G σ0 τ0 (12 * (k + 1)) i σ' τ' := by
  obtain ⟨h1, h2, h3, h4, h5, h6, h7⟩ := h
  refine ⟨h1, h2, h3, h4, h5, fun h0 => ?_, h7⟩
  obtain ⟨q1, q2, q3⟩ := h6 h0
  refine ⟨fun x hx => by have := q1 x hx; omega, fun x hx hxn => ?_, fun e' he' hp => q3 e' he' (by omega)⟩
  have q4 := q2 x hx hxn
  have d1 := (hE.2.1 x hxn).1
  omega
/-- the events of one minute -/
theorem p_eIn {N : Nat → Nat} {n p k i c : Nat} {du wt mn : Nat → Nat} {G : Nat → Int32} {σ0 τ0 σ' τ' : zS} {c1 c2 c3 c4 : Int32} (hN : N 4 ≤ 12) (hE : eL wt G p (N 4) n du) (hD : ∀ i, i < n → σ0 15 i = nI (du i)) (hmn : ∀ e, e < N 4 → τ0 11 e = nI (mn e) ∧ mn e < 1440) (hc : c < 1440) (hk : k ≤ p) (hwt : ∀ e, e < N 4 → (mn e = c ↔ wt e = k)) (h : eR N n p du wt G σ0 τ0 (12 * k) i σ' τ') : ∃ b1 : Int32 × zS, z_loop (b_X8_goTime_L90 c1 c2 c3 c4 (nI c)) zfuel (0, τ') = some b1 ∧ ∃ i1 σ1, eR N n p du wt G σ0 τ0 (12 * (k + 1)) i1 σ1 b1.2 := by
  refine lp_1 (fun e (b : Int32 × zS) => b.1 = nI e ∧ ∃ i1 σ1, eR N n p du wt G σ0 τ0 (12 * k + e) i1 σ1 b.2) _ (N 4) ?_ zfuel 0 (0, τ') (Nat.zero_le _) ⟨rfl, i, σ', h⟩ (by show N 4 - 0 < 2048; omega)
  intro e ⟨x, τ1⟩ he ⟨ex, i1, σ1, hR⟩
  dsimp only at ex hR
  subst ex
  obtain ⟨h1, h2, h3, h4, h5, h6, h7⟩ := id hR
  obtain ⟨⟨⟨_, _, _, _, u4, _, _⟩, -⟩, ⟨_, _, _, _, _, _, _, qg⟩, h26, h27, h01, -⟩ := id h2
  by_cases hin : e = N 4
  · subst hin
    right
    have eM : τ1 0 15 ≤ nI (N 4) := by rw [u4.2.2]; exact nI_le (Nat.le_refl _) (by omega)
    unfold b_X8_goTime_L90
    dsimp only
    rw [if_pos eM]
    exact ⟨_, rfl, i1, σ1, eR_row hN hE hR⟩
  · have hlt : e < N 4 := by omega
    have h12 : e < 12 := by omega
    have cM : ¬ τ1 0 15 ≤ nI e := by rw [u4.2.2]; exact nI_ge hlt (by omega)
    have hix : (nI e).toNatClampNeg = e := ix_n (by omega)
    have zI : ∀ {α : Type} (e' : Option α), zg (z_in (nI e) 12) e' = e' := fun e' => zg_n h12 (by decide) e'
    have zA : ∀ {e' : Option (Bool × (Int32 × zS))}, zg (z_in (35 + nI e) 192) e' = e' := zgM (b := 35) 35 rfl (show 35 + e < 192 by omega) (by decide)
    have iA : (35 + nI e).toNatClampNeg = 35 + e := ixM (b := 35) 35 rfl (show 35 + e ≤ 100000 by omega)
    rcases h01 with h0 | h0
    · left
      have m0 : τ1 0 27 = 0 := h27.symm.trans h0
      obtain ⟨q1, q2, q3⟩ := h6 h0
      have u11 : τ1 11 e = nI (mn e) := by rw [h4.1 11 (by decide) (by decide) (by decide) (by decide) (by decide)]; exact (hmn e hlt).1
      have hm1 := (hmn e hlt).2
      obtain ⟨g1, g2⟩ := (qg e h12).1 hlt
      have g1 : σ1 33 e = τ1 1 (35 + e) := g1
      have g2 : σ1 33 e = 0 ∨ σ1 33 e = 1 := g2
      by_cases hm : mn e = c
      · have hw : wt e = k := (hwt e hlt).mp hm
        have hGe : σ1 33 e = G e := q3 e hlt (by omega)
        by_cases hg : G e = 0
        · obtain ⟨x, hx, hxe⟩ := hE.2.2.2 e hlt hg (by omega)
          have hxi : x = i1 := by
            rcases Nat.lt_trichotomy x i1 with hh | hh | hh
            · have := q1 x hh
              rw [hxe] at this
              omega
            · exact hh
            · have w1 := hE.2.2.1 i1 x hh hx
              have w2 := q2 i1 (Nat.le_refl _) (by omega)
              rw [hxe] at w1
              omega
          subst hxi
          have hn4 := hE.1
          have hg0 : τ1 1 (35 + e) = 0 := by rw [← g1, hGe]; exact hg
          obtain ⟨r, σ2, τ2, e1, e2, e3, e4, e5, e6, e7⟩ := p_event (c1 := c1) (c2 := c2) (c3 := c3) (c4 := c4) (c5 := nI c) h2 (by omega) hlt h0 (by rw [u11, hm]) hg0
          refine ⟨_, e2, hlt, rfl, x + 1, σ2, by omega, e3, gC_t h3 e4, gM_t h4 e5, e6.trans h5, fun h0' => ⟨fun y hy => ?_, fun y hy hyn => ?_, fun y hy hyp => ?_⟩, fun f => ?_⟩
          · by_cases hyx : y = x
            · rw [hyx, hxe]; omega
            · have := q1 y (by omega); omega
          · have w1 := hE.2.2.1 x y (by omega) hyn
            rw [hxe] at w1
            omega
          · have hye : y ≠ e := by rintro rfl; omega
            rw [e7 y hye]
            exact q3 y hy (by omega)
          · have hrun := h7 (f + 1)
            rw [show f + (x + 1) = f + 1 + x by omega, hrun, z_loop]
            have d15 : σ1 15 x = nI e := by rw [h5, hD x hx, hxe]
            have hcn : ¬ nI n ≤ nI x := nI_ge hx (by omega)
            have hb : b_X7_bringEvents_L40 (nI p) (nI n) (nI x, σ1) = some (true, (nI (x + 1), σ2)) := by
              unfold b_X7_bringEvents_L40
              simp only [if_neg hcn, h0, if_true, zg_n (show x < 12 by omega) (show 12 ≤ 100000 by decide), ix_n (show x ≤ 100000 by omega), d15, e1, zb_some, nI_1]
            rw [hb]
            rfl
        · have hg1 : ¬ τ1 1 (35 + e) = 0 := by rw [← g1, hGe]; exact hg
          refine ⟨(nI (e + 1), τ1), ?_, hlt, rfl, i1, σ1, eR_skip hN hE hlt (fun q => hg q.1) hR⟩
          unfold b_X8_goTime_L90
          simp only [if_neg cM, m0, if_true, zI, hix, u11, hm, zA, iA, if_neg hg1, nI_1]
      · have hmc : ¬ nI (mn e) = nI c := fun q => hm (n_eqI (by omega) (by omega) q)
        refine ⟨(nI (e + 1), τ1), ?_, hlt, rfl, i1, σ1, eR_skip hN hE hlt (fun q => hm ((hwt e hlt).mpr q.2)) hR⟩
        unfold b_X8_goTime_L90
        simp only [if_neg cM, m0, if_true, zI, hix, u11, if_neg hmc, nI_1]
    · right
      have n1 : ¬ σ1 0 8 = 0 := by rw [h0]; exact n10
      have n2 : ¬ τ1 0 27 = 0 := fun q => n1 (h27.trans q)
      refine ⟨(nI e, τ1), ?_, i1, σ1, eR_end hR n1⟩
      unfold b_X8_goTime_L90
      simp only [if_neg cM, if_neg n2]
/-- all the minutes of a turn -/
theorem p_eOut {N : Nat → Nat} {n p t : Nat} {du mn : Nat → Nat} {σ0 τ0 : zS} {c2 : Int32} (hp : p ≤ 660) (ht : t < 1440) (hE : eL (fun e => p_wait (mn e) t) (σ0 33) p (N 4) n du) (hD : ∀ i, i < n → σ0 15 i = nI (du i)) (hmn : ∀ e, e < N 4 → τ0 11 e = nI (mn e) ∧ mn e < 1440) (h : tR N 0 σ0 τ0) : ∃ a1 b1 : Int32 × zS, z_loop (b_X7_bringEvents_L40 (nI p) (nI n)) zfuel (0, σ0) = some a1 ∧ z_loop (b_X8_goTime_L64 (nI p) c2 (nI t)) zfuel (1, τ0) = some b1 ∧ tR N (N 4) a1.2 b1.2 ∧ gC σ0 a1.2 ∧ gM τ0 b1.2 := by
  have hN : N 4 ≤ 12 := h.1.1.2.2.2.2.1.1
  have hwp : ∀ e, e < N 4 → 1 ≤ p_wait (mn e) t := by
    intro e he
    have := (hmn e he).2
    unfold p_wait
    split <;> omega
  obtain ⟨b1, l1, i, σ', pos, hR, hend⟩ : ∃ b1 : Int32 × zS, z_loop (b_X8_goTime_L64 (nI p) c2 (nI t)) zfuel (1, τ0) = some b1 ∧ ∃ i σ' pos, eR N n p du (fun e => p_wait (mn e) t) (σ0 33) σ0 τ0 pos i σ' b1.2 ∧ (σ' 0 8 = 0 → i = n) := by
    refine lp_1 (fun k (b : Int32 × zS) => 1 ≤ k ∧ b.1 = nI k ∧ ∃ i σ', eR N n p du (fun e => p_wait (mn e) t) (σ0 33) σ0 τ0 (12 * k) i σ' b.2) _ (p + 1) ?_ zfuel 1 (1, τ0) (by omega) ⟨Nat.le_refl _, rfl, 0, σ0, Nat.zero_le _, h, gC_rf _, gM_rf _, rfl, fun _ => ⟨fun x hx => by omega, fun x hx hxn => ?_, fun e he _ => rfl⟩, fun f => rfl⟩ (by show p + 1 - 1 < 2048; omega)
    · intro k ⟨x, τ1⟩ hk ⟨hk1, ex, i, σ1, hR⟩
      dsimp only at ex hR
      subst ex
      obtain ⟨h1, h2, h3, h4, h5, h6, h7⟩ := id hR
      obtain ⟨-, -, h26, h27, h01, -⟩ := id h2
      by_cases hkp : k = p + 1
      · right
        subst hkp
        refine ⟨(nI (p + 1), τ1), ?_, i, σ1, _, hR, fun h0 => ?_⟩
        · unfold b_X8_goTime_L64
          have hc : nI p < nI (p + 1) := nI_lt (by omega) (by omega)
          simp only [if_pos hc]
        · obtain ⟨q1, q2, q3⟩ := h6 h0
          by_cases hin : i = n
          · exact hin
          · exfalso
            have w1 := q2 i (Nat.le_refl _) (by omega)
            obtain ⟨w2, w3, w4⟩ := hE.2.1 i (by omega)
            dsimp only at w1 w4
            omega
      · have hkp' : k ≤ p := by omega
        have hc : ¬ nI p < nI k := nI_nlt hkp' (by omega)
        rcases h01 with h0 | h0
        · left
          have m0 : τ1 0 27 = 0 := h27.symm.trans h0
          have e5 : (nI t + nI k) - (nI t + nI k) / 1440 * 1440 = nI ((t + k) % 1440) := by
            rw [nI_add]
            exact pk_rem (d := 1440) (by omega) (by decide) (by decide)
          obtain ⟨b1, g1, i1, σ2, g2⟩ := p_eIn (c := (t + k) % 1440) (c1 := nI p) (c2 := c2) (c3 := nI t) (c4 := nI k) hN hE hD hmn (Nat.mod_lt _ (by decide)) hkp' (fun e he => by
            have hm := (hmn e he).2
            unfold p_wait
            split <;> omega) hR
          refine ⟨(nI (k + 1), b1.2), ?_, by omega, by omega, rfl, i1, σ2, g2⟩
          unfold b_X8_goTime_L64
          simp only [if_neg hc, m0, if_true, e5, g1, Option.bind_some, nI_1]
        · right
          have n1 : ¬ σ1 0 8 = 0 := by rw [h0]; exact n10
          have n2 : ¬ τ1 0 27 = 0 := fun q => n1 (h27.trans q)
          refine ⟨(nI k, τ1), ?_, i, σ1, _, hR, fun q => absurd q n1⟩
          unfold b_X8_goTime_L64
          simp only [if_neg hc, if_neg n2]
    · have w := (hE.2.1 x hxn).1
      have w2 := hwp _ w
      dsimp only
      omega
  obtain ⟨h1, h2, h3, h4, h5, h6, h7⟩ := hR
  have hn4 := hE.1
  refine ⟨(nI i, σ'), b1, ?_, l1, tR_le h2 (by omega), h3, h4⟩
  have hz : zfuel = (2047 - i) + 1 + i := by show 2048 = _; omega
  rw [hz, h7, z_loop]
  have hb : b_X7_bringEvents_L40 (nI p) (nI n) (nI i, σ') = some (false, (nI i, σ')) := by
    unfold b_X7_bringEvents_L40
    by_cases h0 : σ' 0 8 = 0
    · have := hend h0
      subst this
      have hc : nI i ≤ nI i := nI_le (Nat.le_refl _) (by omega)
      simp only [if_pos hc]
    · by_cases hc : nI n ≤ nI i
      · simp only [if_pos hc]
      · simp only [if_neg hc, if_neg h0]
  rw [hb]
  rfl
