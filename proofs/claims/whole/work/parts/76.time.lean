theorem p_goOn {p t : Nat} {σ : zS} (hp : p ≤ 660) (ht : t < 1440) (h : σ 24 0 = nI t) : ∃ σ1, f_X4_goOn (nI p) σ = some (0, σ1) ∧ (∀ k, k ≠ 24 → σ1 k = σ k) ∧ (∀ j, j ≠ 0 → j ≠ 1 → σ1 24 j = σ 24 j) ∧ σ1 24 0 = nI ((t + p) % 1440) ∧ σ1 24 1 = σ 24 1 + nI ((t + p) / 1440) := by
  have u0 : zs σ 24 0 (nI (t + p)) 24 0 = nI (t + p) := by rw [zs_at, up_at]
  unfold f_X4_goOn
  simp only [h, nI_add, zl_eq, u0]
  by_cases hc : t + p < 1440
  · rw [if_pos (show nI (t + p) < 1440 from nI_lt (b := 1440) hc (by decide))]
    refine ⟨_, rfl, fun k hk => zs_ne hk, fun j h0 h1 => up_ne h0, ?_, ?_⟩
    · rw [Nat.mod_eq_of_lt hc]; exact u0
    · rw [Nat.div_eq_of_lt hc]
      show upd (σ 24) 0 (nI (t + p)) 1 = σ 24 1 + 0
      rw [up_ne (by decide), Int32.add_zero]
  · rw [if_neg (show ¬ nI (t + p) < 1440 from nI_nlt (b := 1440) (by omega) (by omega))]
    have e1 : nI (t + p) - 1440 = nI ((t + p) % 1440) := by
      rw [show nI (t + p) - 1440 = nI (t + p - 1440) from pk_sub (b := 1440) (by omega)]
      rw [show (t + p) % 1440 = t + p - 1440 by omega]
    have e2 : (t + p) / 1440 = 1 := by omega
    rw [e1, e2]
    refine ⟨_, rfl, fun k hk => by rw [zs_ne hk, zs_ne hk, zs_ne hk], fun j h0 h1 => ?_, ?_, ?_⟩
    · show upd (upd (upd (σ 24) 0 (nI (t + p))) 0 (nI ((t + p) % 1440))) 1 (upd (upd (σ 24) 0 (nI (t + p))) 0 (nI ((t + p) % 1440)) 1 + 1) j = _
      rw [up_ne h1, up_ne h0, up_ne h0]
    · show upd (upd (upd (σ 24) 0 (nI (t + p))) 0 (nI ((t + p) % 1440))) 1 (upd (upd (σ 24) 0 (nI (t + p))) 0 (nI ((t + p) % 1440)) 1 + 1) 0 = _
      rw [up_ne (by decide), up_at]
    · show upd (upd (upd (σ 24) 0 (nI (t + p))) 0 (nI ((t + p) % 1440))) 1 (upd (upd (σ 24) 0 (nI (t + p))) 0 (nI ((t + p) % 1440)) 1 + 1) 1 = _
      rw [up_at, up_ne (by decide), up_ne (by decide)]
      rfl
theorem qA_t {N : Nat → Nat} {m m' : Nat → Nat → Int32} {g g' : Nat → Int32} (hN : N 2 ≤ 4) (h : qA N m g) (hj : ∀ j, 1 ≤ j → j < 10 → m' j = m j) (h5 : m' 0 5 = m 0 5) (hT : qT m' g') (hg : ∀ j, 4 ≤ j → g' j = g j) : qA N m' g' := by
  obtain ⟨qt, ⟨k, h1, h2, h3, h4⟩, qc, qd, qw, ql, qo, qg⟩ := h
  have e1 := hj 1 (by decide) (by decide)
  have e2 := hj 2 (by decide) (by decide)
  have e3 := hj 3 (by decide) (by decide)
  have e4 := hj 4 (by decide) (by decide)
  have e5 := hj 5 (by decide) (by decide)
  have e6 := hj 6 (by decide) (by decide)
  have e7 := hj 7 (by decide) (by decide)
  have e8 := hj 8 (by decide) (by decide)
  have e9 := hj 9 (by decide) (by decide)
  refine ⟨hT, ⟨k, h1, h5.trans h2, (hg 71 (by decide)).trans h3, fun i hi => ?_⟩, ?_, ?_, ?_, ?_, ?_, ?_⟩
  · rw [e1, e2, hg _ (by omega), hg _ (by omega)]; exact h4 i hi
  · intro c hc; rw [e3, hg _ (by omega)]; exact qc c hc
  · intro c hc; rw [e4, hg _ (by omega)]; exact qd c hc
  · intro c hc; rw [e5, e6, hg _ (by omega), hg _ (by omega)]; exact qw c hc
  · intro c hc; rw [e7, hg _ (by omega)]; exact ql c hc
  · intro c hc; rw [e8, hg _ (by omega)]; exact qo c hc
  · intro c hc; rw [e9, hg _ (by omega)]; exact qg c hc
/-- part (a) whole -/
theorem p_events {N : Nat → Nat} {σ τ : zS} (h : tR N 0 σ τ) : ∃ (r r' : Int32) (σ1 τ1 : zS), f_X7_bringEvents σ = some (r, σ1) ∧ f_X8_goTime τ = some (r', τ1) ∧ tR N (N 4) σ1 τ1 ∧ gC σ σ1 ∧ gM τ τ1 := by
  obtain ⟨hS, hA, h26, h27, h01, k, hk, k1, k2⟩ := id h
  obtain ⟨⟨s0, s1, s2, s3, s4, s5, s6⟩, hDo, hDe, hLe, hEv, hTi, hDa, q, hq1, hq2, c3, d3⟩ := id hS
  obtain ⟨⟨t, ht, c0, d0⟩, c1, c2, s, hs, c4, d4⟩ := hA.1
  have c0 : σ 24 0 = nI t := c0
  have c1 : σ 24 1 = τ 1 1 := c1
  have c2 : σ 24 2 = τ 1 2 := c2
  have c4 : σ 24 4 = nI s := c4
  have hp : q + s ≤ 660 := by omega
  have hmn : ∀ e, e < N 4 → σ 13 e = nI (σ 13 e).toNatClampNeg ∧ (σ 13 e).toNatClampNeg < 1440 ∧ τ 11 e = nI (σ 13 e).toNatClampNeg := by
    intro e he
    obtain ⟨⟨d, m, -, hm, -, -, e1, e2⟩, -⟩ := hEv e he
    have e3 : (σ 13 e).toNatClampNeg = m := by rw [e1]; exact ix_n (by omega)
    rw [e3]
    exact ⟨e1, hm, e2⟩
  obtain ⟨n, du, σ3, g1, g2, g3, g4⟩ := p_line (σ := zs σ 24 4 0) (M := N 4) (p := q + s) (t := t) (mn := fun e => (σ 13 e).toNatClampNeg) s4.1 hp ht s4.2.1 c0 (fun e he => ⟨(hmn e he).1, (hmn e he).2.1⟩)
  have e24 : σ3 24 = upd (σ 24) 4 0 := g2 24 (by decide) (by decide)
  obtain ⟨σ5, g5, g6, g7, g8, g9⟩ := p_goOn (σ := σ3) (p := q + s) hp ht (by rw [e24]; exact c0)
  have o24 : ∀ j, j ≠ 0 → j ≠ 1 → j ≠ 4 → σ5 24 j = σ 24 j := fun j x0 x1 x4 => by rw [g7 j x0 x1, e24]; exact up_ne x4
  have o4 : σ5 24 4 = 0 := by rw [g7 4 (by decide) (by decide), e24]; exact up_at
  have o1 : σ5 24 1 = σ 24 1 + nI ((t + (q + s)) / 1440) := by
    rw [g9, e24]
    congr 1
  have oth : ∀ x, x ≠ 15 → x ≠ 16 → x ≠ 24 → σ5 x = σ x := fun x x0 x1 x2 => by rw [g6 x x2, g2 x x0 x1]; exact zs_ne x2
  have hT1 : (t + (q + s)) % 1440 < 1440 := Nat.mod_lt _ (by decide)
  have e0z : ((0 : Int32).toNatClampNeg) = 0 := by decide
  have e1z : ((1 : Int32).toNatClampNeg) = 1 := by decide
  have e3z : ((3 : Int32).toNatClampNeg) = 3 := by decide
  have z0 : z_in (0 : Int32) 192 := by decide
  have z1 : z_in (1 : Int32) 192 := by decide
  have z3 : z_in (3 : Int32) 192 := by decide
  have ed : nI (t + (q + s)) / 1440 = nI ((t + (q + s)) / 1440) := pk_div (d := 1440) (by omega) (by decide) (by decide)
  have er : nI (t + (q + s)) - nI ((t + (q + s)) / 1440) * 1440 = nI ((t + (q + s)) % 1440) := by
    rw [← ed]
    exact pk_rem (d := 1440) (by omega) (by decide) (by decide)
  have hM : f_X8_goTime τ = (z_loop (b_X8_goTime_L64 (nI (q + s)) (τ 1 1) (nI t)) zfuel (1, zs (zs (zs τ 1 3 0) 1 0 (nI ((t + (q + s)) % 1440))) 1 1 (τ 1 1 + nI ((t + (q + s)) / 1440)))).bind fun a35 => some (0, a35.2) := by
    unfold f_X8_goTime
    simp only [zg_t z0, zg_t z1, zg_t z3, e0z, e1z, e3z, zl_eq, d0, d3, d4, nI_add, er, ed]
  have hgC : gC σ σ5 := ⟨fun x x0 x1 x2 x3 x4 x5 => oth x x2 x3 (by omega), o24 3 (by decide) (by decide) (by decide)⟩
  have hgM : gM τ (zs (zs (zs τ 1 3 0) 1 0 (nI ((t + (q + s)) % 1440))) 1 1 (τ 1 1 + nI ((t + (q + s)) / 1440))) := gM_t (gM_t (gM_s (by omega)) (gM_s (by omega))) (gM_s (by omega))
  have hR5 : tR N 0 σ5 (zs (zs (zs τ 1 3 0) 1 0 (nI ((t + (q + s)) % 1440))) 1 1 (τ 1 1 + nI ((t + (q + s)) / 1440))) := by
    refine ⟨pSt_g hS hgC hgM, ?_, h26, ?_, ?_, k, hk, ?_, k2⟩
    · refine qA_t s2.1 hA (fun j h1 h2 => oth (24 + j) (by omega) (by omega) (by omega)) (o24 5 (by decide) (by decide) (by decide)) ⟨⟨(t + (q + s)) % 1440, hT1, g8, ?_⟩, ?_, ?_, 0, by omega, o4, ?_⟩ (fun j hj => ?_)
      · show upd (upd (upd (τ 1) 3 0) 0 (nI ((t + (q + s)) % 1440))) 1 (τ 1 1 + nI ((t + (q + s)) / 1440)) 0 = _
        rw [up_ne (by decide), up_at]
      · show σ5 24 1 = upd (upd (upd (τ 1) 3 0) 0 (nI ((t + (q + s)) % 1440))) 1 (τ 1 1 + nI ((t + (q + s)) / 1440)) 1
        rw [up_at, o1, c1]
      · show σ5 24 2 = upd (upd (upd (τ 1) 3 0) 0 (nI ((t + (q + s)) % 1440))) 1 (τ 1 1 + nI ((t + (q + s)) / 1440)) 2
        rw [up_ne (by decide), up_ne (by decide), up_ne (by decide), o24 2 (by decide) (by decide) (by decide)]
        exact c2
      · show upd (upd (upd (τ 1) 3 0) 0 (nI ((t + (q + s)) % 1440))) 1 (τ 1 1 + nI ((t + (q + s)) / 1440)) 3 = _
        rw [up_ne (by decide), up_ne (by decide), up_at]
        rfl
      · show upd (upd (upd (τ 1) 3 0) 0 (nI ((t + (q + s)) % 1440))) 1 (τ 1 1 + nI ((t + (q + s)) / 1440)) j = _
        rw [up_ne (by omega), up_ne (by omega), up_ne (by omega)]
    · rw [oth 0 (by decide) (by decide) (by decide)]
      exact h27
    · rw [oth 0 (by decide) (by decide) (by decide)]
      exact h01
    · rw [o24 5 (by decide) (by decide) (by decide)]
      exact k1
  have e15 : σ5 15 = σ3 15 := g6 15 (by decide)
  have e33 : σ5 33 = (zs σ 24 4 0) 33 := oth 33 (by decide) (by decide) (by decide)
  obtain ⟨a1, b1, l1, l2, l3, l4, l5⟩ := p_eOut (c2 := τ 1 1) (mn := fun e => (σ 13 e).toNatClampNeg) hp ht (by rw [e33]; exact g3) (fun i hi => by rw [e15]; exact g4 i hi) (fun e he => ⟨by
      rw [hgM.1 11 (by decide) (by decide) (by decide) (by decide) (by decide)]
      exact (hmn e he).2.2, (hmn e he).2.1⟩) hR5
  refine ⟨0, 0, a1.2, b1.2, ?_, ?_, l3, gC_t hgC l4, gM_t hgM l5⟩
  · unfold f_X7_bringEvents
    simp only [c3, c4, nI_add, zl_eq, g1, zb_some, g5, l1, Option.bind_some]
  · rw [hM, l2, Option.bind_some]
