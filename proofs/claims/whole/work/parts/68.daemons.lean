def pF (pr : Nat → Nat) (p i : Nat) : Nat → Bool := fun d => decide (pr d < p) || (decide (pr d = p) && decide (d < i))
theorem pF_up {pr : Nat → Nat} {p i : Nat} : ∀ d, pF pr p i d = true → pF pr p (i + 1) d = true := by
  intro d h
  simp only [pF, Bool.or_eq_true, Bool.and_eq_true, decide_eq_true_eq] at h ⊢
  omega
theorem pF_out {pr : Nat → Nat} {p i : Nat} : ∀ d, pF pr p i d = true → pF pr (p + 1) 0 d = true := by
  intro d h
  simp only [pF, Bool.or_eq_true, Bool.and_eq_true, decide_eq_true_eq] at h ⊢
  omega
/-- part (c): the daemons of one priority -/
theorem p_dOf {N : Nat → Nat} {B p : Nat} {σ τ σ0 τ0 : zS} {pr : Nat → Nat} (hB : B ≤ 24) (hp : p ≤ 9) (hpr : ∀ d, d < N 6 → pr d ≤ 9 ∧ σ0 23 d = nI (pr d) ∧ τ0 17 d = nI (pr d)) (h : tR N (B + cnt (pF pr p 0) (N 6)) σ τ) (hc0 : gC σ0 σ) (hm0 : gM τ0 τ) : ∃ (a1 b1 : Int32 × zS), z_loop (b_X7_runDaemonsOf_L2 (nI p)) zfuel (0, σ) = some a1 ∧ z_loop (b_X8_goDaemons_L10 (nI p)) zfuel (0, τ) = some b1 ∧ tR N (B + cnt (pF pr (p + 1) 0) (N 6)) a1.2 b1.2 ∧ gC σ0 a1.2 ∧ gM τ0 b1.2 := by
  obtain ⟨⟨⟨s0, s1, s2, s3, s4, s5, s6⟩, -⟩, -⟩ := id h
  have h6 := s6.1
  refine lp_2 (fun i (a : Int32 × zS) (b : Int32 × zS) => a.1 = nI i ∧ b.1 = nI i ∧ tR N (B + cnt (pF pr p i) (N 6)) a.2 b.2 ∧ gC σ0 a.2 ∧ gM τ0 b.2) (fun a b => tR N (B + cnt (pF pr (p + 1) 0) (N 6)) a.2 b.2 ∧ gC σ0 a.2 ∧ gM τ0 b.2) (N 6) ?_ zfuel 0 (0, σ) (0, τ) (Nat.zero_le _) ⟨rfl, rfl, h, hc0, hm0⟩ (by show N 6 - 0 < 2048; omega)
  intro i ⟨x, σ'⟩ ⟨y, τ'⟩ hi ⟨ex, ey, hR, hc, hm⟩
  dsimp only at ex ey hR hc hm
  subst ex; subst ey
  obtain ⟨⟨⟨_, _, _, _, _, _, u6⟩, _, _, _, _, _, hDa, _⟩, ⟨_, _, _, _, _, _, qo, _⟩, h26, h27, h01, -⟩ := id hR
  have hout := cnt_mono (pF_out (pr := pr) (p := p) (i := i)) (N 6)
  by_cases hin : i = N 6
  · subst hin
    right
    have eC : σ' 21 0 ≤ nI (N 6) := by rw [u6.2.1]; exact nI_le (Nat.le_refl _) (by omega)
    have eM : τ' 0 23 ≤ nI (N 6) := by rw [u6.2.2]; exact nI_le (Nat.le_refl _) (by omega)
    unfold b_X7_runDaemonsOf_L2 b_X8_goDaemons_L10
    dsimp only
    rw [if_pos eC, if_pos eM]
    exact ⟨_, _, rfl, rfl, tR_le hR (by omega), hc, hm⟩
  · have hlt : i < N 6 := by omega
    have h12 : i < 12 := by omega
    have cC : ¬ σ' 21 0 ≤ nI i := by rw [u6.2.1]; exact nI_ge hlt (by omega)
    have cM : ¬ τ' 0 23 ≤ nI i := by rw [u6.2.2]; exact nI_ge hlt (by omega)
    have hix : (nI i).toNatClampNeg = i := ix_n (by omega)
    have zM : ∀ {e : Option (Bool × (Int32 × zS))}, zg (z_in (59 + nI i) 192) e = e := zgM (b := 59) 59 rfl (show 59 + i < 192 by omega) (by decide)
    have iM : (59 + nI i).toNatClampNeg = 59 + i := ixM (b := 59) 59 rfl (show 59 + i ≤ 100000 by omega)
    have zI : ∀ {α : Type} (e : Option α), zg (z_in (nI i) 12) e = e := fun e => zg_n h12 (by decide) e
    have hup := cnt_mono (pF_up (pr := pr) (p := p) (i := i)) (N 6)
    rcases h01 with h0 | h1
    · left
      have m0 : τ' 0 27 = 0 := h27.symm.trans h0
      obtain ⟨p1, p2, p3⟩ := hpr i hlt
      have p2' : σ' 23 i = nI (pr i) := by rw [hc.1 23 (by decide) (by decide) (by decide) (by decide) (by decide) (by decide)]; exact p2
      have p3' : τ' 17 i = nI (pr i) := by rw [hm.1 17 (by decide) (by decide) (by decide) (by decide) (by decide)]; exact p3
      obtain ⟨o1, o2⟩ := (qo i h12).1 hlt
      have o1 : σ' 32 i = τ' 1 (59 + i) := o1
      have o2 : σ' 32 i = 0 ∨ σ' 32 i = 1 := o2
      unfold b_X7_runDaemonsOf_L2 b_X8_goDaemons_L10
      dsimp only
      rw [if_neg cC, if_neg cM, if_pos h0, if_pos m0]
      simp only [zI, hix, zM, iM, p2', p3', ← o1]
      by_cases hq : pr i = p
      · have hqn : nI (pr i) = nI p := by rw [hq]
        rw [if_pos hqn, if_pos hqn]
        rcases o2 with o2 | o2
        · have n01 : ¬ σ' 32 i = 1 := by rw [o2]; decide
          rw [if_pos o2, if_neg n01, nI_1]
          exact ⟨_, _, rfl, rfl, hlt, rfl, rfl, tR_le hR (by omega), hc, hm⟩
        · have n00 : ¬ σ' 32 i = 0 := by rw [o2]; decide
          rw [if_neg n00, if_pos o2]
          have hone := cnt_one (pF_up (pr := pr) (p := p) (i := i)) (by simp only [pF, Bool.or_eq_true, Bool.and_eq_true, decide_eq_true_eq]; omega) (by simp only [pF, Bool.or_eq_true, Bool.and_eq_true, decide_eq_true_eq]; omega) (N 6) hlt
          have hcl := cnt_le (pF pr p (i + 1)) (N 6)
          obtain ⟨d, q, hd, -, d1, d2, -⟩ := hDa i hlt
          obtain ⟨σ1, τ1, g1, g2, g3, g4, g5⟩ := p_tell 2 (nI i) hR (by omega)
          have d1' : σ1 22 i = nI d := by rw [g4.1 22 (by decide) (by decide) (by decide)]; exact d1
          have d2' : τ1 16 i = nI d := by rw [g5.1 16 (by decide) (by decide)]; exact d2
          obtain ⟨r, σ2, τ2, k1, k2, k3, k4, k5, k6⟩ := p_doit g3 hd
          refine ⟨(nI (i + 1), σ2), (nI (i + 1), τ2), ?_, ?_, hlt, rfl, rfl, tR_le k3 (by omega), gC_t hc (gC_t (hC_g g4) (fC_g k4)), gM_t hm (gM_t (hM_g g5) (fM_g k5))⟩
          · rw [g1, zb_some, d1', k1, zb_some, nI_1]
          · rw [g2, zb_some, d2', k2, zb_some, nI_1]
      · have hqn : ¬ nI (pr i) = nI p := fun e => hq (n_eqI (by omega) (by omega) e)
        rw [if_neg hqn, if_neg hqn, nI_1]
        exact ⟨_, _, rfl, rfl, hlt, rfl, rfl, tR_le hR (by omega), hc, hm⟩
    · right
      have n1 : ¬ σ' 0 8 = 0 := by rw [h1]; exact n10
      have n2 : ¬ τ' 0 27 = 0 := fun q => n1 (h27.trans q)
      unfold b_X7_runDaemonsOf_L2 b_X8_goDaemons_L10
      dsimp only
      rw [if_neg cC, if_neg cM, if_neg n1, if_neg n2]
      exact ⟨_, _, rfl, rfl, tR_le hR (by omega), hc, hm⟩
theorem p_daemons {N : Nat → Nat} {B : Nat} {σ τ : zS} (h : tR N B σ τ) (hB : B ≤ 24) : ∃ (r r' : Int32) (σ1 τ1 : zS), f_X7_runDaemons σ = some (r, σ1) ∧ f_X8_goDaemons τ = some (r', τ1) ∧ tR N (B + N 6) σ1 τ1 ∧ gC σ σ1 ∧ gM τ τ1 := by
  obtain ⟨⟨⟨s0, s1, s2, s3, s4, s5, s6⟩, _, _, _, _, _, hDa, _⟩, -⟩ := id h
  have hpr : ∀ d, d < N 6 → (σ 23 d).toNatClampNeg ≤ 9 ∧ σ 23 d = nI (σ 23 d).toNatClampNeg ∧ τ 17 d = nI (σ 23 d).toNatClampNeg := by
    intro d hd
    obtain ⟨d', q, -, hq, -, -, h1, h2⟩ := hDa d hd
    have e : (σ 23 d).toNatClampNeg = q := by rw [h1]; exact ix_n (by omega)
    rw [e]
    exact ⟨hq, h1, h2⟩
  obtain ⟨a1, b1, l1, l2, hR1, hc1, hm1⟩ : ∃ (a1 b1 : Int32 × zS), z_loop b_X7_runDaemons_L2 zfuel (0, σ) = some a1 ∧ z_loop b_X8_goDaemons_L2 zfuel (0, τ) = some b1 ∧ tR N (B + N 6) a1.2 b1.2 ∧ gC σ a1.2 ∧ gM τ b1.2 := by
    refine lp_2 (fun p (a : Int32 × zS) (b : Int32 × zS) => a.1 = nI p ∧ b.1 = nI p ∧ tR N (B + cnt (pF (fun d => (σ 23 d).toNatClampNeg) p 0) (N 6)) a.2 b.2 ∧ gC σ a.2 ∧ gM τ b.2) (fun a b => tR N (B + N 6) a.2 b.2 ∧ gC σ a.2 ∧ gM τ b.2) 10 ?_ zfuel 0 (0, σ) (0, τ) (Nat.zero_le _) ⟨rfl, rfl, tR_le h (by omega), gC_rf σ, gM_rf τ⟩ (by show 10 - 0 < 2048; omega)
    intro p ⟨x, σ'⟩ ⟨y, τ'⟩ hp ⟨ex, ey, hR, hc, hm⟩
    dsimp only at ex ey hR hc hm
    subst ex; subst ey
    unfold b_X7_runDaemons_L2 b_X8_goDaemons_L2
    dsimp only
    by_cases h10 : p = 10
    · subst h10
      right
      rw [if_pos (show (9 : Int32) < nI 10 by decide), if_pos (show (9 : Int32) < nI 10 by decide)]
      have := cnt_le (pF (fun d => (σ 23 d).toNatClampNeg) 10 0) (N 6)
      exact ⟨_, _, rfl, rfl, tR_le hR (by omega), hc, hm⟩
    · left
      have c9 : ¬ (9 : Int32) < nI p := nI_nlt (a := 9) (by omega) (by decide)
      rw [if_neg c9, if_neg c9]
      obtain ⟨a1, b1, g1, g2, g3, g4, g5⟩ := p_dOf hB (by omega) hpr hR hc hm
      refine ⟨(nI (p + 1), a1.2), (nI (p + 1), b1.2), ?_, ?_, by omega, rfl, rfl, g3, g4, g5⟩
      · unfold f_X7_runDaemonsOf
        rw [g1, Option.bind_some, zb_some, nI_1]
      · rw [g2, Option.bind_some, nI_1]
  refine ⟨0, 0, a1.2, b1.2, ?_, ?_, hR1, hc1, hm1⟩
  · unfold f_X7_runDaemons
    rw [l1, Option.bind_some]
  · unfold f_X8_goDaemons
    rw [l2, Option.bind_some]
