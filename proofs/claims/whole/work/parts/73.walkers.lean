theorem zs_same {σ : zS} {k j : Nat} {v : Int32} (h : σ k j = v) : zs σ k j v = σ := by
  funext x
  by_cases hx : x = k
  · subst hx
    rw [zs_at]
    funext y
    by_cases hy : y = j
    · subst hy; rw [up_at, h]
    · rw [up_ne hy]
  · rw [zs_ne hx]
theorem tR_45 {N : Nat → Nat} {b : Nat} {σ τ σ1 τ1 : zS} (h : tR N b σ τ) (h1 : ∀ k, k ≠ 4 → σ1 k = σ k) (h2 : ∀ k, k ≠ 20 → τ1 k = τ k) : tR N b σ1 τ1 ∧ gC σ σ1 ∧ gM τ τ1 := by
  have g1 : gC σ σ1 := ⟨fun k _ x _ _ _ _ => h1 k x, by rw [h1 24 (by decide)]⟩
  have g2 : gM τ τ1 := ⟨fun k _ _ _ _ x => h2 k x, fun j _ _ _ => by rw [h2 0 (by decide)]⟩
  obtain ⟨hS, hA, h26, h27, h01, k, hk, k1, k2⟩ := h
  refine ⟨⟨pSt_g hS g1 g2, ?_, ?_, ?_, ?_, k, hk, ?_, ?_⟩, g1, g2⟩
  · rw [h2 1 (by decide)]
    exact qA_m hA (fun j hj => h1 (24 + j) (by omega))
  · rw [h2 0 (by decide)]; exact h26
  · rw [h2 0 (by decide), h1 0 (by decide)]; exact h27
  · rw [h1 0 (by decide)]; exact h01
  · rw [h1 24 (by decide)]; exact k1
  · rw [h2 0 (by decide)]; exact k2
theorem tR_place {N : Nat → Nat} {b w a : Nat} {σ τ : zS} (h : tR N b σ τ) (hw : w < N 2) (ha : a < N 0) : tR N b (zs σ 29 w (nI a)) (zs τ 1 (27 + w) (nI a)) := by
  obtain ⟨hS, hA, h26, h27, h01, hk2⟩ := h
  obtain ⟨⟨s0, s1, s2, s3, s4, s5, s6⟩, -⟩ := id hS
  obtain ⟨qt, qr, qc, qd, qw, ql, qo, qg⟩ := hA
  have h4 : w < 4 := by have := s2.1; omega
  exact ⟨hS, ⟨qT_g qt (fun j hj => up_ne (by omega)), qR_g qr (fun j hj => up_ne (by omega)), qC_g qc (fun j hj hj2 => up_ne (by omega)), qD_g qd (fun j hj hj2 => up_ne (by omega)), qW_p s2.1 qw ha rfl rfl hw, qL_g ql (fun j hj hj2 => up_ne (by omega)), qO_g qo (fun j hj hj2 => up_ne (by omega)), qG_g qg (fun j hj hj2 => up_ne (by omega))⟩, h26, h27, h01, hk2⟩
theorem tR_goal {N : Nat → Nat} {b w : Nat} {σ τ : zS} {v : Int32} (h : tR N b σ τ) (hw : w < N 2) (hv : v = -1 ∨ ∃ b, b < N 0 ∧ v = nI b) : tR N b (zs σ 30 w v) (zs τ 1 (31 + w) v) := by
  obtain ⟨hS, hA, h26, h27, h01, hk2⟩ := h
  obtain ⟨⟨s0, s1, s2, s3, s4, s5, s6⟩, -⟩ := id hS
  obtain ⟨qt, qr, qc, qd, qw, ql, qo, qg⟩ := hA
  have h4 : w < 4 := by have := s2.1; omega
  exact ⟨hS, ⟨qT_g qt (fun j hj => up_ne (by omega)), qR_g qr (fun j hj => up_ne (by omega)), qC_g qc (fun j hj hj2 => up_ne (by omega)), qD_g qd (fun j hj hj2 => up_ne (by omega)), qW_u s2.1 qw hv rfl rfl hw, qL_g ql (fun j hj hj2 => up_ne (by omega)), qO_g qo (fun j hj hj2 => up_ne (by omega)), qG_g qg (fun j hj hj2 => up_ne (by omega))⟩, h26, h27, h01, hk2⟩
/-- part (d): a walker goes a step -/
theorem p_walker {N : Nat → Nat} {b w g : Nat} {σ τ : zS} (h : tR N b σ τ) (hb : b < 40) (hw : w < N 2) (hg : g < N 0) (e1 : σ 30 w = nI g) (hs0 : σ 0 8 = 0) : ∃ (r : Int32) (σ1 τ1 : zS), f_X7_moveWalker (nI w) σ = some (r, σ1) ∧ b_X8_goWalkers_L2 (nI w, τ) = some (true, (nI (w + 1), τ1)) ∧ tR N (b + 1) σ1 τ1 ∧ gC σ σ1 ∧ gM τ τ1 := by
  obtain ⟨hS, hA, h26, h27, h01, -⟩ := id h
  obtain ⟨⟨s0, s1, s2, s3, s4, s5, s6⟩, -⟩ := id hS
  obtain ⟨qt, qr, qc, qd, qw, ql, qo, qg⟩ := hA
  have h4 : w < 4 := by have := s2.1; omega
  have hG1 := hG_of hS qd
  obtain ⟨⟨c, hc, c1, c2⟩, c3, -⟩ := qw w hw
  have c1 : σ 29 w = nI c := c1
  have c3 : σ 30 w = τ 1 (31 + w) := c3
  have e2 : τ 1 (31 + w) = nI g := c3.symm.trans e1
  obtain ⟨x, σ1, n1, f1, F1, B1⟩ := p_nextC hG1 hc hg
  obtain ⟨τ1, n2, f2, F2⟩ := p_ways hG1 hg
  obtain ⟨⟨y, y2, τ2⟩, n3, r3, B2⟩ := p_nextM (v1 := nI w) hG1 f2 F2 hc hg
  dsimp only at r3 B2
  subst r3
  have hxy : x = y := by
    refine nB_uni B1 (nB_no B2 (fun u => ?_))
    have hiff : u < N 0 → (nr (σ1 4) c u ↔ nr (τ2 20) c u) := by
      intro hu
      unfold nr
      rw [gF_eq F1 F2 c hc, gF_eq F1 F2 u hu]
    constructor
    · intro ⟨h1, h2⟩
      exact ⟨h1, (hiff h1.2.1).mp h2⟩
    · intro ⟨h1, h2⟩
      exact ⟨h1, (hiff h1.2.1).mpr h2⟩
  subst hxy
  obtain ⟨hR1, gc1, gm1⟩ := tR_45 h f1 f2
  have hix : (nI w).toNatClampNeg = w := ix_n (by omega)
  have zI : ∀ {α : Type} (e : Option α), zg (z_in (nI w) 4) e = e := fun e => zg_n h4 (by decide) e
  have zA : ∀ {e : Option (Bool × (Int32 × zS))}, zg (z_in (27 + nI w) 192) e = e := zgM (b := 27) 27 rfl (show 27 + w < 192 by omega) (by decide)
  have iA : (27 + nI w).toNatClampNeg = 27 + w := ixM (b := 27) 27 rfl (show 27 + w ≤ 100000 by omega)
  have zB : ∀ {e : Option (Bool × (Int32 × zS))}, zg (z_in (31 + nI w) 192) e = e := zgM (b := 31) 31 rfl (show 31 + w < 192 by omega) (by decide)
  have iB : (31 + nI w).toNatClampNeg = 31 + w := ixM (b := 31) 31 rfl (show 31 + w ≤ 100000 by omega)
  have m0 : τ 0 27 = 0 := h27.symm.trans hs0
  have k0 : ¬ (τ 0 8) ≤ nI w := by rw [s2.2.2]; exact nI_ge hw (by omega)
  have kg : ¬ nI g = -1 := n_neg1 (by omega)
  have hM : b_X8_goWalkers_L2 (nI w, τ) = j_X8_goWalkers_J120 (nI w) (nI g) (nI c) x y2 τ2 := by
    unfold b_X8_goWalkers_L2 j_X8_goWalkers_J50
    simp only [if_neg k0, m0, if_true, zA, zB, iA, iB, e2, c2, if_neg kg, n2, zb_some, n3, Option.bind_some]
  have hK : f_X7_moveWalker (nI w) σ = if x = (-1) then some (0, σ1) else if x = nI g then (zb (f_X4_addRow 3 (nI w) (zs (zs σ1 29 w x) 30 w (-1))) fun r14 σ15 => some (0, σ15)) else (zb (f_X4_addRow 3 (nI w) (zs σ1 29 w x)) fun r14 σ15 => some (0, σ15)) := by
    have u1 : zs σ1 29 w x 30 w = nI g := by
      show σ1 30 w = _
      rw [f1 30 (by decide)]; exact e1
    unfold f_X7_moveWalker
    simp only [zI, hix, c1, e1, n1, zb_some, zl_eq, u1]
  rw [hM, hK]
  rcases B1 with ⟨hx, -⟩ | ⟨v, hv, hx, hP, -⟩
  · refine ⟨0, σ1, τ2, by rw [if_pos hx], ?_, tR_le hR1 (by omega), gc1, gm1⟩
    unfold j_X8_goWalkers_J120
    rw [if_pos hx, nI_1]
  · have hvN : v < N 0 := hP.1.2.1
    have hx1 : ¬ x = -1 := by rw [hx]; exact n_neg1 (by omega)
    rw [if_neg hx1]
    unfold j_X8_goWalkers_J120
    rw [if_neg hx1]
    simp only [zA, zB, iA, iB, zl_eq]
    have hR2 := tR_place hR1 hw hvN
    rw [← hx] at hR2
    by_cases hxg : x = nI g
    · rw [if_pos hxg, if_pos hxg]
      have hR3 := tR_goal hR2 hw (Or.inl rfl)
      obtain ⟨σ3, τ3, g1, g2, g3, g4, g5⟩ := p_tell 3 (nI w) hR3 hb
      refine ⟨0, σ3, τ3, by rw [g1, zb_some], by rw [g2, zb_some, nI_1], g3, gC_t gc1 (gC_t (gC_t (gC_s (by omega)) (gC_s (by omega))) (hC_g g4)), gM_t gm1 (gM_t (gM_t (gM_s (by omega)) (gM_s (by omega))) (hM_g g5))⟩
    · rw [if_neg hxg, if_neg hxg]
      have hsm : zs (zs τ2 1 (27 + w) x) 1 (31 + w) (nI g) = zs τ2 1 (27 + w) x := by
        apply zs_same
        show upd (τ2 1) (27 + w) x (31 + w) = _
        rw [up_ne (by omega), f2 1 (by decide)]
        exact e2
      rw [hsm]
      obtain ⟨σ3, τ3, g1, g2, g3, g4, g5⟩ := p_tell 3 (nI w) hR2 hb
      refine ⟨0, σ3, τ3, by rw [g1, zb_some], by rw [g2, zb_some, nI_1], g3, gC_t gc1 (gC_t (gC_s (by omega)) (hC_g g4)), gM_t gm1 (gM_t (gM_s (by omega)) (hM_g g5))⟩
theorem p_walkers {N : Nat → Nat} {B : Nat} {σ τ : zS} (h : tR N B σ τ) (hB : B ≤ 36) : ∃ (r r' : Int32) (σ1 τ1 : zS), f_X7_moveWalkers σ = some (r, σ1) ∧ f_X8_goWalkers τ = some (r', τ1) ∧ tR N (B + N 2) σ1 τ1 ∧ gC σ σ1 ∧ gM τ τ1 := by
  obtain ⟨⟨⟨s0, s1, s2, s3, s4, s5, s6⟩, -⟩, -⟩ := id h
  have h2 := s2.1
  obtain ⟨a1, b1, l1, l2, hR1, hc1, hm1⟩ : ∃ (a1 b1 : Int32 × zS), z_loop b_X7_moveWalkers_L2 zfuel (0, σ) = some a1 ∧ z_loop b_X8_goWalkers_L2 zfuel (0, τ) = some b1 ∧ tR N (B + N 2) a1.2 b1.2 ∧ gC σ a1.2 ∧ gM τ b1.2 := by
    refine lp_2 (fun i (a : Int32 × zS) (b : Int32 × zS) => a.1 = nI i ∧ b.1 = nI i ∧ tR N (B + i) a.2 b.2 ∧ gC σ a.2 ∧ gM τ b.2) (fun a b => tR N (B + N 2) a.2 b.2 ∧ gC σ a.2 ∧ gM τ b.2) (N 2) ?_ zfuel 0 (0, σ) (0, τ) (Nat.zero_le _) ⟨rfl, rfl, h, gC_rf σ, gM_rf τ⟩ (by show N 2 - 0 < 2048; omega)
    intro i ⟨x, σ'⟩ ⟨y, τ'⟩ hi ⟨ex, ey, hR, hc, hm⟩
    dsimp only at ex ey hR hc hm
    subst ex; subst ey
    obtain ⟨⟨⟨_, _, u2, _, _, _, _⟩, -⟩, ⟨_, _, _, _, qw, _, _, _⟩, h26, h27, h01, -⟩ := id hR
    by_cases hin : i = N 2
    · subst hin
      right
      have eC : σ' 1 2 ≤ nI (N 2) := by rw [u2.2.1]; exact nI_le (Nat.le_refl _) (by omega)
      have eM : τ' 0 8 ≤ nI (N 2) := by rw [u2.2.2]; exact nI_le (Nat.le_refl _) (by omega)
      unfold b_X7_moveWalkers_L2 b_X8_goWalkers_L2
      dsimp only
      rw [if_pos eC, if_pos eM]
      exact ⟨_, _, rfl, rfl, hR, hc, hm⟩
    · have hlt : i < N 2 := by omega
      have h4 : i < 4 := by omega
      have cC : ¬ σ' 1 2 ≤ nI i := by rw [u2.2.1]; exact nI_ge hlt (by omega)
      have cM : ¬ τ' 0 8 ≤ nI i := by rw [u2.2.2]; exact nI_ge hlt (by omega)
      have hix : (nI i).toNatClampNeg = i := ix_n (by omega)
      have zI : ∀ {α : Type} (e : Option α), zg (z_in (nI i) 4) e = e := fun e => zg_n h4 (by decide) e
      have zA : ∀ {e : Option (Bool × (Int32 × zS))}, zg (z_in (27 + nI i) 192) e = e := zgM (b := 27) 27 rfl (show 27 + i < 192 by omega) (by decide)
      have iA : (27 + nI i).toNatClampNeg = 27 + i := ixM (b := 27) 27 rfl (show 27 + i ≤ 100000 by omega)
      have zB : ∀ {e : Option (Bool × (Int32 × zS))}, zg (z_in (31 + nI i) 192) e = e := zgM (b := 31) 31 rfl (show 31 + i < 192 by omega) (by decide)
      have iB : (31 + nI i).toNatClampNeg = 31 + i := ixM (b := 31) 31 rfl (show 31 + i ≤ 100000 by omega)
      rcases h01 with h0 | h1
      · left
        have m0 : τ' 0 27 = 0 := h27.symm.trans h0
        obtain ⟨⟨c, hc', c1, c2⟩, c3, c4⟩ := qw i hlt
        have c3 : σ' 30 i = τ' 1 (31 + i) := c3
        have c4 : σ' 30 i = -1 ∨ ∃ b, b < N 0 ∧ σ' 30 i = nI b := c4
        rcases c4 with c4 | ⟨g, hg, c4⟩
        · have c5 : τ' 1 (31 + i) = -1 := c3.symm.trans c4
          refine ⟨(nI (i + 1), σ'), (nI (i + 1), τ'), ?_, ?_, hlt, rfl, rfl, tR_le hR (by omega), hc, hm⟩
          · unfold b_X7_moveWalkers_L2
            simp only [if_neg cC, h0, if_true, zI, hix, c4, nI_1]
          · have hl : z_loop (b_X8_goWalkers_L58 (nI i) (-1) (nI c)) zfuel (-1, (τ' 0 4) - 1, τ') = some (-1, (τ' 0 4) - 1, τ') := by
              show z_loop _ (2047 + 1) _ = _
              rw [z_loop]
              unfold b_X8_goWalkers_L58
              by_cases hq : τ' 0 4 - 1 < 0
              · simp only [if_pos hq]; rfl
              · simp only [if_neg hq, if_true]; rfl
            unfold b_X8_goWalkers_L2 j_X8_goWalkers_J50
            simp only [if_neg cM, m0, if_true, zA, zB, iA, iB, c5, c2, hl, Option.bind_some, j_X8_goWalkers_J120, nI_1]
        · obtain ⟨r, σ1, τ1, g1, g2, g3, g4, g5⟩ := p_walker hR (by omega) hlt hg c4 h0
          refine ⟨(nI (i + 1), σ1), (nI (i + 1), τ1), ?_, g2, hlt, rfl, rfl, g3, gC_t hc g4, gM_t hm g5⟩
          have kg : ¬ nI g = -1 := n_neg1 (by have := h.1.1.1.1; omega)
          unfold b_X7_moveWalkers_L2
          simp only [if_neg cC, h0, if_true, zI, hix, c4, if_neg kg, g1, zb_some, nI_1]
      · right
        have n1 : ¬ σ' 0 8 = 0 := by rw [h1]; exact n10
        have n2 : ¬ τ' 0 27 = 0 := fun q => n1 (h27.trans q)
        unfold b_X7_moveWalkers_L2 b_X8_goWalkers_L2
        dsimp only
        rw [if_neg cC, if_neg cM, if_neg n1, if_neg n2]
        exact ⟨_, _, rfl, rfl, tR_le hR (by omega), hc, hm⟩
  refine ⟨0, 0, a1.2, b1.2, ?_, ?_, hR1, hc1, hm1⟩
  · unfold f_X7_moveWalkers
    rw [l1, Option.bind_some]
  · unfold f_X8_goWalkers
    rw [l2, Option.bind_some]
