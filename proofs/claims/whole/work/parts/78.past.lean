theorem pSt_w {N : Nat → Nat} {σ τ σ' τ' : zS} (h : pSt N σ τ) (hC : ∀ k, 1 ≤ k → k < 24 → k ≠ 4 → k ≠ 15 → k ≠ 16 → σ' k = σ k) (cp : σ' 24 3 = σ 24 3) (hM : ∀ k, 3 ≤ k → k < 18 → τ' k = τ k) (hz : ∀ j, 3 ≤ j → j < 26 → τ' 0 j = τ 0 j) : pSt N σ' τ' := by
  have c1 := hC 1 (by decide) (by decide) (by decide) (by decide) (by decide)
  have c2 := hC 2 (by decide) (by decide) (by decide) (by decide) (by decide)
  have c3 := hC 3 (by decide) (by decide) (by decide) (by decide) (by decide)
  have c5 := hC 5 (by decide) (by decide) (by decide) (by decide) (by decide)
  have c6 := hC 6 (by decide) (by decide) (by decide) (by decide) (by decide)
  have c7 := hC 7 (by decide) (by decide) (by decide) (by decide) (by decide)
  have c8 := hC 8 (by decide) (by decide) (by decide) (by decide) (by decide)
  have c9 := hC 9 (by decide) (by decide) (by decide) (by decide) (by decide)
  have c10 := hC 10 (by decide) (by decide) (by decide) (by decide) (by decide)
  have c11 := hC 11 (by decide) (by decide) (by decide) (by decide) (by decide)
  have c12 := hC 12 (by decide) (by decide) (by decide) (by decide) (by decide)
  have c13 := hC 13 (by decide) (by decide) (by decide) (by decide) (by decide)
  have c14 := hC 14 (by decide) (by decide) (by decide) (by decide) (by decide)
  have c17 := hC 17 (by decide) (by decide) (by decide) (by decide) (by decide)
  have c18 := hC 18 (by decide) (by decide) (by decide) (by decide) (by decide)
  have c19 := hC 19 (by decide) (by decide) (by decide) (by decide) (by decide)
  have c20 := hC 20 (by decide) (by decide) (by decide) (by decide) (by decide)
  have c21 := hC 21 (by decide) (by decide) (by decide) (by decide) (by decide)
  have c22 := hC 22 (by decide) (by decide) (by decide) (by decide) (by decide)
  have c23 := hC 23 (by decide) (by decide) (by decide) (by decide) (by decide)
  have m3 := hM 3 (by decide) (by decide)
  have m4 := hM 4 (by decide) (by decide)
  have m5 := hM 5 (by decide) (by decide)
  have m6 := hM 6 (by decide) (by decide)
  have m7 := hM 7 (by decide) (by decide)
  have m8 := hM 8 (by decide) (by decide)
  have m9 := hM 9 (by decide) (by decide)
  have m10 := hM 10 (by decide) (by decide)
  have m11 := hM 11 (by decide) (by decide)
  have m12 := hM 12 (by decide) (by decide)
  have m13 := hM 13 (by decide) (by decide)
  have m14 := hM 14 (by decide) (by decide)
  have m15 := hM 15 (by decide) (by decide)
  have m16 := hM 16 (by decide) (by decide)
  have m17 := hM 17 (by decide) (by decide)
  have z4 := hz 4 (by decide) (by decide)
  have z5 := hz 5 (by decide) (by decide)
  have z8 := hz 8 (by decide) (by decide)
  have z9 := hz 9 (by decide) (by decide)
  have z15 := hz 15 (by decide) (by decide)
  have z19 := hz 19 (by decide) (by decide)
  have z23 := hz 23 (by decide) (by decide)
  have z3 := hz 3 (by decide) (by decide)
  unfold pSt pS pDo pDe pLe pEv pTi pDa pPc at h ⊢
  simp only [c1, c2, c3, c5, c6, c7, c8, c9, c10, c11, c12, c13, c14, c17, c18, c19, c20, c21, c22, c23, m3, m4, m5, m6, m7, m8, m9, m10, m11, m12, m13, m14, m15, m16, m17, z4, z5, z8, z9, z15, z19, z23, z3, cp]
  exact h
theorem qA_bl {N : Nat → Nat} {A : Nat} {σ σ' : zS} {g g' : Nat → Int32} (hN : N 2 ≤ 4) (e : ∀ c, c < 10 → σ' (A + c) = σ (A + c)) (hg : ∀ j, j < 192 → g' j = g j) (h : qA N (pM A σ) g) : qA N (pM A σ') g' := qA_m (m := pM A σ) (qA_cp (A := A) (B := A) (σ := σ) (σ' := σ) hN ⟨fun _ _ => rfl, fun _ _ => rfl, fun _ _ => rfl, fun _ _ => rfl, fun _ _ => rfl, fun _ _ => rfl, fun _ _ => rfl, fun _ _ => rfl, fun _ _ => rfl, fun _ _ => rfl, fun _ _ => rfl⟩ hg h) e
/-- the reference keeps -/
theorem p_cpM {np : Nat} {τ : zS} (hn : np < 8) (e2 : τ 0 2 = nI np) : ∃ a : Int32 × zS, z_loop b_X8_turn_L48 zfuel (0, τ) = some a ∧ (∀ k, k ≠ 2 → a.2 k = τ k) ∧ (∀ j, j < 192 → a.2 2 (192 * np + j) = τ 1 j) ∧ ∀ x, x < 192 * np → a.2 2 x = τ 2 x := by
  refine lp_1 (fun i (a : Int32 × zS) => a.1 = nI i ∧ (∀ k, k ≠ 2 → a.2 k = τ k) ∧ (∀ j, j < i → a.2 2 (192 * np + j) = τ 1 j) ∧ ∀ x, x < 192 * np → a.2 2 x = τ 2 x) _ 192 ?_ zfuel 0 (0, τ) (Nat.zero_le _) ⟨rfl, fun _ _ => rfl, fun x hx => by omega, fun _ _ => rfl⟩ (by decide)
  intro i ⟨x, τ'⟩ hi ⟨ex, h1, h2, h3⟩
  dsimp only at ex h1 h2 h3
  subst ex
  unfold b_X8_turn_L48
  dsimp only
  by_cases hin : i = 192
  · right
    subst hin
    rw [if_pos (show (192 : Int32) ≤ nI 192 by decide)]
    exact ⟨_, rfl, h1, h2, h3⟩
  · left
    have hc : ¬ (192 : Int32) ≤ nI i := nI_ge (b := 192) (by omega) (by decide)
    have e3 : 192 * τ' 0 2 + nI i = nI (192 * np + i) := by
      rw [h1 0 (by decide), e2, show (192 * nI np : Int32) = nI (192 * np) from pk_mul 192 np, nI_add]
    rw [if_neg hc]
    simp only [e3, zg_n (show i < 192 by omega) (show 192 ≤ 100000 by omega), zg_n (show 192 * np + i < 1536 by omega) (show 1536 ≤ 100000 by omega), ix_n (show i ≤ 100000 by omega), ix_n (show 192 * np + i ≤ 100000 by omega), zl_eq, nI_1]
    refine ⟨_, rfl, by omega, rfl, fun k hk => (zs_ne hk).trans (h1 k hk), fun y hy => ?_, fun y hy => ?_⟩
    · dsimp only
      rw [zs_at, h1 1 (by decide)]
      by_cases hyi : y = i
      · rw [hyi, up_at]
      · rw [up_ne (by omega)]
        exact h2 y (by omega)
    · dsimp only
      rw [zs_at, up_ne (by omega)]
      exact h3 y hy
/-- the reference drops the oldest -/
theorem p_shM {τ : zS} : ∃ a : Int32 × zS, z_loop b_X8_turn_L11 zfuel (0, τ) = some a ∧ (∀ k, k ≠ 2 → a.2 k = τ k) ∧ ∀ x, x < 1344 → a.2 2 x = τ 2 (x + 192) := by
  refine lp_1 (fun i (a : Int32 × zS) => a.1 = nI i ∧ (∀ k, k ≠ 2 → a.2 k = τ k) ∧ (∀ x, x < i → a.2 2 x = τ 2 (x + 192)) ∧ ∀ x, i ≤ x → a.2 2 x = τ 2 x) _ 1344 ?_ zfuel 0 (0, τ) (Nat.zero_le _) ⟨rfl, fun _ _ => rfl, fun x hx => by omega, fun _ _ => rfl⟩ (by decide)
  intro i ⟨x, τ'⟩ hi ⟨ex, h1, h2, h3⟩
  dsimp only at ex h1 h2 h3
  subst ex
  unfold b_X8_turn_L11
  dsimp only
  by_cases hin : i = 1344
  · right
    subst hin
    rw [if_pos (show (1344 : Int32) ≤ nI 1344 by decide)]
    exact ⟨_, rfl, h1, h2⟩
  · left
    have hc : ¬ (1344 : Int32) ≤ nI i := nI_ge (b := 1344) (by omega) (by decide)
    have e3 : nI i + 192 = nI (i + 192) := nI_add i 192
    rw [if_neg hc]
    simp only [e3, zg_n (show i < 1536 by omega) (show 1536 ≤ 100000 by omega), zg_n (show i + 192 < 1536 by omega) (show 1536 ≤ 100000 by omega), ix_n (show i ≤ 100000 by omega), ix_n (show i + 192 ≤ 100000 by omega), zl_eq, nI_1]
    refine ⟨_, rfl, by omega, rfl, fun k hk => (zs_ne hk).trans (h1 k hk), fun y hy => ?_, fun y hy => ?_⟩
    · dsimp only
      rw [zs_at]
      by_cases hyi : y = i
      · rw [hyi, up_at]
        exact h3 _ (by omega)
      · rw [up_ne hyi]
        exact h2 y (by omega)
    · dsimp only
      rw [zs_at, up_ne (by omega)]
      exact h3 y (by omega)
/-- the class drops the oldest -/
theorem p_drC {σ : zS} (hid : ∀ i, i < 8 → ∃ a, 1 ≤ a ∧ a ≤ 8 ∧ σ 35 i = nI a) : ∃ σ1, f_X5_dropOldest σ = some (0, σ1) ∧ (∀ k, k ≠ 34 → k ≠ 35 → σ1 k = σ k) ∧ σ1 34 0 = nI 7 ∧ (∀ i, i < 7 → σ1 35 i = σ 35 (i + 1)) ∧ σ1 35 7 = σ 35 0 := by
  have e0z : ((0 : Int32).toNatClampNeg) = 0 := by decide
  have e7z : ((7 : Int32).toNatClampNeg) = 7 := by decide
  have z0 : z_in (0 : Int32) 8 := by decide
  have z7 : z_in (7 : Int32) 8 := by decide
  have h9 : ∀ i, i < 8 → (σ 35 i).toNatClampNeg < 9 := by
    intro i hi
    obtain ⟨a, h1, h2, h3⟩ := hid i hi
    rw [h3, ix_n (by omega)]
    omega
  obtain ⟨⟨x, σ'⟩, l1, h1, h2⟩ : ∃ a : Int32 × zS, z_loop (b_X5_dropOldest_L9 ((σ 35 0).toNatClampNeg)) zfuel (1, σ) = some a ∧ (∀ k, k ≠ 35 → a.2 k = σ k) ∧ ∀ x, x < 7 → a.2 35 x = σ 35 (x + 1) := by
    refine lp_1 (fun i (a : Int32 × zS) => 1 ≤ i ∧ a.1 = nI i ∧ (∀ k, k ≠ 35 → a.2 k = σ k) ∧ (∀ x, x + 1 < i → a.2 35 x = σ 35 (x + 1)) ∧ ∀ x, i ≤ x + 1 → a.2 35 x = σ 35 x) _ 8 ?_ zfuel 1 (1, σ) (by decide) ⟨Nat.le_refl _, rfl, fun _ _ => rfl, fun x hx => by omega, fun _ _ => rfl⟩ (by decide)
    intro i ⟨x, σ'⟩ hi ⟨hi1, ex, h1, h2, h3⟩
    dsimp only at ex h1 h2 h3
    subst ex
    unfold b_X5_dropOldest_L9
    dsimp only
    by_cases hin : i = 8
    · right
      subst hin
      rw [if_pos (show (8 : Int32) ≤ nI 8 by decide)]
      exact ⟨_, rfl, h1, fun x hx => h2 x (by omega)⟩
    · left
      have hc : ¬ (8 : Int32) ≤ nI i := nI_ge (b := 8) (by omega) (by decide)
      obtain ⟨i', rfl⟩ : ∃ i', i = i' + 1 := ⟨i - 1, by omega⟩
      have e3 : σ' 35 (i' + 1) = σ 35 (i' + 1) := h3 _ (by omega)
      have h9' : (σ' 35 (i' + 1)).toNatClampNeg < 9 := by rw [e3]; exact h9 _ (by omega)
      rw [if_neg hc]
      simp only [nI_pred, zg_n (show i' + 1 < 8 by omega) (show 8 ≤ 100000 by omega), zg_n (show i' < 8 by omega) (show 8 ≤ 100000 by omega), ix_n (show i' ≤ 100000 by omega), ix_n (show i' + 1 ≤ 100000 by omega), zg_t h9', zl_eq, nI_1]
      refine ⟨_, rfl, by omega, by omega, rfl, fun k hk => (zs_ne hk).trans (h1 k hk), fun y hy => ?_, fun y hy => ?_⟩
      · dsimp only
        rw [zs_at]
        by_cases hyi : y = i'
        · rw [hyi, up_at]
          exact e3
        · rw [up_ne hyi]
          exact h2 y (by omega)
      · dsimp only
        rw [zs_at, up_ne (by omega)]
        exact h3 y (by omega)
  dsimp only at h1 h2
  refine ⟨zs (zs σ' 35 7 (σ 35 0)) 34 0 7, ?_, fun k h34 h35 => ?_, ?_, fun i hi => ?_, ?_⟩
  · unfold f_X5_dropOldest
    simp only [e0z, e7z, zg_t z0, zg_t z7, zg_t (h9 0 (by decide)), l1, Option.bind_some, zl_eq]
  · rw [zs_ne h34, zs_ne h35]
    exact h1 k h35
  · rw [zs_at, up_at]; rfl
  · rw [zs_ne (by decide), zs_at, up_ne (by omega)]
    exact h2 i hi
  · rw [zs_ne (by decide), zs_at, up_at]
theorem p_drop {N : Nat → Nat} {σ τ : zS} (hN : N 2 ≤ 4) (h : pPa N σ τ) (e8 : σ 34 0 = nI 8) : ∃ (σ1 : zS) (a : Int32 × zS), f_X5_dropOldest σ = some (0, σ1) ∧ z_loop b_X8_turn_L11 zfuel (0, τ) = some a ∧ pPa N σ1 (zs a.2 0 2 7) ∧ σ1 34 0 = nI 7 ∧ (∀ k, k ≠ 34 → k ≠ 35 → σ1 k = σ k) ∧ ∀ k, k ≠ 2 → a.2 k = τ k := by
  obtain ⟨np, h1, h2, h3, h4, h5, h6⟩ := h
  have hnp : np = 8 := n_eqI (by omega) (by omega) (h2.symm.trans e8)
  subst hnp
  obtain ⟨σ1, d1, d2, d3, d4, d5⟩ := p_drC h4
  obtain ⟨a, m1, m2, m3⟩ := p_shM (τ := τ)
  have rot : ∀ i, i < 8 → ∃ r, r < 8 ∧ σ1 35 i = σ 35 r ∧ ((i < 7 ∧ r = i + 1) ∨ (i = 7 ∧ r = 0)) := by
    intro i hi
    by_cases h7 : i = 7
    · exact ⟨0, by decide, by rw [h7]; exact d5, Or.inr ⟨h7, rfl⟩⟩
    · exact ⟨i + 1, by omega, d4 i (by omega), Or.inl ⟨by omega, rfl⟩⟩
  refine ⟨σ1, a, d1, m1, ⟨7, by decide, d3, by rw [zs_at, up_at]; rfl, ?_, ?_, ?_⟩, d3, d2, m2⟩
  · intro i hi
    obtain ⟨r, hr, e, -⟩ := rot i hi
    rw [e]
    exact h4 r hr
  · intro i j hi hj hij
    obtain ⟨r, hr, e, q⟩ := rot i hi
    obtain ⟨r', hr', e', q'⟩ := rot j hj
    rw [e, e'] at hij
    have := h5 r r' hr hr' hij
    omega
  · intro i hi
    rw [d4 i hi]
    obtain ⟨g1, g2⟩ := h6 (i + 1) (by omega)
    obtain ⟨b, b1, b2, b3⟩ := h4 (i + 1) (by omega)
    have hcl : (σ 35 (i + 1)).toNatClampNeg = b := by rw [b3]; exact ix_n (by omega)
    rw [hcl] at g1 g2 ⊢
    have hz := z_mo_r b1 b2
    refine ⟨qA_bl hN (fun c hc => d2 _ (by omega) (by omega)) (fun j hj => ?_) g1, ?_⟩
    · rw [zs_ne (by decide), m3 _ (by omega), show 192 * i + j + 192 = 192 * (i + 1) + j by omega]
    · rw [d2 _ (by omega) (by omega), zs_at, up_ne (by decide), m2 0 (by decide)]
      exact g2
/-- both sides keep the moment -/
def kT (σ : zS) : Option (Int32 × zS) := zg (z_in (σ 34 0) 8) <| zg ((σ 35 (σ 34 0).toNatClampNeg).toNatClampNeg < 9) <| zb (f_X4_copyFrom ((σ 35 (σ 34 0).toNatClampNeg).toNatClampNeg) 0 σ) fun r4 σ5 => zl (zs σ5 34 0 ((σ5 34 0) + 1)) fun σ6 => some (0, σ6)
theorem p_add {N : Nat → Nat} {np : Nat} {σ τ : zS} (hN : N 2 ≤ 4) (h : pPa N σ τ) (hA : qA N (pM 24 σ) (τ 1)) (hp : σ 24 3 = τ 0 3) (hn : np < 8) (e34 : σ 34 0 = nI np) : ∃ (σ1 : zS) (a : Int32 × zS), kT σ = some (0, σ1) ∧ z_loop b_X8_turn_L48 zfuel (0, τ) = some a ∧ pPa N σ1 (zs a.2 0 2 ((a.2 0 2) + 1)) ∧ (∀ k, k < 34 → σ1 k = σ k) ∧ ∀ k, k ≠ 2 → a.2 k = τ k := by
  obtain ⟨np', h1, h2, h3, h4, h5, h6⟩ := h
  have hnp : np' = np := n_eqI (by omega) (by omega) (h2.symm.trans e34)
  subst hnp
  obtain ⟨b, b1, b2, b3⟩ := h4 np' hn
  have hcl : (σ 35 np').toNatClampNeg = b := by rw [b3]; exact ix_n (by omega)
  have hz := z_mo_r b1 b2
  obtain ⟨f4, f8, f9⟩ := qA_b hA
  obtain ⟨σ5, c1, c2⟩ := p_copy (a := b) (b := 0) (A := 26 + 10 * b) (B := 24) (σ := σ) hz rfl (by omega) f4 f8 f9
  obtain ⟨a, m1, m2, m3, m4⟩ := p_cpM (τ := τ) hn h3
  have o34 : σ5 34 0 = nI np' := by rw [c2.1 34 (by omega)]; exact h2
  have a02 : a.2 0 2 = nI np' := by rw [m2 0 (by decide)]; exact h3
  have s35 : zs σ5 34 0 (nI (np' + 1)) 35 = σ 35 := by rw [zs_ne (by decide)]; exact c2.1 35 (by omega)
  have hP : pPa N (zs σ5 34 0 (nI (np' + 1))) (zs a.2 0 2 (nI (np' + 1))) := by
    refine ⟨np' + 1, by omega, by rw [zs_at, up_at], by rw [zs_at, up_at], by rw [s35]; exact h4, by rw [s35]; exact h5, fun i hi => ?_⟩
    rw [s35]
    by_cases hin : i = np'
    · subst hin
      rw [hcl, hz]
      refine ⟨qA_bl (σ := σ5) hN (fun c hc => zs_ne (by omega)) (fun j hj => rfl) (qA_cp (g := τ 1) hN c2 (fun j hj => ?_) hA), ?_⟩
      · show zs a.2 0 2 _ 2 _ = _
        rw [zs_ne (by decide)]
        exact m3 j hj
      · rw [zs_ne (by omega), zs_at, up_ne (by decide), m2 0 (by decide), c2.2.1 3 (by decide)]
        exact hp
    · obtain ⟨b', b1', b2', b3'⟩ := h4 i (by omega)
      have hcl' : (σ 35 i).toNatClampNeg = b' := by rw [b3']; exact ix_n (by omega)
      obtain ⟨g1, g2⟩ := h6 i (by omega)
      have hne : b' ≠ b := by
        intro hbb
        exact hin (h5 i np' (by omega) hn (by rw [b3', b3, hbb]))
      have hz' := z_mo_r b1' b2'
      rw [hcl', hz'] at g1 g2 ⊢
      refine ⟨qA_bl hN (fun c hc => ?_) (fun j hj => ?_) g1, ?_⟩
      · rw [zs_ne (by omega)]
        exact c2.1 _ (by omega)
      · rw [zs_ne (by decide)]
        exact m4 _ (by omega)
      · rw [zs_ne (by omega), c2.1 _ (by omega), zs_at, up_ne (by decide), m2 0 (by decide)]
        exact g2
  refine ⟨zs σ5 34 0 (nI (np' + 1)), a, ?_, m1, by rw [a02, nI_1]; exact hP, fun k hk => ?_, m2⟩
  · have h9 : b < 9 := by omega
    unfold kT
    rw [e34]
    simp only [zg_n hn (show 8 ≤ 100000 by decide), ix_n (show np' ≤ 100000 by omega), hcl, zg_t h9, c1, zb_some, zl_eq, o34, nI_1]
  · rw [zs_ne (by omega)]
    exact c2.1 k (by omega)
