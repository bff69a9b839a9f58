def dT (N : Nat → Nat) (σ : zS) (i u v : Nat) : Prop := u < N 0 ∧ v < N 0 ∧ ∃ d, d < i ∧ σ 28 d = 0 ∧ ((σ 2 d = nI u ∧ σ 3 d = nI v) ∨ (σ 2 d = nI v ∧ σ 3 d = nI u))
theorem mQ_T {E T T' : Nat → Nat → Prop} {g n far : Nat} {f : Nat → Int32} (hT : ∀ a b, T' a b → T a b) (h : mQ E T g n far f) : mQ E T' g n far f := fun v hv => (h v hv).imp id (fun ⟨h1, h2, h3⟩ => ⟨h1, h2, fun u hu => h3 u (hT u v hu)⟩)
theorem wC_T {E T T' : Nat → Nat → Prop} {g n r : Nat} {f : Nat → Int32} (hT : ∀ a b, T' a b → T a b) (h : wC E T g n r f) : wC E T' g n r f := fun v hv => ⟨(h v hv).1, fun ⟨u, h1, h2⟩ => (h v hv).2 ⟨u, hT u v h1, h2⟩⟩
theorem wS_le {E : Nat → Nat → Prop} {g n M M' : Nat} {f : Nat → Int32} (hM : M ≤ M') (h : wS E g n M f) : wS E g n M' f := fun v hv => (h v hv).imp id (fun ⟨k, h1, h2⟩ => ⟨k, by omega, h2⟩)
theorem p_spread {u v far : Nat} {σ : zS} (hu : u < 10) (hv : v < 10) : ∃ σ1, f_X3_spread (nI u) (nI v) (nI far) σ = some (0, σ1) ∧ (∀ k, k ≠ 4 → σ1 k = σ k) ∧ σ1 4 = if σ 4 u = nI far ∧ σ 4 v = -1 then upd (σ 4) v (nI (far + 1)) else σ 4 := by
  have zU : ∀ {α : Type} (e : Option α), zg (z_in (nI u) 10) e = e := fun e => zg_n hu (by decide) e
  have zV : ∀ {α : Type} (e : Option α), zg (z_in (nI v) 10) e = e := fun e => zg_n hv (by decide) e
  have iU : (nI u).toNatClampNeg = u := ix_n (by omega)
  have iV : (nI v).toNatClampNeg = v := ix_n (by omega)
  unfold f_X3_spread
  simp only [zU, zV, iU, iV, zl_eq, nI_1]
  by_cases h1 : σ 4 u = nI far
  · rw [if_pos h1]
    by_cases h2 : σ 4 v = -1
    · rw [if_pos h2, if_pos ⟨h1, h2⟩]
      exact ⟨_, rfl, fun k hk => zs_ne hk, zs_at⟩
    · rw [if_neg h2, if_neg (fun q => h2 q.2)]
      exact ⟨_, rfl, fun k hk => rfl, rfl⟩
  · rw [if_neg h1, if_neg (fun q => h1 q.1)]
    exact ⟨_, rfl, fun k hk => rfl, rfl⟩
theorem p_step {u v : Nat} {τ : zS} (hu : u < 10) (hv : v < 10) : ∃ τ1, f_X8_step (nI u) (nI v) τ = some (0, τ1) ∧ (∀ k, k ≠ 20 → τ1 k = τ k) ∧ τ1 20 = if ¬ τ 20 u = -1 ∧ (τ 20 v = -1 ∨ ¬ τ 20 v ≤ τ 20 u + 1) then upd (τ 20) v (τ 20 u + 1) else τ 20 := by
  have zU : ∀ {α : Type} (e : Option α), zg (z_in (nI u) 10) e = e := fun e => zg_n hu (by decide) e
  have zV : ∀ {α : Type} (e : Option α), zg (z_in (nI v) 10) e = e := fun e => zg_n hv (by decide) e
  have iU : (nI u).toNatClampNeg = u := ix_n (by omega)
  have iV : (nI v).toNatClampNeg = v := ix_n (by omega)
  unfold f_X8_step
  simp only [zU, zV, iU, iV, zl_eq]
  by_cases h1 : τ 20 u = -1
  · rw [if_pos h1, if_neg (fun q => q.1 h1)]
    exact ⟨_, rfl, fun k hk => rfl, rfl⟩
  · rw [if_neg h1]
    by_cases h2 : τ 20 v = -1
    · rw [if_pos h2, if_pos ⟨h1, Or.inl h2⟩]
      exact ⟨_, rfl, fun k hk => zs_ne hk, zs_at⟩
    · rw [if_neg h2]
      by_cases h3 : τ 20 v ≤ τ 20 u + 1
      · rw [if_pos h3, if_neg (fun q => q.2.elim h2 (fun q => q h3))]
        exact ⟨_, rfl, fun k hk => rfl, rfl⟩
      · rw [if_neg h3, if_pos ⟨h1, Or.inr h3⟩]
        exact ⟨_, rfl, fun k hk => zs_ne hk, zs_at⟩
/-- what both measurings know of the house -/
def hG (N : Nat → Nat) (σ τ : zS) : Prop := N 0 ≤ 10 ∧ N 1 ≤ 15 ∧ σ 1 0 = nI (N 0) ∧ τ 0 4 = nI (N 0) ∧ σ 1 1 = nI (N 1) ∧ τ 0 5 = nI (N 1) ∧ ∀ d, d < N 1 → (∃ a b, a < N 0 ∧ b < N 0 ∧ σ 2 d = nI a ∧ σ 3 d = nI b ∧ τ 3 d = nI a ∧ τ 4 d = nI b) ∧ ((σ 28 d = 0 ∧ τ 1 (12 + d) = 1) ∨ (σ 28 d = 1 ∧ τ 1 (12 + d) = 0))
theorem hG_of {N : Nat → Nat} {σ τ : zS} (hS : pSt N σ τ) (hq : qD N (pM 24 σ) (τ 1)) : hG N σ τ := by
  obtain ⟨⟨s0, s1, -⟩, hDo, -⟩ := hS
  exact ⟨s0.1, s1.1, s0.2.1, s0.2.2, s1.2.1, s1.2.2, fun d hd => ⟨hDo d hd, (hq d (by have := s1.1; omega)).1 hd⟩⟩
theorem dT_succ {N : Nat → Nat} {σ : zS} {i a b u v : Nat} (hN : N 0 ≤ 10) (ha : a < N 0) (hb : b < N 0) (h2 : σ 2 i = nI a) (h3 : σ 3 i = nI b) (h : dT N σ (i + 1) u v) : dT N σ i u v ∨ (u = a ∧ v = b) ∨ (u = b ∧ v = a) := by
  obtain ⟨h4, h5, d, h6, h7, h8⟩ := h
  by_cases hd : d = i
  · subst hd
    rcases h8 with ⟨e1, e2⟩ | ⟨e1, e2⟩
    · exact Or.inr (Or.inl ⟨n_eqI (by omega) (by omega) (e1.symm.trans h2), n_eqI (by omega) (by omega) (e2.symm.trans h3)⟩)
    · exact Or.inr (Or.inr ⟨n_eqI (by omega) (by omega) (e2.symm.trans h3), n_eqI (by omega) (by omega) (e1.symm.trans h2)⟩)
  · exact Or.inl ⟨h4, h5, d, by omega, h7, h8⟩
theorem dT_shut {N : Nat → Nat} {σ : zS} {i u v : Nat} (hs : ¬ σ 28 i = 0) (h : dT N σ (i + 1) u v) : dT N σ i u v := by
  obtain ⟨h4, h5, d, h6, h7, h8⟩ := h
  by_cases hd : d = i
  · subst hd; exact absurd h7 hs
  · exact ⟨h4, h5, d, by omega, h7, h8⟩
theorem p_measure {N : Nat → Nat} {σ τ : zS} {g : Nat} (hH : hG N σ τ) (hg : g < N 0) : ∃ σ1, f_X3_measureTo (nI g) σ = some (0, σ1) ∧ (∀ k, k ≠ 4 → σ1 k = σ k) ∧ gF (dT N σ (N 1)) g (N 0) (σ1 4) := by
  obtain ⟨n10', n15, e0, -, e1, -, hd⟩ := hH
  obtain ⟨a1, l1, f1, m1⟩ : ∃ a1, z_loop (b_X3_measureTo_L2 (nI g)) zfuel (0, σ) = some a1 ∧ (∀ k, k ≠ 4 → a1.2 k = σ k) ∧ ∀ v, v < N 0 → a1.2 4 v = -1 := by
    refine lp_1 (fun i (a : Int32 × zS) => a.1 = nI i ∧ (∀ k, k ≠ 4 → a.2 k = σ k) ∧ ∀ v, v < i → a.2 4 v = -1) (fun a => (∀ k, k ≠ 4 → a.2 k = σ k) ∧ ∀ v, v < N 0 → a.2 4 v = -1) (N 0) ?_ zfuel 0 (0, σ) (Nat.zero_le _) ⟨rfl, fun _ _ => rfl, fun v hv => absurd hv (by omega)⟩ (by show N 0 - 0 < 2048; omega)
    intro i ⟨x, σ'⟩ hi ⟨ex, hf, hv⟩
    dsimp only at ex hf hv
    subst ex
    unfold b_X3_measureTo_L2
    dsimp only
    have er : σ' 1 0 = nI (N 0) := by rw [hf 1 (by decide)]; exact e0
    by_cases hin : i = N 0
    · subst hin
      right
      have c : σ' 1 0 ≤ nI (N 0) := by rw [er]; exact nI_le (Nat.le_refl _) (by omega)
      rw [if_pos c]
      exact ⟨_, rfl, hf, hv⟩
    · left
      have c : ¬ σ' 1 0 ≤ nI i := by rw [er]; exact nI_ge (by omega) (by omega)
      rw [if_neg c, zg_n (show i < 10 by omega) (by decide), zl_eq, ix_n (by omega), nI_1]
      refine ⟨_, rfl, by omega, rfl, fun k hk => (zs_ne hk).trans (hf k hk), fun v hv' => ?_⟩
      show zs σ' 4 i (-1) 4 v = -1
      rw [zs_at]
      by_cases hvi : v = i
      · subst hvi; exact up_at
      · rw [up_ne hvi]; exact hv v (by omega)
  obtain ⟨a2, l2, f2, m2⟩ : ∃ a2, z_loop (b_X3_measureTo_L32 (nI g)) zfuel (0, zs a1.2 4 g 0) = some a2 ∧ (∀ k, k ≠ 4 → a2.2 k = σ k) ∧ mP (dT N σ (N 1)) g (N 0) (N 0) (a2.2 4) := by
    refine lp_1 (fun far (a : Int32 × zS) => a.1 = nI far ∧ (∀ k, k ≠ 4 → a.2 k = σ k) ∧ mP (dT N σ (N 1)) g (N 0) far (a.2 4)) (fun a => (∀ k, k ≠ 4 → a.2 k = σ k) ∧ mP (dT N σ (N 1)) g (N 0) (N 0) (a.2 4)) (N 0) ?_ zfuel 0 (0, zs a1.2 4 g 0) (Nat.zero_le _) ⟨rfl, fun k hk => (zs_ne hk).trans (f1 k hk), fun v hv => ?_⟩ (by show N 0 - 0 < 2048; omega)
    · intro far ⟨x, σ'⟩ hi ⟨ex, hf, hv⟩
      dsimp only at ex hf hv
      subst ex
      unfold b_X3_measureTo_L32
      dsimp only
      have er : σ' 1 0 = nI (N 0) := by rw [hf 1 (by decide)]; exact e0
      by_cases hin : far = N 0
      · subst hin
        right
        have c : σ' 1 0 ≤ nI (N 0) := by rw [er]; exact nI_le (Nat.le_refl _) (by omega)
        rw [if_pos c]
        exact ⟨_, rfl, hf, hv⟩
      · left
        have c : ¬ σ' 1 0 ≤ nI far := by rw [er]; exact nI_ge (by omega) (by omega)
        rw [if_neg c]
        obtain ⟨b1, k1, k2, k3⟩ : ∃ b1, z_loop (b_X3_measureTo_L43 (nI g) (nI far)) zfuel (0, σ') = some b1 ∧ (∀ k, k ≠ 4 → b1.2 k = σ k) ∧ mQ (dT N σ (N 1)) (dT N σ (N 1)) g (N 0) far (b1.2 4) := by
          refine lp_1 (fun i (a : Int32 × zS) => a.1 = nI i ∧ (∀ k, k ≠ 4 → a.2 k = σ k) ∧ mQ (dT N σ (N 1)) (dT N σ i) g (N 0) far (a.2 4)) (fun a => (∀ k, k ≠ 4 → a.2 k = σ k) ∧ mQ (dT N σ (N 1)) (dT N σ (N 1)) g (N 0) far (a.2 4)) (N 1) ?_ zfuel 0 (0, σ') (Nat.zero_le _) ⟨rfl, hf, mQ_T (fun a b h => by obtain ⟨-, -, d, h1, -⟩ := h; omega) (mQ_0 hv)⟩ (by show N 1 - 0 < 2048; omega)
          intro i ⟨y, ρ⟩ hi2 ⟨ey, hf2, hv2⟩
          dsimp only at ey hf2 hv2
          subst ey
          unfold b_X3_measureTo_L43
          dsimp only
          have er2 : ρ 1 1 = nI (N 1) := by rw [hf2 1 (by decide)]; exact e1
          by_cases hin2 : i = N 1
          · subst hin2
            right
            have c : ρ 1 1 ≤ nI (N 1) := by rw [er2]; exact nI_le (Nat.le_refl _) (by omega)
            rw [if_pos c]
            exact ⟨_, rfl, hf2, hv2⟩
          · left
            have hlt : i < N 1 := by omega
            have c : ¬ ρ 1 1 ≤ nI i := by rw [er2]; exact nI_ge hlt (by omega)
            have zI : ∀ {α : Type} (e : Option α), zg (z_in (nI i) 15) e = e := fun e => zg_n (by omega) (by decide) e
            have iI : (nI i).toNatClampNeg = i := ix_n (by omega)
            obtain ⟨⟨a, b, ha, hb, a2, a3, -, -⟩, hop⟩ := hd i hlt
            rw [if_neg c]
            simp only [zI, iI, nI_1]
            have r28 : ρ 28 = σ 28 := hf2 28 (by decide)
            have r2 : ρ 2 = σ 2 := hf2 2 (by decide)
            have r3 : ρ 3 = σ 3 := hf2 3 (by decide)
            rcases hop with ⟨o1, -⟩ | ⟨o1, -⟩
            · have co : ρ 28 i = 0 := by rw [r28]; exact o1
              rw [if_pos co, r2, r3, a2, a3]
              obtain ⟨ρ1, g1, g2, g3⟩ := p_spread (u := a) (v := b) (far := far) (σ := ρ) (by omega) (by omega)
              have Eab : dT N σ (N 1) a b := ⟨ha, hb, i, hlt, o1, Or.inl ⟨a2, a3⟩⟩
              have Eba : dT N σ (N 1) b a := ⟨hb, ha, i, hlt, o1, Or.inr ⟨a2, a3⟩⟩
              have q1 := mQ_step (T' := fun x y => dT N σ i x y ∨ (x = a ∧ y = b)) (by omega) ha hb Eab (fun x y h => h) hv2 g3
              obtain ⟨ρ2, g4, g5, g6⟩ := p_spread (u := b) (v := a) (far := far) (σ := ρ1) (by omega) (by omega)
              have q2 := mQ_step (T' := dT N σ (i + 1)) (by omega) hb ha Eba (fun x y h => by
                rcases dT_succ n10' ha hb a2 a3 h with h | h | h
                · exact Or.inl (Or.inl h)
                · exact Or.inl (Or.inr h)
                · exact Or.inr h) q1 g6
              have r2' : ρ1 2 = σ 2 := (g2 2 (by decide)).trans r2
              have r3' : ρ1 3 = σ 3 := (g2 3 (by decide)).trans r3
              rw [g1, zb_some, r2', r3', a2, a3, g4, zb_some]
              exact ⟨_, rfl, hlt, rfl, fun k hk => (g5 k hk).trans ((g2 k hk).trans (hf2 k hk)), q2⟩
            · have co : ¬ ρ 28 i = 0 := by rw [r28, o1]; exact n10
              rw [if_neg co]
              exact ⟨_, rfl, hlt, rfl, hf2, mQ_T (fun x y h => dT_shut (by rw [o1]; exact n10) h) hv2⟩
        rw [k1, Option.bind_some, nI_1]
        exact ⟨_, rfl, by omega, rfl, k2, mQ_end (fun u v h => h) k3⟩
    · show (∃ k, k ≤ 0 ∧ gD _ g k v ∧ zs a1.2 4 g 0 4 v = nI k) ∨ ((∀ k, k ≤ 0 → ¬ gW _ g k v) ∧ zs a1.2 4 g 0 4 v = -1)
      rw [zs_at]
      by_cases hvg : v = g
      · subst hvg
        rw [up_at]
        exact Or.inl ⟨0, Nat.le_refl _, ⟨rfl, fun j hj => absurd hj (by omega)⟩, rfl⟩
      · rw [up_ne hvg]
        refine Or.inr ⟨fun k hk hw => ?_, m1 v hv⟩
        have : k = 0 := by omega
        subst this
        exact hvg hw
  refine ⟨a2.2, ?_, f2, mP_end hg (fun u v h => h.2.1) m2⟩
  unfold f_X3_measureTo
  rw [l1, Option.bind_some, zg_n (show g < 10 by omega) (by decide), zl_eq, ix_n (by omega), l2, Option.bind_some]
theorem p_ways {N : Nat → Nat} {σ τ : zS} {g : Nat} (hH : hG N σ τ) (hg : g < N 0) : ∃ τ1, f_X8_findWays (nI g) τ = some (0, τ1) ∧ (∀ k, k ≠ 20 → τ1 k = τ k) ∧ gF (dT N σ (N 1)) g (N 0) (τ1 20) := by
  obtain ⟨n10', n15, -, e0, -, e1, hd⟩ := hH
  obtain ⟨a1, l1, f1, m1⟩ : ∃ a1, z_loop (b_X8_findWays_L2 (nI g)) zfuel (0, τ) = some a1 ∧ (∀ k, k ≠ 20 → a1.2 k = τ k) ∧ ∀ v, v < N 0 → a1.2 20 v = if v = g then 0 else -1 := by
    refine lp_1 (fun i (a : Int32 × zS) => a.1 = nI i ∧ (∀ k, k ≠ 20 → a.2 k = τ k) ∧ ∀ v, v < i → a.2 20 v = if v = g then 0 else -1) (fun a => (∀ k, k ≠ 20 → a.2 k = τ k) ∧ ∀ v, v < N 0 → a.2 20 v = if v = g then 0 else -1) (N 0) ?_ zfuel 0 (0, τ) (Nat.zero_le _) ⟨rfl, fun _ _ => rfl, fun v hv => absurd hv (by omega)⟩ (by show N 0 - 0 < 2048; omega)
    intro i ⟨x, τ'⟩ hi ⟨ex, hf, hv⟩
    dsimp only at ex hf hv
    subst ex
    unfold b_X8_findWays_L2
    dsimp only
    have er : τ' 0 4 = nI (N 0) := by rw [hf 0 (by decide)]; exact e0
    by_cases hin : i = N 0
    · subst hin
      right
      have c : τ' 0 4 ≤ nI (N 0) := by rw [er]; exact nI_le (Nat.le_refl _) (by omega)
      rw [if_pos c]
      exact ⟨_, rfl, hf, hv⟩
    · left
      have c : ¬ τ' 0 4 ≤ nI i := by rw [er]; exact nI_ge (by omega) (by omega)
      rw [if_neg c]
      simp only [zg_n (show i < 10 by omega) (show 10 ≤ 100000 by decide), zl_eq, ix_n (show i ≤ 100000 by omega), nI_1]
      by_cases hig : i = g
      · rw [if_pos (by rw [hig])]
        refine ⟨_, rfl, by omega, rfl, fun k hk => (zs_ne hk).trans (hf k hk), fun v hv' => ?_⟩
        show zs τ' 20 i 0 20 v = _
        rw [zs_at]
        by_cases hvi : v = i
        · subst hvi; rw [up_at, if_pos hig]
        · rw [up_ne hvi]; exact hv v (by omega)
      · rw [if_neg (fun e => hig (n_eqI (by omega) (by omega) e))]
        refine ⟨_, rfl, by omega, rfl, fun k hk => (zs_ne hk).trans (hf k hk), fun v hv' => ?_⟩
        show zs τ' 20 i (-1) 20 v = _
        rw [zs_at]
        by_cases hvi : v = i
        · subst hvi; rw [up_at, if_neg hig]
        · rw [up_ne hvi]; exact hv v (by omega)
  obtain ⟨a2, l2, f2, m2, m3⟩ : ∃ a2, z_loop (b_X8_findWays_L34 (nI g)) zfuel (0, a1.2) = some a2 ∧ (∀ k, k ≠ 20 → a2.2 k = τ k) ∧ wS (dT N σ (N 1)) g (N 0) (100 * N 0) (a2.2 20) ∧ ∀ v, v < N 0 → ∀ k, k ≤ N 0 → gD (dT N σ (N 1)) g k v → a2.2 20 v = nI k := by
    refine lp_1 (fun r (a : Int32 × zS) => a.1 = nI r ∧ (∀ k, k ≠ 20 → a.2 k = τ k) ∧ wS (dT N σ (N 1)) g (N 0) (100 * r) (a.2 20) ∧ ∀ v, v < N 0 → ∀ k, k ≤ r → gD (dT N σ (N 1)) g k v → a.2 20 v = nI k) (fun a => (∀ k, k ≠ 20 → a.2 k = τ k) ∧ wS (dT N σ (N 1)) g (N 0) (100 * N 0) (a.2 20) ∧ ∀ v, v < N 0 → ∀ k, k ≤ N 0 → gD (dT N σ (N 1)) g k v → a.2 20 v = nI k) (N 0) ?_ zfuel 0 (0, a1.2) (Nat.zero_le _) ⟨rfl, f1, fun v hv => ?_, fun v hv k hk hd => ?_⟩ (by show N 0 - 0 < 2048; omega)
    · intro r ⟨x, τ'⟩ hi ⟨ex, hf, hv, hw⟩
      dsimp only at ex hf hv hw
      subst ex
      unfold b_X8_findWays_L34
      dsimp only
      have er : τ' 0 4 = nI (N 0) := by rw [hf 0 (by decide)]; exact e0
      by_cases hin : r = N 0
      · subst hin
        right
        have c : τ' 0 4 ≤ nI (N 0) := by rw [er]; exact nI_le (Nat.le_refl _) (by omega)
        rw [if_pos c]
        exact ⟨_, rfl, hf, hv, hw⟩
      · left
        have c : ¬ τ' 0 4 ≤ nI r := by rw [er]; exact nI_ge (by omega) (by omega)
        rw [if_neg c]
        obtain ⟨b1, k1, k2, k3, k4⟩ : ∃ b1, z_loop (b_X8_findWays_L44 (nI g) (nI r)) zfuel (0, τ') = some b1 ∧ (∀ k, k ≠ 20 → b1.2 k = τ k) ∧ wS (dT N σ (N 1)) g (N 0) (100 * (r + 1)) (b1.2 20) ∧ wC (dT N σ (N 1)) (dT N σ (N 1)) g (N 0) r (b1.2 20) := by
          refine lp_1 (fun i (a : Int32 × zS) => a.1 = nI i ∧ (∀ k, k ≠ 20 → a.2 k = τ k) ∧ wS (dT N σ (N 1)) g (N 0) (100 * r + 2 * i) (a.2 20) ∧ wC (dT N σ (N 1)) (dT N σ i) g (N 0) r (a.2 20)) (fun a => (∀ k, k ≠ 20 → a.2 k = τ k) ∧ wS (dT N σ (N 1)) g (N 0) (100 * (r + 1)) (a.2 20) ∧ wC (dT N σ (N 1)) (dT N σ (N 1)) g (N 0) r (a.2 20)) (N 1) ?_ zfuel 0 (0, τ') (Nat.zero_le _) ⟨rfl, hf, hv, wC_T (fun a b h => by obtain ⟨-, -, d, h1, -⟩ := h; omega) (wC_0 hw)⟩ (by show N 1 - 0 < 2048; omega)
          intro i ⟨y, ρ⟩ hi2 ⟨ey, hf2, hv2, hw2⟩
          dsimp only at ey hf2 hv2 hw2
          subst ey
          unfold b_X8_findWays_L44
          dsimp only
          have er2 : ρ 0 5 = nI (N 1) := by rw [hf2 0 (by decide)]; exact e1
          by_cases hin2 : i = N 1
          · subst hin2
            right
            have c : ρ 0 5 ≤ nI (N 1) := by rw [er2]; exact nI_le (Nat.le_refl _) (by omega)
            rw [if_pos c]
            exact ⟨_, rfl, hf2, wS_le (by omega) hv2, hw2⟩
          · left
            have hlt : i < N 1 := by omega
            have c : ¬ ρ 0 5 ≤ nI i := by rw [er2]; exact nI_ge hlt (by omega)
            have zI : ∀ {α : Type} (e : Option α), zg (z_in (nI i) 15) e = e := fun e => zg_n (by omega) (by decide) e
            have iI : (nI i).toNatClampNeg = i := ix_n (by omega)
            have zM : ∀ {e : Option (Bool × (Int32 × zS))}, zg (z_in (12 + nI i) 192) e = e := zgM (b := 12) 12 rfl (show 12 + i < 192 by omega) (by decide)
            have iM : (12 + nI i).toNatClampNeg = 12 + i := ixM (b := 12) 12 rfl (show 12 + i ≤ 100000 by omega)
            obtain ⟨⟨a, b, ha, hb, a2, a3, a4, a5⟩, hop⟩ := hd i hlt
            rw [if_neg c]
            simp only [zI, iI, zM, iM, nI_1]
            have r1 : ρ 1 = τ 1 := hf2 1 (by decide)
            have r3 : ρ 3 = τ 3 := hf2 3 (by decide)
            have r4 : ρ 4 = τ 4 := hf2 4 (by decide)
            rcases hop with ⟨o1, o2⟩ | ⟨o1, o2⟩
            · have co : ρ 1 (12 + i) = 1 := by rw [r1]; exact o2
              rw [if_pos co, r3, r4, a4, a5]
              obtain ⟨ρ1, g1, g2, g3⟩ := p_step (u := a) (v := b) (τ := ρ) (by omega) (by omega)
              have Eab : dT N σ (N 1) a b := ⟨ha, hb, i, hlt, o1, Or.inl ⟨a2, a3⟩⟩
              have Eba : dT N σ (N 1) b a := ⟨hb, ha, i, hlt, o1, Or.inr ⟨a2, a3⟩⟩
              obtain ⟨q1, q2⟩ := w_step (T' := fun x y => dT N σ i x y ∨ (x = a ∧ y = b)) (by omega) (by omega) ha hb Eab (fun x y h => h) hv2 hw2 g3
              obtain ⟨ρ2, g4, g5, g6⟩ := p_step (u := b) (v := a) (τ := ρ1) (by omega) (by omega)
              obtain ⟨q3, q4⟩ := w_step (T' := dT N σ (i + 1)) (by omega) (by omega) hb ha Eba (fun x y h => by
                rcases dT_succ n10' ha hb a2 a3 h with h | h | h
                · exact Or.inl (Or.inl h)
                · exact Or.inl (Or.inr h)
                · exact Or.inr h) q1 q2 g6
              have r3' : ρ1 3 = τ 3 := (g2 3 (by decide)).trans r3
              have r4' : ρ1 4 = τ 4 := (g2 4 (by decide)).trans r4
              rw [g1, zb_some, r3', r4', a4, a5, g4, zb_some]
              exact ⟨_, rfl, hlt, rfl, fun k hk => (g5 k hk).trans ((g2 k hk).trans (hf2 k hk)), wS_le (by omega) q3, q4⟩
            · have co : ¬ ρ 1 (12 + i) = 1 := by rw [r1, o2]; decide
              rw [if_neg co]
              exact ⟨_, rfl, hlt, rfl, hf2, wS_le (by omega) hv2, wC_T (fun x y h => dT_shut (by rw [o1]; exact n10) h) hw2⟩
        rw [k1, Option.bind_some, nI_1]
        exact ⟨_, rfl, by omega, rfl, k2, k3, wC_end (fun u v h => h) k4⟩
    · show a1.2 20 v = -1 ∨ _
      rw [m1 v hv]
      by_cases hvg : v = g
      · exact Or.inr ⟨0, by omega, hvg, by rw [if_pos hvg]; rfl⟩
      · exact Or.inl (if_neg hvg)
    · have : k = 0 := by omega
      subst this
      have hvg : v = g := hd.1
      show a1.2 20 v = nI 0
      rw [m1 v hv, if_pos hvg]
      rfl
  refine ⟨a2.2, ?_, f2, w_end (by omega) hg (fun u v h => h.2.1) m2 m3⟩
  unfold f_X8_findWays
  rw [l1, Option.bind_some, l2, Option.bind_some]
theorem sm_way (x y : Int32) : Sm RR (f_X7_way x y) (f_X8_way x y) := by
  intro σ τ ⟨N, hS, hA, hP, h26, h27⟩
  obtain ⟨⟨s0, s1, s2, s3, s4, s5, s6⟩, hDo, hDe, hLe, hEv, hTi, hDa, hPc⟩ := id hS
  have hR : RR σ τ := ⟨N, hS, hA, hP, h26, h27⟩
  unfold f_X7_way f_X8_way
  rw [s0.2.1, s0.2.2]
  rcases (p_there x (N 0) (by omega) σ τ).symm with ⟨e1, e2⟩ | ⟨a, ha, rfl, e1, e2⟩
  · exact ⟨-2, σ, τ, by rw [e1, zb_some, if_pos rfl], by rw [e2, zb_some, if_pos rfl], hR⟩
  rw [e1, e2, zb_some, zb_some, if_neg n10, if_neg n10, s0.2.1, s0.2.2]
  rcases (p_there y (N 0) (by omega) σ τ).symm with ⟨e3, e4⟩ | ⟨b, hb, rfl, e3, e4⟩
  · exact ⟨-2, σ, τ, by rw [e3, zb_some, if_pos rfl], by rw [e4, zb_some, if_pos rfl], hR⟩
  rw [e3, e4, zb_some, zb_some, if_neg n10, if_neg n10]
  have hH := hG_of hS hA.2.2.2.1
  obtain ⟨σ1, g1, g2, g3⟩ := p_measure hH hb
  obtain ⟨τ1, g4, g5, g6⟩ := p_ways hH hb
  have e5 := gF_eq g3 g6 a ha
  have hc : gC σ σ1 := ⟨fun k x0 x1 x2 x3 x4 x5 => g2 k x1, by rw [g2 24 (by decide)]⟩
  have hm : gM τ τ1 := ⟨fun k x0 x1 x2 x3 x4 => g5 k x4, fun j x0 x1 x2 => by rw [g5 0 (by decide)]⟩
  have h10 : a < 10 := by have := s0.1; omega
  refine ⟨σ1 4 a, σ1, τ1, ?_, ?_, N, pSt_g hS hc hm, ?_, pPa_g hP hc hm, by rw [g5 0 (by decide)]; exact h26, by rw [g5 0 (by decide)]; exact h27⟩
  · rw [g1, zb_some, zg_n h10 (by decide), ix_n (by omega)]
  · rw [g4, zb_some, zg_n h10 (by decide), ix_n (by omega), e5]
  · rw [g5 1 (by decide)]
    exact qA_m hA (fun j hj => g2 _ (by omega))
