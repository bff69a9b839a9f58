theorem vb_01 {x : Int32} (h : x = 0 ∨ x = 1) : vp_nar .boolean x = x := by
  rcases h with rfl | rfl <;> rfl
/-- flags are copied -/
theorem p_flags {k1 k2 kl : Nat} {σ : zS} (hne : k1 ≠ k2) (hkl : kl ≤ 15) (hb : ∀ i, i < kl → σ k1 i = 0 ∨ σ k1 i = 1) : ∃ σ1, f_X4_copyFlags k1 k2 kl σ = some (0, σ1) ∧ (∀ k, k ≠ k2 → σ1 k = σ k) ∧ ∀ i, i < kl → σ1 k2 i = σ k1 i := by
  obtain ⟨⟨x, σ'⟩, l1, h1, h2⟩ : ∃ a : Int32 × zS, z_loop (b_X4_copyFlags_L2 k1 k2 kl) zfuel (0, σ) = some a ∧ (∀ k, k ≠ k2 → a.2 k = σ k) ∧ ∀ i, i < kl → a.2 k2 i = σ k1 i := by
    refine lp_1 (fun i (a : Int32 × zS) => a.1 = nI i ∧ (∀ k, k ≠ k2 → a.2 k = σ k) ∧ ∀ x, x < i → a.2 k2 x = σ k1 x) _ kl ?_ zfuel 0 (0, σ) (Nat.zero_le _) ⟨rfl, fun _ _ => rfl, fun x hx => by omega⟩ (by show kl - 0 < 2048; omega)
    intro i ⟨x, σ'⟩ hi ⟨ex, h1, h2⟩
    dsimp only at ex h1 h2
    subst ex
    unfold b_X4_copyFlags_L2
    dsimp only
    by_cases hin : i = kl
    · right
      subst hin
      rw [if_pos (show Int32.ofNat i ≤ nI i from nI_le (Nat.le_refl _) (by omega))]
      exact ⟨_, rfl, h1, h2⟩
    · left
      have hc : ¬ Int32.ofNat kl ≤ nI i := nI_ge (by omega) (by omega)
      rw [if_neg hc, if_neg hc]
      simp only [zg_n (show i < kl by omega) (show kl ≤ 100000 by omega), ix_n (show i ≤ 100000 by omega), zl_eq, nI_1]
      refine ⟨_, rfl, by omega, rfl, fun k hk => (zs_ne hk).trans (h1 k hk), fun y hy => ?_⟩
      dsimp only
      rw [zs_at, h1 k1 hne, vb_01 (hb i (by omega))]
      by_cases hyi : y = i
      · rw [hyi, up_at]
      · rw [up_ne hyi]
        exact h2 y (by omega)
  refine ⟨σ', ?_, h1, h2⟩
  unfold f_X4_copyFlags
  rw [l1, Option.bind_some]
theorem fl_k {k1 k2 kl : Nat} {σ : zS} (F : zS → Option (Int32 × zS)) (P : zS → Prop) (hne : k1 ≠ k2) (hkl : kl ≤ 15) (hb : ∀ i, i < kl → σ k1 i = 0 ∨ σ k1 i = 1) (h : ∀ σ1, (∀ k, k ≠ k2 → σ1 k = σ k) → (∀ i, i < kl → σ1 k2 i = σ k1 i) → ∃ σ2, F σ1 = some (0, σ2) ∧ P σ2) : ∃ σ2, (zb (f_X4_copyFlags k1 k2 kl σ) fun _ s => F s) = some (0, σ2) ∧ P σ2 := by
  obtain ⟨σ1, h1, h2, h3⟩ := p_flags hne hkl hb
  rw [h1, zb_some]
  exact h σ1 h2 h3
theorem zl_u {σ : zS} {k : Nat} {f : Nat → Int32} (F : zS → Option (Int32 × zS)) (P : zS → Prop) (h : ∀ σ1, (∀ j, j ≠ k → σ1 j = σ j) → σ1 k = f → ∃ σ2, F σ1 = some (0, σ2) ∧ P σ2) : ∃ σ2, zl (va_up σ k f) F = some (0, σ2) ∧ P σ2 := h _ (fun _ hj => va_up_ne _ _ hj) (va_up_self _ _ _)
theorem zl_s {σ : zS} {k j : Nat} {v : Int32} (F : zS → Option (Int32 × zS)) (P : zS → Prop) (h : ∀ σ1, (∀ j, j ≠ k → σ1 j = σ j) → σ1 k = upd (σ k) j v → ∃ σ2, F σ1 = some (0, σ2) ∧ P σ2) : ∃ σ2, zl (zs σ k j v) F = some (0, σ2) ∧ P σ2 := h _ (fun _ hj => va_up_ne _ _ hj) (va_up_self _ _ _)
def cpR (A B : Nat) (σ σ' : zS) : Prop := (∀ k, (k < A ∨ A + 10 ≤ k) → σ' k = σ k) ∧ (∀ j, j < 6 → σ' A j = σ B j) ∧ (∀ j, j < 40 → σ' (A + 1) j = σ (B + 1) j) ∧ (∀ j, j < 40 → σ' (A + 2) j = σ (B + 2) j) ∧ (∀ j, j < 8 → σ' (A + 3) j = σ (B + 3) j) ∧ (∀ j, j < 15 → σ' (A + 4) j = σ (B + 4) j) ∧ (∀ j, j < 4 → σ' (A + 5) j = σ (B + 5) j) ∧ (∀ j, j < 4 → σ' (A + 6) j = σ (B + 6) j) ∧ (∀ j, j < 12 → σ' (A + 7) j = σ (B + 7) j) ∧ (∀ j, j < 12 → σ' (A + 8) j = σ (B + 8) j) ∧ ∀ j, j < 12 → σ' (A + 9) j = σ (B + 9) j
/-- a moment is copied -/
theorem p_copy {a b A B : Nat} {σ : zS} (hA : z_mo a = A) (hB : z_mo b = B) (hd : A + 10 ≤ B ∨ B + 10 ≤ A) (h4 : ∀ i, i < 15 → σ (B + 4) i = 0 ∨ σ (B + 4) i = 1) (h8 : ∀ i, i < 12 → σ (B + 8) i = 0 ∨ σ (B + 8) i = 1) (h9 : ∀ i, i < 12 → σ (B + 9) i = 0 ∨ σ (B + 9) i = 1) : ∃ σ1, f_X4_copyFrom a b σ = some (0, σ1) ∧ cpR A B σ σ1 := by
  unfold f_X4_copyFrom
  rw [hA, hB]
  refine zl_s _ _ (fun σ1 o1 v1 => ?_)
  have b1 : ∀ k, (k < A ∨ A + 10 ≤ k) → σ1 k = σ k := fun k hk => o1 k (by omega)
  refine zl_s _ _ (fun σ2 o2 v2 => ?_)
  have b2 : ∀ k, (k < A ∨ A + 10 ≤ k) → σ2 k = σ k := fun k hk => (o2 k (by omega)).trans (b1 k hk)
  refine zl_s _ _ (fun σ3 o3 v3 => ?_)
  have b3 : ∀ k, (k < A ∨ A + 10 ≤ k) → σ3 k = σ k := fun k hk => (o3 k (by omega)).trans (b2 k hk)
  refine zl_s _ _ (fun σ4 o4 v4 => ?_)
  have b4 : ∀ k, (k < A ∨ A + 10 ≤ k) → σ4 k = σ k := fun k hk => (o4 k (by omega)).trans (b3 k hk)
  refine zl_s _ _ (fun σ5 o5 v5 => ?_)
  have b5 : ∀ k, (k < A ∨ A + 10 ≤ k) → σ5 k = σ k := fun k hk => (o5 k (by omega)).trans (b4 k hk)
  refine zl_s _ _ (fun σ6 o6 v6 => ?_)
  have b6 : ∀ k, (k < A ∨ A + 10 ≤ k) → σ6 k = σ k := fun k hk => (o6 k (by omega)).trans (b5 k hk)
  refine zl_u _ _ (fun σ7 o7 v7 => ?_)
  have b7 : ∀ k, (k < A ∨ A + 10 ≤ k) → σ7 k = σ k := fun k hk => (o7 k (by omega)).trans (b6 k hk)
  refine zl_u _ _ (fun σ8 o8 v8 => ?_)
  have b8 : ∀ k, (k < A ∨ A + 10 ≤ k) → σ8 k = σ k := fun k hk => (o8 k (by omega)).trans (b7 k hk)
  refine zl_u _ _ (fun σ9 o9 v9 => ?_)
  have b9 : ∀ k, (k < A ∨ A + 10 ≤ k) → σ9 k = σ k := fun k hk => (o9 k (by omega)).trans (b8 k hk)
  refine fl_k _ _ (by omega) (by omega) (fun i hi => by rw [b9 _ (by omega)]; exact h4 i hi) (fun σ10 o10 v10 => ?_)
  have b10 : ∀ k, (k < A ∨ A + 10 ≤ k) → σ10 k = σ k := fun k hk => (o10 k (by omega)).trans (b9 k hk)
  refine zl_u _ _ (fun σ11 o11 v11 => ?_)
  have b11 : ∀ k, (k < A ∨ A + 10 ≤ k) → σ11 k = σ k := fun k hk => (o11 k (by omega)).trans (b10 k hk)
  refine zl_u _ _ (fun σ12 o12 v12 => ?_)
  have b12 : ∀ k, (k < A ∨ A + 10 ≤ k) → σ12 k = σ k := fun k hk => (o12 k (by omega)).trans (b11 k hk)
  refine zl_u _ _ (fun σ13 o13 v13 => ?_)
  have b13 : ∀ k, (k < A ∨ A + 10 ≤ k) → σ13 k = σ k := fun k hk => (o13 k (by omega)).trans (b12 k hk)
  refine fl_k _ _ (by omega) (by omega) (fun i hi => by rw [b13 _ (by omega)]; exact h8 i hi) (fun σ14 o14 v14 => ?_)
  have b14 : ∀ k, (k < A ∨ A + 10 ≤ k) → σ14 k = σ k := fun k hk => (o14 k (by omega)).trans (b13 k hk)
  refine fl_k _ _ (by omega) (by omega) (fun i hi => by rw [b14 _ (by omega)]; exact h9 i hi) (fun σ15 o15 v15 => ?_)
  have b15 : ∀ k, (k < A ∨ A + 10 ≤ k) → σ15 k = σ k := fun k hk => (o15 k (by omega)).trans (b14 k hk)
  refine ⟨σ15, rfl, b15, ?_, ?_, ?_, ?_, ?_, ?_, ?_, ?_, ?_, ?_⟩
  · intro j hj
    rw [o15 A (by omega), o14 A (by omega), o13 A (by omega), o12 A (by omega), o11 A (by omega), o10 A (by omega), o9 A (by omega), o8 A (by omega), o7 A (by omega), v6, v5, v4, v3, v2, v1, b5 B (by omega), b4 B (by omega), b3 B (by omega), b2 B (by omega), b1 B (by omega)]
    have h6 : j = 0 ∨ j = 1 ∨ j = 2 ∨ j = 3 ∨ j = 4 ∨ j = 5 := by omega
    rcases h6 with rfl | rfl | rfl | rfl | rfl | rfl <;> simp [upd]
  · intro j hj
    rw [o15 (A + 1) (by omega), o14 (A + 1) (by omega), o13 (A + 1) (by omega), o12 (A + 1) (by omega), o11 (A + 1) (by omega), o10 (A + 1) (by omega), o9 (A + 1) (by omega), o8 (A + 1) (by omega), v7, pk_cpy_in (Nat.zero_le _) (by omega), b6 _ (by omega), Nat.zero_add, Nat.sub_zero]
  · intro j hj
    rw [o15 (A + 2) (by omega), o14 (A + 2) (by omega), o13 (A + 2) (by omega), o12 (A + 2) (by omega), o11 (A + 2) (by omega), o10 (A + 2) (by omega), o9 (A + 2) (by omega), v8, pk_cpy_in (Nat.zero_le _) (by omega), b7 _ (by omega), Nat.zero_add, Nat.sub_zero]
  · intro j hj
    rw [o15 (A + 3) (by omega), o14 (A + 3) (by omega), o13 (A + 3) (by omega), o12 (A + 3) (by omega), o11 (A + 3) (by omega), o10 (A + 3) (by omega), v9, pk_cpy_in (Nat.zero_le _) (by omega), b8 _ (by omega), Nat.zero_add, Nat.sub_zero]
  · intro j hj
    rw [o15 (A + 4) (by omega), o14 (A + 4) (by omega), o13 (A + 4) (by omega), o12 (A + 4) (by omega), o11 (A + 4) (by omega)]
    rw [v10 j hj, b9 _ (by omega)]
  · intro j hj
    rw [o15 (A + 5) (by omega), o14 (A + 5) (by omega), o13 (A + 5) (by omega), o12 (A + 5) (by omega), v11, pk_cpy_in (Nat.zero_le _) (by omega), b10 _ (by omega), Nat.zero_add, Nat.sub_zero]
  · intro j hj
    rw [o15 (A + 6) (by omega), o14 (A + 6) (by omega), o13 (A + 6) (by omega), v12, pk_cpy_in (Nat.zero_le _) (by omega), b11 _ (by omega), Nat.zero_add, Nat.sub_zero]
  · intro j hj
    rw [o15 (A + 7) (by omega), o14 (A + 7) (by omega), v13, pk_cpy_in (Nat.zero_le _) (by omega), b12 _ (by omega), Nat.zero_add, Nat.sub_zero]
  · intro j hj
    rw [o15 (A + 8) (by omega)]
    rw [v14 j hj, b13 _ (by omega)]
  · intro j hj
    rw [v15 j hj, b14 _ (by omega)]
theorem qA_b {N : Nat → Nat} {m : Nat → Nat → Int32} {g : Nat → Int32} (h : qA N m g) : (∀ i, i < 15 → m 4 i = 0 ∨ m 4 i = 1) ∧ (∀ i, i < 12 → m 8 i = 0 ∨ m 8 i = 1) ∧ ∀ i, i < 12 → m 9 i = 0 ∨ m 9 i = 1 := by
  obtain ⟨qt, qr, qc, qd, qw, ql, qo, qg⟩ := h
  refine ⟨fun i hi => ?_, fun i hi => ?_, fun i hi => ?_⟩
  · by_cases hn : i < N 1
    · rcases (qd i hi).1 hn with h | h
      · exact Or.inl h.1
      · exact Or.inr h.1
    · exact Or.inl ((qd i hi).2 (by omega))
  · by_cases hn : i < N 6
    · exact ((qo i hi).1 hn).2
    · exact Or.inl ((qo i hi).2 (by omega))
  · by_cases hn : i < N 4
    · exact ((qg i hi).1 hn).2
    · exact Or.inl ((qg i hi).2 (by omega))
theorem qA_cp {N : Nat → Nat} {A B : Nat} {σ σ' : zS} {g g' : Nat → Int32} (hN : N 2 ≤ 4) (hc : cpR A B σ σ') (hg : ∀ j, j < 192 → g' j = g j) (h : qA N (pM B σ) g) : qA N (pM A σ') g' := by
  obtain ⟨-, e0, e1, e2, e3, e4, e5, e6, e7, e8, e9⟩ := hc
  obtain ⟨⟨⟨t, t1, t2, t3⟩, t4, t5, s, t6, t7, t8⟩, ⟨k, r1, r2, r3, r4⟩, qc, qd, qw, ql, qo, qg⟩ := h
  refine ⟨⟨⟨t, t1, (e0 0 (by decide)).trans t2, (hg 0 (by decide)).trans t3⟩, ((e0 1 (by decide)).trans t4).trans (hg 1 (by decide)).symm, ((e0 2 (by decide)).trans t5).trans (hg 2 (by decide)).symm, s, t6, (e0 4 (by decide)).trans t7, (hg 3 (by decide)).trans t8⟩, ⟨k, r1, (e0 5 (by decide)).trans r2, (hg 71 (by decide)).trans r3, fun i hi => ?_⟩, ?_, ?_, ?_, ?_, ?_, ?_⟩
  · show σ' (A + 1) i = _ ∧ σ' (A + 2) i = _
    rw [e1 i (by omega), e2 i (by omega), hg _ (by omega), hg _ (by omega)]
    exact r4 i hi
  · intro c hc
    show σ' (A + 3) c = _ ∧ _ ≤ (σ' (A + 3) c).toInt ∧ (σ' (A + 3) c).toInt ≤ _
    rw [e3 c hc, hg _ (by omega)]
    exact qc c hc
  · intro c hc
    show (_ → (σ' (A + 4) c = _ ∧ _) ∨ (σ' (A + 4) c = _ ∧ _)) ∧ (_ → σ' (A + 4) c = _)
    rw [e4 c hc, hg _ (by omega)]
    exact qd c hc
  · intro c hc
    show (∃ a, _ ∧ σ' (A + 5) c = nI a ∧ _) ∧ σ' (A + 6) c = _ ∧ (σ' (A + 6) c = _ ∨ ∃ b, _ ∧ σ' (A + 6) c = nI b)
    rw [e5 c (by omega), e6 c (by omega), hg _ (by omega), hg _ (by omega)]
    exact qw c hc
  · intro c hc
    show (_ → ∃ k, _ ∧ σ' (A + 7) c = nI k ∧ _) ∧ (_ → σ' (A + 7) c = _)
    rw [e7 c hc, hg _ (by omega)]
    exact ql c hc
  · intro c hc
    show (_ → σ' (A + 8) c = _ ∧ (σ' (A + 8) c = _ ∨ σ' (A + 8) c = _)) ∧ (_ → σ' (A + 8) c = _)
    rw [e8 c hc, hg _ (by omega)]
    exact qo c hc
  · intro c hc
    show (_ → σ' (A + 9) c = _ ∧ (σ' (A + 9) c = _ ∨ σ' (A + 9) c = _)) ∧ (_ → σ' (A + 9) c = _)
    rw [e9 c hc, hg _ (by omega)]
    exact qg c hc
