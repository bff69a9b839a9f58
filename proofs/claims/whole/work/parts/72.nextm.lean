theorem p_j63 {v1 v2 is_ s : Int32} {i : Nat} {ρ : zS} (hi : i < 15) (his : is_ = 0 ∨ is_ = 1) (hs : s = 0 ∨ s = 1) : ∃ y, j_X8_isJoined_J63 v1 v2 is_ (nI i) s ρ = some (true, (y, nI (i + 1), ρ)) ∧ ((y = 1 ∧ (is_ = 1 ∨ (s = 1 ∧ ρ 1 (12 + i) = 1))) ∨ (y = 0 ∧ is_ = 0 ∧ ¬ (s = 1 ∧ ρ 1 (12 + i) = 1))) := by
  have zM : ∀ {e : Option (Bool × (Int32 × Int32 × zS))}, zg (z_in (12 + nI i) 192) e = e := zgM (b := 12) 12 rfl (show 12 + i < 192 by omega) (by decide)
  have iM : (12 + nI i).toNatClampNeg = 12 + i := ixM (b := 12) 12 rfl (show 12 + i ≤ 100000 by omega)
  unfold j_X8_isJoined_J63
  simp only [zM, iM, nI_1]
  rcases his with rfl | rfl
  · rw [if_pos rfl]
    rcases hs with rfl | rfl
    · rw [if_pos rfl]
      exact ⟨0, rfl, Or.inr ⟨rfl, rfl, fun q => absurd q.1 (by decide)⟩⟩
    · rw [if_neg n10]
      by_cases h : ρ 1 (12 + i) = 1
      · rw [if_pos h]
        exact ⟨1, rfl, Or.inl ⟨rfl, Or.inr ⟨rfl, h⟩⟩⟩
      · rw [if_neg h]
        exact ⟨0, rfl, Or.inr ⟨rfl, rfl, fun q => h q.2⟩⟩
  · rw [if_neg n10]
    exact ⟨1, rfl, Or.inl ⟨rfl, Or.inl rfl⟩⟩
theorem p_joined {N : Nat → Nat} {σ τ ρ : zS} {a b : Nat} (hH : hG N σ τ) (hρ : ∀ k, k ≠ 20 → ρ k = τ k) (ha : a < N 0) (hb : b < N 0) : ∃ y, f_X8_isJoined (nI a) (nI b) ρ = some (y, ρ) ∧ ((y = 1 ∧ dT N σ (N 1) a b) ∨ (y = 0 ∧ ¬ dT N σ (N 1) a b)) := by
  obtain ⟨n10', n15, -, -, -, e1, hd⟩ := hH
  have er : ρ 0 5 = nI (N 1) := by rw [hρ 0 (by decide)]; exact e1
  obtain ⟨a1, l1, l2, l3⟩ : ∃ a1 : Int32 × Int32 × zS, z_loop (b_X8_isJoined_L5 (nI a) (nI b)) zfuel (0, 0, ρ) = some a1 ∧ a1.2.2 = ρ ∧ ((a1.1 = 1 ∧ dT N σ (N 1) a b) ∨ (a1.1 = 0 ∧ ¬ dT N σ (N 1) a b)) := by
    refine lp_1 (fun i (q : Int32 × Int32 × zS) => q.2.1 = nI i ∧ q.2.2 = ρ ∧ ((q.1 = 1 ∧ dT N σ i a b) ∨ (q.1 = 0 ∧ ¬ dT N σ i a b))) (fun q => q.2.2 = ρ ∧ ((q.1 = 1 ∧ dT N σ (N 1) a b) ∨ (q.1 = 0 ∧ ¬ dT N σ (N 1) a b))) (N 1) ?_ zfuel 0 (0, 0, ρ) (Nat.zero_le _) ⟨rfl, rfl, Or.inr ⟨rfl, fun h => by obtain ⟨-, -, d, h1, -⟩ := h; omega⟩⟩ (by show N 1 - 0 < 2048; omega)
    intro i ⟨is_, y, ρ'⟩ hi ⟨ey, eρ, hB⟩
    dsimp only at ey eρ hB
    subst ey; subst eρ
    unfold b_X8_isJoined_L5
    dsimp only
    by_cases hin : i = N 1
    · subst hin
      right
      have cc : ρ' 0 5 ≤ nI (N 1) := by rw [er]; exact nI_le (Nat.le_refl _) (by omega)
      rw [if_pos cc]
      exact ⟨_, rfl, rfl, hB⟩
    · left
      have hlt : i < N 1 := by omega
      have h15 : i < 15 := by omega
      have cc : ¬ ρ' 0 5 ≤ nI i := by rw [er]; exact nI_ge hlt (by omega)
      have zI : ∀ {α : Type} (e : Option α), zg (z_in (nI i) 15) e = e := fun e => zg_n h15 (by decide) e
      have iI : (nI i).toNatClampNeg = i := ix_n (by omega)
      obtain ⟨⟨p, q, hp, hq, a2, a3, a4, a5⟩, hop⟩ := hd i hlt
      have r3 : ρ' 3 i = nI p := by rw [hρ 3 (by decide)]; exact a4
      have r4 : ρ' 4 i = nI q := by rw [hρ 4 (by decide)]; exact a5
      have r1 : ρ' 1 (12 + i) = τ 1 (12 + i) := by rw [hρ 1 (by decide)]
      have his : is_ = 0 ∨ is_ = 1 := by
        rcases hB with ⟨h, -⟩ | ⟨h, -⟩
        · exact Or.inr h
        · exact Or.inl h
      -- which way the doors' ends are compared
      have hbody : ∃ s : Int32, ((s = 1 ∧ ((p = a ∧ q = b) ∨ (p = b ∧ q = a))) ∨ (s = 0 ∧ ¬ ((p = a ∧ q = b) ∨ (p = b ∧ q = a)))) ∧ (zg (z_in (nI i) 15) (if ρ' 3 (nI i).toNatClampNeg = nI a then zg (z_in (nI i) 15) (if ρ' 4 (nI i).toNatClampNeg = nI b then j_X8_isJoined_J58 (nI a) (nI b) is_ (nI i) ρ' else j_X8_isJoined_J36 (nI a) (nI b) is_ (nI i) ρ') else j_X8_isJoined_J36 (nI a) (nI b) is_ (nI i) ρ')) = j_X8_isJoined_J63 (nI a) (nI b) is_ (nI i) s ρ' := by
        unfold j_X8_isJoined_J36 j_X8_isJoined_J58 j_X8_isJoined_J62
        simp only [zI, iI, r3, r4]
        have eqn : ∀ {x y : Nat}, x < 10 → y < 10 → (nI x = nI y ↔ x = y) := fun h1 h2 => nI_eq (by omega) (by omega)
        simp only [eqn (show p < 10 by omega) (show a < 10 by omega), eqn (show q < 10 by omega) (show b < 10 by omega), eqn (show p < 10 by omega) (show b < 10 by omega), eqn (show q < 10 by omega) (show a < 10 by omega)]
        by_cases c1 : p = a
        · by_cases c2 : q = b
          · exact ⟨1, Or.inl ⟨rfl, Or.inl ⟨c1, c2⟩⟩, by rw [if_pos c1, if_pos c2]⟩
          · by_cases c3 : p = b
            · by_cases c4 : q = a
              · exact ⟨1, Or.inl ⟨rfl, Or.inr ⟨c3, c4⟩⟩, by rw [if_pos c1, if_neg c2, if_pos c3, if_pos c4]⟩
              · exact ⟨0, Or.inr ⟨rfl, fun h => by omega⟩, by rw [if_pos c1, if_neg c2, if_pos c3, if_neg c4]⟩
            · exact ⟨0, Or.inr ⟨rfl, fun h => by omega⟩, by rw [if_pos c1, if_neg c2, if_neg c3]⟩
        · by_cases c3 : p = b
          · by_cases c4 : q = a
            · exact ⟨1, Or.inl ⟨rfl, Or.inr ⟨c3, c4⟩⟩, by rw [if_neg c1, if_pos c3, if_pos c4]⟩
            · exact ⟨0, Or.inr ⟨rfl, fun h => by omega⟩, by rw [if_neg c1, if_pos c3, if_neg c4]⟩
          · exact ⟨0, Or.inr ⟨rfl, fun h => by omega⟩, by rw [if_neg c1, if_neg c3]⟩
      obtain ⟨s, hs, hbody⟩ := hbody
      rw [if_neg cc, hbody]
      have hs01 : s = 0 ∨ s = 1 := by
        rcases hs with ⟨h, -⟩ | ⟨h, -⟩
        · exact Or.inr h
        · exact Or.inl h
      obtain ⟨y, j1, j2⟩ := p_j63 (v1 := nI a) (v2 := nI b) (ρ := ρ') h15 his hs01
      refine ⟨_, j1, hlt, rfl, rfl, ?_⟩
      have mono : dT N σ i a b → dT N σ (i + 1) a b := fun ⟨q1, q2, d, q3, q4⟩ => ⟨q1, q2, d, by omega, q4⟩
      rcases j2 with ⟨rfl, j2⟩ | ⟨rfl, j2, j3⟩
      · refine Or.inl ⟨rfl, ?_⟩
        rcases j2 with j2 | ⟨j2, j3⟩
        · rcases hB with ⟨-, h⟩ | ⟨h, -⟩
          · exact mono h
          · exact absurd (j2.symm.trans h) (by decide)
        · rcases hs with ⟨-, h⟩ | ⟨h, -⟩
          · rcases hop with ⟨o1, -⟩ | ⟨-, o2⟩
            · refine ⟨ha, hb, i, by omega, o1, ?_⟩
              rcases h with ⟨h1, h2⟩ | ⟨h1, h2⟩
              · subst h1; subst h2; exact Or.inl ⟨a2, a3⟩
              · subst h1; subst h2; exact Or.inr ⟨a2, a3⟩
            · exact absurd ((r1.trans o2).symm.trans j3) (by decide)
          · exact absurd (h.symm.trans j2) (by decide)
      · refine Or.inr ⟨rfl, fun hT => ?_⟩
        rcases dT_succ n10' hp hq a2 a3 hT with h | h
        · rcases hB with ⟨h1, -⟩ | ⟨-, h1⟩
          · exact absurd (h1.symm.trans j2) (by decide)
          · exact h1 h
        · obtain ⟨-, -, d, d1, d2, d3⟩ := id hT
          by_cases hdi : d = i
          · subst hdi
            rcases hop with ⟨o1, o2⟩ | ⟨o1, -⟩
            · apply j3
              refine ⟨?_, r1.trans o2⟩
              rcases hs with ⟨h1, -⟩ | ⟨-, h1⟩
              · exact h1
              · exact absurd (by omega) h1
            · exact absurd (o1.symm.trans d2) (by decide)
          · have : dT N σ i a b := ⟨ha, hb, d, by omega, d2, d3⟩
            rcases hB with ⟨h1, -⟩ | ⟨-, h1⟩
            · exact absurd (h1.symm.trans j2) (by decide)
            · exact h1 this
  refine ⟨a1.1, ?_, l3⟩
  unfold f_X8_isJoined
  have h01 : a1.1 = 0 ∨ a1.1 = 1 := by
    rcases l3 with ⟨h, -⟩ | ⟨h, -⟩
    · exact Or.inr h
    · exact Or.inl h
  rw [l1, Option.bind_some, zg_t h01, l2]
theorem p_nextM {N : Nat → Nat} {σ τ ρ : zS} {c g : Nat} {v1 : Int32} (hH : hG N σ τ) (hρ : ∀ k, k ≠ 20 → ρ k = τ k) (hF : gF (dT N σ (N 1)) g (N 0) (ρ 20)) (hc : c < N 0) (hg : g < N 0) : ∃ a1 : Int32 × Int32 × zS, z_loop (b_X8_goWalkers_L58 v1 (nI g) (nI c)) zfuel (-1, (ρ 0 4) - 1, ρ) = some a1 ∧ a1.2.2 = ρ ∧ nB (nS N σ (ρ 20) (N 1) c) a1.1 := by
  obtain ⟨n10', n15, -, e0, -, -, -⟩ := id hH
  have er : ρ 0 4 = nI (N 0) := by rw [hρ 0 (by decide)]; exact e0
  have key : ∃ a1 : Int32 × Int32 × zS, z_loop (b_X8_goWalkers_L58 v1 (nI g) (nI c)) zfuel (-1, (ρ 0 4) - 1, ρ) = some a1 ∧ a1.2.2 = ρ ∧ nB (fun u => nS N σ (ρ 20) (N 1) c u ∧ 0 ≤ u) a1.1 := by
    refine lp_1 (fun j (a : Int32 × Int32 × zS) => a.2.1 = nI (N 0 - j) - 1 ∧ a.2.2 = ρ ∧ nB (fun u => nS N σ (ρ 20) (N 1) c u ∧ N 0 - j ≤ u) a.1) (fun a => a.2.2 = ρ ∧ nB (fun u => nS N σ (ρ 20) (N 1) c u ∧ 0 ≤ u) a.1) (N 0) ?_ zfuel 0 (-1, (ρ 0 4) - 1, ρ) (Nat.zero_le _) ⟨by show (ρ 0 4) - 1 = _; rw [er, Nat.sub_zero], rfl, Or.inl ⟨rfl, fun u hu => by have := hu.1.1.2.1; have := hu.2; omega⟩⟩ (by show N 0 - 0 < 2048; omega)
    intro j ⟨best, y, ρ'⟩ hj ⟨ey, eρ, hB⟩
    dsimp only at ey eρ hB
    subst ey; subst eρ
    unfold b_X8_goWalkers_L58
    dsimp only
    by_cases hjn : j = N 0
    · subst hjn
      right
      rw [Nat.sub_self] at hB ⊢
      rw [if_pos (show nI 0 - 1 < 0 by decide)]
      exact ⟨_, rfl, rfl, hB⟩
    · left
      obtain ⟨m, hm⟩ : ∃ m, N 0 - j = m + 1 := ⟨N 0 - j - 1, by omega⟩
      have hm2 : N 0 - (j + 1) = m := by omega
      have hmn : m < N 0 := by omega
      rw [hm] at hB ⊢
      rw [nI_pred, if_neg (nI_pos (n := m) (by omega)), if_neg (n_neg1 (a := g) (by omega))]
      have em : nI m + (-1) = nI m - 1 := by rw [Int32.sub_eq_add_neg]
      have zC : ∀ {α : Type} (e : Option α), zg (z_in (nI c) 10) e = e := fun e => zg_n (by omega) (by decide) e
      have zM : ∀ {α : Type} (e : Option α), zg (z_in (nI m) 10) e = e := fun e => zg_n (by omega) (by decide) e
      simp only [zC, zM, ix_n (show c ≤ 100000 by omega), ix_n (show m ≤ 100000 by omega), em]
      have same : (¬ nS N σ (ρ' 20) (N 1) c m) → nB (fun u => nS N σ (ρ' 20) (N 1) c u ∧ m ≤ u) best := fun hno => nB_no hB (fun u => ⟨fun h => ⟨h.1, by
        have := h.2
        have hne : u ≠ m := fun e => hno (e ▸ h.1)
        omega⟩, fun h => ⟨h.1, by have := h.2; omega⟩⟩)
      by_cases h0 : ρ' 20 c ≤ 0
      · rw [if_pos h0]
        refine ⟨_, rfl, by omega, by rw [hm2], rfl, ?_⟩
        rw [hm2]
        refine same (fun hs => ?_)
        obtain ⟨-, k, hk, q1, -⟩ := hs
        rw [q1] at h0
        exact nI_nle (n := k + 1) (by omega) (by omega) h0
      · rw [if_neg h0]
        obtain ⟨k, hk, q1⟩ : ∃ k, k ≤ 1000 ∧ ρ' 20 c = nI (k + 1) := by
          rcases hF c hc with ⟨kc, x1, -, x3⟩ | ⟨-, x2⟩
          · rcases Nat.eq_zero_or_pos kc with h | h
            · subst h
              exact absurd (by rw [x3]; decide) h0
            · exact ⟨kc - 1, by omega, by rw [x3]; congr 1; omega⟩
          · exact absurd (by rw [x2]; decide) h0
        rw [q1, nI_pred]
        by_cases h1 : ρ' 20 m = nI k
        · rw [if_pos h1]
          obtain ⟨y, y1, y2⟩ := p_joined hH hρ hc hmn
          rw [y1, zb_some]
          rcases y2 with ⟨rfl, y2⟩ | ⟨rfl, y2⟩
          · rw [if_neg n10]
            refine ⟨_, rfl, by omega, by rw [hm2], rfl, ?_⟩
            rw [hm2]
            exact Or.inr ⟨m, by omega, rfl, ⟨⟨y2, k, hk, q1, h1⟩, Nat.le_refl _⟩, fun u hu => hu.2⟩
          · rw [if_pos rfl]
            refine ⟨_, rfl, by omega, by rw [hm2], rfl, ?_⟩
            rw [hm2]
            exact same (fun hs => y2 hs.1)
        · rw [if_neg h1]
          refine ⟨_, rfl, by omega, by rw [hm2], rfl, ?_⟩
          rw [hm2]
          refine same (fun hs => ?_)
          obtain ⟨-, k', hk', q2, q3⟩ := hs
          have : k' + 1 = k + 1 := n_eqI (by omega) (by omega) (q2.symm.trans q1)
          have e : k' = k := by omega
          exact h1 (e ▸ q3)
  obtain ⟨a1, l1, l2, l3⟩ := key
  exact ⟨a1, l1, l2, nB_no l3 (fun u => ⟨fun h => ⟨h, Nat.zero_le _⟩, fun h => h.1⟩)⟩
