/-! ===== the step of a walker ===== -/
def nr (f : Nat → Int32) (c v : Nat) : Prop := ∃ k, k ≤ 1000 ∧ f c = nI (k + 1) ∧ f v = nI k
def nS (N : Nat → Nat) (σ : zS) (f : Nat → Int32) (i c v : Nat) : Prop := dT N σ i c v ∧ nr f c v
def nB (P : Nat → Prop) (x : Int32) : Prop := (x = -1 ∧ ∀ u, ¬ P u) ∨ ∃ v, v < 10 ∧ x = nI v ∧ P v ∧ ∀ u, P u → v ≤ u
theorem nB_uni {P : Nat → Prop} {x y : Int32} (h : nB P x) (h' : nB P y) : x = y := by
  rcases h with ⟨h1, h2⟩ | ⟨v, hv, h1, h2, h3⟩ <;> rcases h' with ⟨h4, h5⟩ | ⟨w, hw, h4, h5, h6⟩
  · rw [h1, h4]
  · exact absurd h5 (h2 w)
  · exact absurd h2 (h5 v)
  · have : v = w := Nat.le_antisymm (h3 w h5) (h6 v h2)
    rw [h1, h4, this]
theorem dT_sym {N : Nat → Nat} {σ : zS} {i u v : Nat} (h : dT N σ i u v) : dT N σ i v u := by
  obtain ⟨h1, h2, d, h3, h4, h5⟩ := h
  exact ⟨h2, h1, d, h3, h4, h5.symm⟩
/-- of two rooms that a door joins the one is nearer by one, or not nearer -/
theorem p_near {N : Nat → Nat} {σ ρ : zS} {g c x : Nat} (hN : N 0 ≤ 10) (hF : gF (dT N σ (N 1)) g (N 0) (ρ 4)) (hE : dT N σ (N 1) c x) : ∃ r, f_X3_isNearer (nI x) (nI c) ρ = some (r, ρ) ∧ ((r = 1 ∧ nr (ρ 4) c x) ∨ (r = 0 ∧ ¬ nr (ρ 4) c x)) := by
  have hc : c < N 0 := hE.1
  have hx : x < N 0 := hE.2.1
  have zX : ∀ {α : Type} (e : Option α), zg (z_in (nI x) 10) e = e := fun e => zg_n (by omega) (by decide) e
  have zC : ∀ {α : Type} (e : Option α), zg (z_in (nI c) 10) e = e := fun e => zg_n (by omega) (by decide) e
  unfold f_X3_isNearer
  simp only [zX, zC, ix_n (show x ≤ 100000 by omega), ix_n (show c ≤ 100000 by omega)]
  by_cases h1 : ρ 4 x = -1
  · rw [if_pos h1]
    refine ⟨0, rfl, Or.inr ⟨rfl, ?_⟩⟩
    rintro ⟨k, hk, -, e⟩
    exact n_neg1 (by omega) (e.symm.trans h1)
  · rw [if_neg h1]
    rcases (hF x hx).symm with ⟨-, x2⟩ | ⟨kx, x1, x2, x3⟩
    · exact absurd x2 h1
    rcases hF c hc with ⟨kc, c1, c2, c3⟩ | ⟨c1, -⟩
    · by_cases h2 : ρ 4 c ≤ ρ 4 x
      · rw [if_pos h2]
        refine ⟨0, rfl, Or.inr ⟨rfl, ?_⟩⟩
        rintro ⟨k, hk, e1, e2⟩
        rw [e1, e2, nI_leI (by omega) (by omega)] at h2
        omega
      · rw [if_neg h2]
        refine ⟨1, rfl, Or.inl ⟨rfl, kx, by omega, ?_, x3⟩⟩
        rw [c3, x3, nI_leI (by omega) (by omega)] at h2
        have : kc ≤ kx + 1 := by
          rcases Nat.lt_or_ge (kx + 1) kc with h3 | h3
          · exact absurd ⟨x, x2.1, dT_sym hE⟩ (c2.2 (kx + 1) h3)
          · exact h3
        have e : kc = kx + 1 := by omega
        rw [c3, e]
    · exact absurd ⟨x, x2.1, dT_sym hE⟩ (c1 (kx + 1))
theorem p_beyond {i a b c : Nat} {σ : zS} (hi : i < 15) (ha : a < 10) (hb : b < 10) (hc : c < 10) (h2 : σ 2 i = nI a) (h3 : σ 3 i = nI b) : ∃ x, f_X3_beyondDoor (nI i) (nI c) σ = some (x, σ) ∧ ((a = c ∧ x = nI b) ∨ (¬ a = c ∧ b = c ∧ x = nI a) ∨ (¬ a = c ∧ ¬ b = c ∧ x = -1)) := by
  have zI : ∀ {α : Type} (e : Option α), zg (z_in (nI i) 15) e = e := fun e => zg_n hi (by decide) e
  unfold f_X3_beyondDoor
  simp only [zI, ix_n (show i ≤ 100000 by omega), h2, h3]
  by_cases hac : a = c
  · rw [if_pos (by rw [hac])]
    exact ⟨_, rfl, Or.inl ⟨hac, rfl⟩⟩
  · rw [if_neg (fun e => hac (n_eqI (by omega) (by omega) e))]
    by_cases hbc : b = c
    · rw [if_pos (by rw [hbc])]
      exact ⟨_, rfl, Or.inr (Or.inl ⟨hac, hbc, rfl⟩)⟩
    · rw [if_neg (fun e => hbc (n_eqI (by omega) (by omega) e))]
      exact ⟨_, rfl, Or.inr (Or.inr ⟨hac, hbc, rfl⟩)⟩
/-- the best so far and one more candidate -/
theorem nB_no {P P' : Nat → Prop} {x : Int32} (h : nB P x) (hp : ∀ u, P' u ↔ P u) : nB P' x := by
  rcases h with ⟨h1, h2⟩ | ⟨v, hv, h1, h2, h3⟩
  · exact Or.inl ⟨h1, fun u hu => h2 u ((hp u).mp hu)⟩
  · exact Or.inr ⟨v, hv, h1, (hp v).mpr h2, fun u hu => h3 u ((hp u).mp hu)⟩
theorem nB_add {P P' : Nat → Prop} {x : Int32} {c : Nat} (hc : c < 10) (h : nB P x) (hp : ∀ u, P' u ↔ (P u ∨ u = c)) : nB P' (if x = -1 then nI c else if x ≤ nI c then x else nI c) := by
  rcases h with ⟨h1, h2⟩ | ⟨v, hv, h1, h2, h3⟩
  · rw [if_pos h1]
    exact Or.inr ⟨c, hc, rfl, (hp c).mpr (Or.inr rfl), fun u hu => by
      rcases (hp u).mp hu with h | h
      · exact absurd h (h2 u)
      · omega⟩
  · have hn : ¬ x = -1 := by rw [h1]; exact n_neg1 (by omega)
    rw [if_neg hn]
    by_cases hle : v ≤ c
    · rw [if_pos (by rw [h1]; exact nI_le hle (by omega))]
      exact Or.inr ⟨v, hv, h1, (hp v).mpr (Or.inl h2), fun u hu => by
        rcases (hp u).mp hu with h | h
        · exact h3 u h
        · omega⟩
    · rw [if_neg (by rw [h1]; exact nI_ge (by omega) (by omega))]
      exact Or.inr ⟨c, hc, rfl, (hp c).mpr (Or.inr rfl), fun u hu => by
        rcases (hp u).mp hu with h | h
        · have := h3 u h; omega
        · omega⟩
theorem p_nextC {N : Nat → Nat} {σ τ : zS} {c g : Nat} (hH : hG N σ τ) (hc : c < N 0) (hg : g < N 0) : ∃ x σ1, f_X3_nextRoom (nI c) (nI g) σ = some (x, σ1) ∧ (∀ k, k ≠ 4 → σ1 k = σ k) ∧ gF (dT N σ (N 1)) g (N 0) (σ1 4) ∧ nB (nS N σ (σ1 4) (N 1) c) x := by
  obtain ⟨σ1, g1, g2, g3⟩ := p_measure hH hg
  obtain ⟨n10', n15, e0, -, e1, -, hd⟩ := id hH
  obtain ⟨a1, l1, l2, l3⟩ : ∃ a1 : Int32 × Int32 × zS, z_loop (b_X3_nextRoom_L12 (nI c) (nI g)) zfuel (-1, 0, σ1) = some a1 ∧ a1.2.2 = σ1 ∧ nB (nS N σ (σ1 4) (N 1) c) a1.1 := by
    refine lp_1 (fun i (a : Int32 × Int32 × zS) => a.2.1 = nI i ∧ a.2.2 = σ1 ∧ nB (nS N σ (σ1 4) i c) a.1) (fun a => a.2.2 = σ1 ∧ nB (nS N σ (σ1 4) (N 1) c) a.1) (N 1) ?_ zfuel 0 (-1, 0, σ1) (Nat.zero_le _) ⟨rfl, rfl, Or.inl ⟨rfl, fun u hu => by obtain ⟨⟨-, -, d, h1, -⟩, -⟩ := hu; omega⟩⟩ (by show N 1 - 0 < 2048; omega)
    intro i ⟨best, y, ρ⟩ hi ⟨ey, eρ, hB⟩
    dsimp only at ey eρ hB
    subst ey; subst eρ
    have er : ρ 1 1 = nI (N 1) := by rw [g2 1 (by decide)]; exact e1
    unfold b_X3_nextRoom_L12
    dsimp only
    by_cases hin : i = N 1
    · subst hin
      right
      have cc : ρ 1 1 ≤ nI (N 1) := by rw [er]; exact nI_le (Nat.le_refl _) (by omega)
      rw [if_pos cc]
      exact ⟨_, rfl, rfl, hB⟩
    · left
      have hlt : i < N 1 := by omega
      have cc : ¬ ρ 1 1 ≤ nI i := by rw [er]; exact nI_ge hlt (by omega)
      obtain ⟨⟨a, b, ha, hb, a2, a3, -, -⟩, hop⟩ := hd i hlt
      have r2 : ρ 2 i = nI a := by rw [g2 2 (by decide)]; exact a2
      have r3 : ρ 3 i = nI b := by rw [g2 3 (by decide)]; exact a3
      have r28 : ρ 28 i = σ 28 i := by rw [g2 28 (by decide)]
      obtain ⟨x, b1, b2⟩ := p_beyond (c := c) (σ := ρ) (by omega) (by omega) (by omega) (by omega) r2 r3
      rw [if_neg cc, b1, zb_some, zg_n (show i < 15 by omega) (by decide), ix_n (by omega), nI_1]
      rcases hop.symm with ⟨o1, -⟩ | ⟨o1, -⟩
      · have co : ¬ ρ 28 i = 0 := by rw [r28, o1]; exact n10
        rw [if_neg co]
        refine ⟨_, rfl, hlt, rfl, rfl, nB_no hB (fun u => ⟨fun h => ⟨dT_shut (by rw [o1]; exact n10) h.1, h.2⟩, fun h => ⟨?_, h.2⟩⟩)⟩
        obtain ⟨q1, q2, d, q3, q4⟩ := h.1
        exact ⟨q1, q2, d, by omega, q4⟩
      have co : ρ 28 i = 0 := by rw [r28]; exact o1
      rw [if_pos co]
      have up : ∀ u, nS N σ (ρ 4) i c u → nS N σ (ρ 4) (i + 1) c u := fun u h => by
        obtain ⟨⟨q1, q2, d, q3, q4⟩, q5⟩ := h
        exact ⟨⟨q1, q2, d, by omega, q4⟩, q5⟩
      -- the candidate
      have cand : ∀ z, z < N 0 → dT N σ (i + 1) c z → x = nI z → (∀ u, dT N σ (i + 1) c u → dT N σ i c u ∨ u = z) → ∃ a', (if x = -1 then some (true, (best, nI (i + 1), ρ)) else zb (f_X3_isNearer x (nI c) ρ) fun r9 σ10 => if r9 = 0 then some (true, (best, nI (i + 1), σ10)) else if best = -1 then some (true, (x, nI (i + 1), σ10)) else if best ≤ x then some (true, (best, nI (i + 1), σ10)) else some (true, (x, nI (i + 1), σ10))) = some (true, a') ∧ i < N 1 ∧ a'.2.1 = nI (i + 1) ∧ a'.2.2 = ρ ∧ nB (nS N σ (ρ 4) (i + 1) c) a'.1 := by
        intro z hz hdz ex hall
        subst ex
        rw [if_neg (n_neg1 (a := z) (by omega))]
        have hEz : dT N σ (N 1) c z := by
          obtain ⟨q1, q2, d, q3, q4⟩ := hdz
          exact ⟨q1, q2, d, by omega, q4⟩
        obtain ⟨r, n1, n2⟩ := p_near n10' g3 hEz
        rw [n1, zb_some]
        rcases n2 with ⟨rfl, n2⟩ | ⟨rfl, n2⟩
        · rw [if_neg n10]
          have hb2 := nB_add (c := z) (P' := nS N σ (ρ 4) (i + 1) c) (by omega) hB (fun u => ⟨fun h => by
            rcases hall u h.1 with q | q
            · exact Or.inl ⟨q, h.2⟩
            · exact Or.inr q, fun h => by
            rcases h with q | q
            · exact up u q
            · subst q; exact ⟨hdz, n2⟩⟩)
          by_cases t1 : best = -1
          · rw [if_pos t1] at hb2 ⊢
            exact ⟨_, rfl, hlt, rfl, rfl, hb2⟩
          · rw [if_neg t1] at hb2 ⊢
            by_cases t2 : best ≤ nI z
            · rw [if_pos t2] at hb2 ⊢
              exact ⟨_, rfl, hlt, rfl, rfl, hb2⟩
            · rw [if_neg t2] at hb2 ⊢
              exact ⟨_, rfl, hlt, rfl, rfl, hb2⟩
        · rw [if_pos rfl]
          refine ⟨_, rfl, hlt, rfl, rfl, nB_no hB (fun u => ⟨fun h => ?_, up u⟩)⟩
          rcases hall u h.1 with q | q
          · exact ⟨q, h.2⟩
          · subst q; exact absurd h.2 n2
      rcases b2 with ⟨h1, h2⟩ | ⟨h0, h1, h2⟩ | ⟨h0, h1, h2⟩
      · refine cand b hb ⟨hc, hb, i, by omega, o1, Or.inl ⟨h1 ▸ a2, a3⟩⟩ h2 (fun u hu => ?_)
        rcases dT_succ n10' ha hb a2 a3 hu with q | ⟨-, q⟩ | ⟨q1, q2⟩
        · exact Or.inl q
        · exact Or.inr q
        · exact Or.inr (by omega)
      · refine cand a ha ⟨hc, ha, i, by omega, o1, Or.inr ⟨a2, h1 ▸ a3⟩⟩ h2 (fun u hu => ?_)
        rcases dT_succ n10' ha hb a2 a3 hu with q | ⟨q, -⟩ | ⟨-, q⟩
        · exact Or.inl q
        · exact absurd q.symm h0
        · exact Or.inr q
      · rw [if_pos h2]
        refine ⟨_, rfl, hlt, rfl, rfl, nB_no hB (fun u => ⟨fun h => ⟨?_, h.2⟩, up u⟩)⟩
        rcases dT_succ n10' ha hb a2 a3 h.1 with q | ⟨q, -⟩ | ⟨q, -⟩
        · exact q
        · exact absurd q.symm h0
        · exact absurd q.symm h1
  refine ⟨a1.1, σ1, ?_, g2, g3, l3⟩
  unfold f_X3_nextRoom
  rw [g1, zb_some, l1, Option.bind_some, l2]
