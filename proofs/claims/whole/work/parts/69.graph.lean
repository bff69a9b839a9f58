/-! ===== ways: both measure the least number of steps ===== -/
def gW (E : Nat → Nat → Prop) (g : Nat) : Nat → Nat → Prop
  | 0, v => v = g
  | k + 1, v => ∃ u, gW E g k u ∧ E u v
def gD (E : Nat → Nat → Prop) (g k v : Nat) : Prop := gW E g k v ∧ ∀ j, j < k → ¬ gW E g j v
theorem gD_ex {E : Nat → Nat → Prop} {g k v : Nat} (h : gW E g k v) : ∃ j, j ≤ k ∧ gD E g j v := by
  obtain ⟨j, h1, h2⟩ := pk_least (fun j => gW E g j v) ⟨k, h⟩
  refine ⟨j, ?_, h1, h2⟩
  rcases Nat.lt_or_ge k j with h3 | h3
  · exact absurd h (h2 k h3)
  · exact h3
theorem gD_pre {E : Nat → Nat → Prop} {g k v : Nat} (h : gD E g (k + 1) v) : ∃ u, gD E g k u ∧ E u v := by
  obtain ⟨⟨u, h1, h2⟩, h3⟩ := h
  exact ⟨u, ⟨h1, fun j hj hw => h3 (j + 1) (by omega) ⟨u, hw, h2⟩⟩, h2⟩
theorem gD_uni {E : Nat → Nat → Prop} {g k k' v : Nat} (h : gD E g k v) (h' : gD E g k' v) : k = k' := by
  rcases Nat.lt_trichotomy k k' with h1 | h1 | h1
  · exact absurd h.1 (h'.2 k h1)
  · exact h1
  · exact absurd h'.1 (h.2 k' h1)
noncomputable def gS (E : Nat → Nat → Prop) (g k : Nat) : Nat → Bool := fun w => @decide (∃ i, i ≤ k ∧ gW E g i w) (Classical.propDecidable _)
theorem gS_iff {E : Nat → Nat → Prop} {g k w : Nat} : gS E g k w = true ↔ ∃ i, i ≤ k ∧ gW E g i w := by
  unfold gS
  exact @decide_eq_true_iff _ (Classical.propDecidable _)
theorem gW_lt {E : Nat → Nat → Prop} {g n : Nat} (hg : g < n) (hE : ∀ u v, E u v → v < n) : ∀ {k v : Nat}, gW E g k v → v < n
  | 0, v, h => by rw [show v = g from h]; exact hg
  | k + 1, v, ⟨u, _, h⟩ => hE u v h
theorem gD_cnt {E : Nat → Nat → Prop} {g n : Nat} (hg : g < n) (hE : ∀ u v, E u v → v < n) : ∀ (k v : Nat), gD E g k v → k + 1 ≤ cnt (gS E g k) n
  | 0, v, h => by
    have h0 : ¬ (fun _ : Nat => false) g = true := by simp
    have := cnt_one (f := fun _ => false) (g := gS E g 0) (i := g) (fun d hd => absurd hd (by simp)) h0 (gS_iff.mpr ⟨0, Nat.le_refl _, rfl⟩) n hg
    omega
  | k + 1, v, h => by
    obtain ⟨u, hu, he⟩ := gD_pre h
    have ih := gD_cnt hg hE k u hu
    have := cnt_one (f := gS E g k) (g := gS E g (k + 1)) (i := v) (fun d hd => by
      obtain ⟨i, h1, h2⟩ := gS_iff.mp hd
      exact gS_iff.mpr ⟨i, by omega, h2⟩) (fun hd => by
      obtain ⟨i, h1, h2⟩ := gS_iff.mp hd
      exact h.2 i (by omega) h2) (gS_iff.mpr ⟨k + 1, Nat.le_refl _, h.1⟩) n (hE u v he)
    omega
theorem gD_lt {E : Nat → Nat → Prop} {g n k v : Nat} (hg : g < n) (hE : ∀ u v, E u v → v < n) (h : gD E g k v) : k < n := by
  have h1 := gD_cnt hg hE k v h
  have h2 := cnt_le (gS E g k) n
  omega
/-- a row that holds the least numbers of steps -/
def gF (E : Nat → Nat → Prop) (g n : Nat) (f : Nat → Int32) : Prop := ∀ v, v < n → (∃ k, k < n ∧ gD E g k v ∧ f v = nI k) ∨ ((∀ k, ¬ gW E g k v) ∧ f v = -1)
theorem gF_eq {E : Nat → Nat → Prop} {g n : Nat} {f f' : Nat → Int32} (h : gF E g n f) (h' : gF E g n f') : ∀ v, v < n → f v = f' v := by
  intro v hv
  rcases h v hv with ⟨k, h1, h2, h3⟩ | ⟨h1, h2⟩ <;> rcases h' v hv with ⟨k', h4, h5, h6⟩ | ⟨h4, h5⟩
  · rw [h3, h6, gD_uni h2 h5]
  · exact absurd h2.1 (h4 k)
  · exact absurd h5.1 (h1 k')
  · rw [h2, h5]
/-- the rounds of the class's measuring: after 'far' of them -/
def mP (E : Nat → Nat → Prop) (g n far : Nat) (f : Nat → Int32) : Prop := ∀ v, v < n → (∃ k, k ≤ far ∧ gD E g k v ∧ f v = nI k) ∨ ((∀ k, k ≤ far → ¬ gW E g k v) ∧ f v = -1)
theorem mP_end {E : Nat → Nat → Prop} {g n : Nat} {f : Nat → Int32} (hg : g < n) (hE : ∀ u v, E u v → v < n) (h : mP E g n n f) : gF E g n f := by
  intro v hv
  rcases h v hv with ⟨k, h1, h2, h3⟩ | ⟨h1, h2⟩
  · exact Or.inl ⟨k, gD_lt hg hE h2, h2, h3⟩
  · refine Or.inr ⟨fun k hk => ?_, h2⟩
    obtain ⟨j, -, hj⟩ := gD_ex hk
    exact h1 j (Nat.le_of_lt (gD_lt hg hE hj)) hj.1
/-- within a round: those reached through the doors below d -/
def mQ (E : Nat → Nat → Prop) (T : Nat → Nat → Prop) (g n far : Nat) (f : Nat → Int32) : Prop := ∀ v, v < n → (∃ k, k ≤ far + 1 ∧ gD E g k v ∧ f v = nI k) ∨ ((∀ k, k ≤ far → ¬ gW E g k v) ∧ f v = -1 ∧ ∀ u, T u v → ¬ gD E g far u)
theorem mQ_0 {E : Nat → Nat → Prop} {g n far : Nat} {f : Nat → Int32} (h : mP E g n far f) : mQ E (fun _ _ => False) g n far f := by
  intro v hv
  rcases h v hv with ⟨k, h1, h2, h3⟩ | ⟨h1, h2⟩
  · exact Or.inl ⟨k, by omega, h2, h3⟩
  · exact Or.inr ⟨h1, h2, fun u hu => hu.elim⟩
theorem mQ_end {E T : Nat → Nat → Prop} {g n far : Nat} {f : Nat → Int32} (hT : ∀ u v, E u v → T u v) (h : mQ E T g n far f) : mP E g n (far + 1) f := by
  intro v hv
  rcases h v hv with ⟨k, h1, h2, h3⟩ | ⟨h1, h2, h3⟩
  · exact Or.inl ⟨k, h1, h2, h3⟩
  · refine Or.inr ⟨fun k hk hw => ?_, h2⟩
    obtain ⟨j, hj1, hj2⟩ := gD_ex hw
    rcases Nat.lt_or_ge far j with h4 | h4
    · have h5 : j = far + 1 := by omega
      subst h5
      obtain ⟨u, hu, he⟩ := gD_pre hj2
      exact h3 u (hT u v he) hu
    · exact h1 j h4 hj2.1
/-- one spreading from u to v -/
theorem mQ_step {E T T' : Nat → Nat → Prop} {g n far u v : Nat} {f f' : Nat → Int32} (hn : far ≤ 1000) (hu : u < n) (hv : v < n) (hE : E u v) (hT : ∀ a b, T' a b → T a b ∨ (a = u ∧ b = v)) (h : mQ E T g n far f) (hf : f' = if f u = nI far ∧ f v = -1 then upd f v (nI (far + 1)) else f) : mQ E T' g n far f' := by
  have hD : f u = nI far ↔ gD E g far u := by
    rcases h u hu with ⟨k, h1, h2, h3⟩ | ⟨h1, h2, -⟩
    · constructor
      · intro e
        have : k = far := n_eqI (by omega) (by omega) (h3.symm.trans e)
        exact this ▸ h2
      · intro e
        rw [h3, gD_uni h2 e]
    · constructor
      · intro e
        exact absurd (e.symm.trans h2) (n_neg1 (by omega))
      · intro e
        exact absurd e.1 (h1 far (Nat.le_refl _))
  by_cases hc : f u = nI far ∧ f v = -1
  · rw [if_pos hc] at hf
    subst hf
    have hdu := hD.mp hc.1
    intro w hw
    by_cases hwv : w = v
    · subst hwv
      rw [up_at]
      left
      rcases h w hw with ⟨k, h1, h2, h3⟩ | ⟨h1, h2, h3⟩
      · exact absurd (h3.symm.trans hc.2) (n_neg1 (by omega))
      · exact ⟨far + 1, Nat.le_refl _, ⟨⟨u, hdu.1, hE⟩, fun j hj => h1 j (by omega)⟩, rfl⟩
    · rw [up_ne hwv]
      rcases h w hw with h1 | ⟨h1, h2, h3⟩
      · exact Or.inl h1
      · refine Or.inr ⟨h1, h2, fun a ha => ?_⟩
        rcases hT a w ha with h4 | ⟨-, h4⟩
        · exact h3 a h4
        · exact absurd h4 hwv
  · rw [if_neg hc] at hf
    subst hf
    intro w hw
    rcases h w hw with h1 | ⟨h1, h2, h3⟩
    · exact Or.inl h1
    · refine Or.inr ⟨h1, h2, fun a ha => ?_⟩
      rcases hT a w ha with h4 | ⟨h4, h5⟩
      · exact h3 a h4
      · subst h4; subst h5
        intro hd
        exact hc ⟨hD.mpr hd, h2⟩
/-- the reference's rounds: sound values, and complete ones up to r -/
def wS (E : Nat → Nat → Prop) (g n M : Nat) (f : Nat → Int32) : Prop := ∀ v, v < n → f v = -1 ∨ ∃ k, k ≤ M ∧ gW E g k v ∧ f v = nI k
def wC (E T : Nat → Nat → Prop) (g n r : Nat) (f : Nat → Int32) : Prop := ∀ v, v < n → (∀ k, k ≤ r → gD E g k v → f v = nI k) ∧ ((∃ u, T u v ∧ gD E g r u) → gD E g (r + 1) v → f v = nI (r + 1))
theorem wC_0 {E : Nat → Nat → Prop} {g n r : Nat} {f : Nat → Int32} (h : ∀ v, v < n → ∀ k, k ≤ r → gD E g k v → f v = nI k) : wC E (fun _ _ => False) g n r f := fun v hv => ⟨h v hv, fun ⟨_, hu, _⟩ => hu.elim⟩
theorem wC_end {E T : Nat → Nat → Prop} {g n r : Nat} {f : Nat → Int32} (hT : ∀ u v, E u v → T u v) (h : wC E T g n r f) : ∀ v, v < n → ∀ k, k ≤ r + 1 → gD E g k v → f v = nI k := by
  intro v hv k hk hd
  rcases Nat.lt_or_ge r k with h1 | h1
  · have h2 : k = r + 1 := by omega
    subst h2
    obtain ⟨u, hu, he⟩ := gD_pre hd
    exact (h v hv).2 ⟨u, hT u v he, hu⟩ hd
  · exact (h v hv).1 k h1 hd
theorem w_step {E T T' : Nat → Nat → Prop} {g n r M u v : Nat} {f f' : Nat → Int32} (hM : M ≤ 10000) (hr : r ≤ 1000) (hu : u < n) (hv : v < n) (hE : E u v) (hT : ∀ a b, T' a b → T a b ∨ (a = u ∧ b = v)) (hs : wS E g n M f) (hc : wC E T g n r f) (hf : f' = if ¬ f u = -1 ∧ (f v = -1 ∨ ¬ f v ≤ f u + 1) then upd f v (f u + 1) else f) : wS E g n (M + 1) f' ∧ wC E T' g n r f' := by
  -- a value is never below the least number
  have low : ∀ w, w < n → ∀ k, gD E g k w → f w = -1 ∨ ∃ j, j ≤ M ∧ k ≤ j ∧ gW E g j w ∧ f w = nI j := by
    intro w hw k hk
    rcases hs w hw with h | ⟨j, h1, h2, h3⟩
    · exact Or.inl h
    · refine Or.inr ⟨j, h1, ?_, h2, h3⟩
      rcases Nat.lt_or_ge j k with h4 | h4
      · exact absurd h2 (hk.2 j h4)
      · exact h4
  by_cases hcond : ¬ f u = -1 ∧ (f v = -1 ∨ ¬ f v ≤ f u + 1)
  · rw [if_pos hcond] at hf
    subst hf
    obtain ⟨hu1, hv1⟩ := hcond
    rcases hs u hu with h | ⟨ku, ku1, ku2, ku3⟩
    · exact absurd h hu1
    have e1 : f u + 1 = nI (ku + 1) := by rw [ku3, nI_1]
    have wv : gW E g (ku + 1) v := ⟨u, ku2, hE⟩
    refine ⟨fun w hw => ?_, fun w hw => ?_⟩
    · by_cases hwv : w = v
      · subst hwv
        rw [up_at]
        exact Or.inr ⟨ku + 1, by omega, wv, e1⟩
      · rw [up_ne hwv]
        rcases hs w hw with h | ⟨k, h1, h2⟩
        · exact Or.inl h
        · exact Or.inr ⟨k, by omega, h2⟩
    · by_cases hwv : w = v
      · subst hwv
        rw [up_at, e1]
        -- the new value is at least the least; the old one was above it or none
        have keep : ∀ k, gD E g k w → f w = nI k → False := by
          intro k hk hfk
          have hge : k ≤ ku + 1 := by
            rcases Nat.lt_or_ge (ku + 1) k with h4 | h4
            · exact absurd wv (hk.2 _ h4)
            · exact h4
          rcases hv1 with h | h
          · exact n_neg1 (a := k) (by omega) (hfk.symm.trans h)
          · apply h
            rw [hfk, e1]
            exact nI_le hge (by omega)
        refine ⟨fun k hk hd => absurd ((hc w hw).1 k hk hd) (fun q => keep k hd q), fun ⟨a, ha, hda⟩ hd => ?_⟩
        rcases hT a w ha with h4 | ⟨h4, -⟩
        · exact (keep _ hd ((hc w hw).2 ⟨a, h4, hda⟩ hd)).elim
        · subst h4
          have h5 := (hc a hu).1 r (Nat.le_refl _) hda
          have : ku = r := n_eqI (by omega) (by omega) (ku3.symm.trans h5)
          rw [this]
      · rw [up_ne hwv]
        refine ⟨(hc w hw).1, fun ⟨a, ha, hda⟩ hd => ?_⟩
        rcases hT a w ha with h4 | ⟨-, h4⟩
        · exact (hc w hw).2 ⟨a, h4, hda⟩ hd
        · exact absurd h4 hwv
  · rw [if_neg hcond] at hf
    have hf := hf.symm
    subst hf
    refine ⟨fun w hw => ?_, fun w hw => ⟨(hc w hw).1, fun ⟨a, ha, hda⟩ hd => ?_⟩⟩
    · rcases hs w hw with h | ⟨k, h1, h2⟩
      · exact Or.inl h
      · exact Or.inr ⟨k, by omega, h2⟩
    · rcases hT a w ha with h4 | ⟨h4, h5⟩
      · exact (hc w hw).2 ⟨a, h4, hda⟩ hd
      · subst h4; subst h5
        have h6 := (hc a hu).1 r (Nat.le_refl _) hda
        rcases low w hw _ hd with h7 | ⟨j, j1, j2, j3, j4⟩
        · exact absurd ⟨by rw [h6]; exact n_neg1 (by omega), Or.inl h7⟩ hcond
        · have hle : f w ≤ f a + 1 := by
            by_cases hq : f w ≤ f a + 1
            · exact hq
            · exact absurd ⟨by rw [h6]; exact n_neg1 (by omega), Or.inr hq⟩ hcond
          rw [j4, h6, nI_1, nI_leI (by omega) (by omega)] at hle
          rw [j4]
          congr 1
          omega
theorem w_end {E : Nat → Nat → Prop} {g n M : Nat} {f : Nat → Int32} (hn : n ≤ 100000) (hg : g < n) (hE : ∀ u v, E u v → v < n) (hs : wS E g n M f) (hc : ∀ v, v < n → ∀ k, k ≤ n → gD E g k v → f v = nI k) : gF E g n f := by
  intro v hv
  rcases hs v hv with h | ⟨k, h1, h2, h3⟩
  · right
    refine ⟨fun k hk => ?_, h⟩
    obtain ⟨j, -, hj⟩ := gD_ex hk
    have hl := gD_lt hg hE hj
    exact n_neg1 (by omega) ((hc v hv j (Nat.le_of_lt hl) hj).symm.trans h)
  · left
    obtain ⟨j, -, hj⟩ := gD_ex h2
    have hl := gD_lt hg hE hj
    exact ⟨j, hl, hj, hc v hv j (Nat.le_of_lt hl) hj⟩
