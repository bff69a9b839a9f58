/-- part (a): the events that are due, in their order -/
def ins (f : Nat → Nat) (j x i : Nat) : Nat := if i < j then f i else if i = j then x else f (i - 1)
theorem ins_lo {f : Nat → Nat} {j x i : Nat} (h : i < j) : ins f j x i = f i := if_pos h
theorem ins_at {f : Nat → Nat} {j x : Nat} : ins f j x j = x := by
  unfold ins
  rw [if_neg (by omega), if_pos rfl]
theorem ins_hi {f : Nat → Nat} {j x i : Nat} (h : j < i) : ins f j x i = f (i - 1) := by
  unfold ins
  rw [if_neg (by omega), if_neg (by omega)]
theorem p_put {n e : Nat} {du wt : Nat → Nat} {σ : zS} (hn : n < 12) (hwe : wt e ≤ 1440) (hwd : ∀ i, i < n → wt (du i) ≤ 1440) (h : ∀ i, i < n → σ 15 i = nI (du i) ∧ σ 16 i = nI (wt (du i))) : ∃ j σ1, j ≤ n ∧ f_X2_putInOrder (nI e) (nI (wt e)) (nI n) σ = some (0, σ1) ∧ (∀ k, k ≠ 15 → k ≠ 16 → σ1 k = σ k) ∧ (∀ i, i ≤ n → σ1 15 i = nI (ins du j e i) ∧ σ1 16 i = nI (wt (ins du j e i))) ∧ (∀ i, j ≤ i → i < n → wt e < wt (du i)) ∧ (j = 0 ∨ wt (du (j - 1)) ≤ wt e) := by
  obtain ⟨⟨x, σ'⟩, l1, j, hj, ex, hf, hlo, hhi, hgt, hst⟩ : ∃ a : Int32 × zS, z_loop (b_X2_putInOrder_L10 (nI e) (nI (wt e)) (nI n)) zfuel (nI n, σ) = some a ∧ ∃ j, j ≤ n ∧ a.1 = nI j ∧ (∀ k, k ≠ 15 → k ≠ 16 → a.2 k = σ k) ∧ (∀ i, i < j → a.2 15 i = nI (du i) ∧ a.2 16 i = nI (wt (du i))) ∧ (∀ i, j < i → i ≤ n → a.2 15 i = nI (du (i - 1)) ∧ a.2 16 i = nI (wt (du (i - 1)))) ∧ (∀ i, j ≤ i → i < n → wt e < wt (du i)) ∧ (j = 0 ∨ wt (du (j - 1)) ≤ wt e) := by
    refine lp_1 (fun c (a : Int32 × zS) => ∃ j, c + j = n ∧ a.1 = nI j ∧ (∀ k, k ≠ 15 → k ≠ 16 → a.2 k = σ k) ∧ (∀ i, i < j → a.2 15 i = nI (du i) ∧ a.2 16 i = nI (wt (du i))) ∧ (∀ i, j < i → i ≤ n → a.2 15 i = nI (du (i - 1)) ∧ a.2 16 i = nI (wt (du (i - 1)))) ∧ (∀ i, j ≤ i → i < n → wt e < wt (du i))) _ n ?_ zfuel 0 (nI n, σ) (Nat.zero_le _) ⟨n, by omega, rfl, fun _ _ _ => rfl, fun i hi => h i hi, fun i h1 h2 => by omega, fun i h1 h2 => by omega⟩ (by show n - 0 < 2048; omega)
    intro c ⟨x, σ'⟩ hc ⟨j, hcj, ex, hf, hlo, hhi, hgt⟩
    dsimp only at ex hf hlo hhi hgt
    subst ex
    unfold b_X2_putInOrder_L10
    dsimp only
    by_cases hj0 : j = 0
    · right
      rw [if_pos ((n_le0n (by omega)).mpr hj0)]
      exact ⟨_, rfl, j, by omega, rfl, hf, hlo, hhi, hgt, Or.inl hj0⟩
    · obtain ⟨j', rfl⟩ : ∃ j', j = j' + 1 := ⟨j - 1, by omega⟩
      rw [if_neg (nI_nle (by omega) (by omega))]
      simp only [nI_pred, zg_n (show j' < 12 by omega) (show 12 ≤ 100000 by decide), zg_n (show j' + 1 < 12 by omega) (show 12 ≤ 100000 by decide), ix_n (show j' ≤ 100000 by omega), ix_n (show j' + 1 ≤ 100000 by omega), zl_eq, pk_m1]
      obtain ⟨q1, q2⟩ := hlo j' (by omega)
      have hb := hwd j' (by omega)
      by_cases hle : wt (du j') ≤ wt e
      · right
        have hc1 : σ' 16 j' ≤ nI (wt e) := by rw [q2]; exact nI_le hle (by omega)
        rw [if_pos hc1]
        exact ⟨_, rfl, j' + 1, by omega, rfl, hf, hlo, hhi, hgt, Or.inr hle⟩
      · left
        have hc1 : ¬ σ' 16 j' ≤ nI (wt e) := by rw [q2]; exact nI_ge (by omega) (by omega)
        rw [if_neg hc1]
        refine ⟨_, rfl, by omega, j', by omega, rfl, ?_, ?_, ?_, ?_⟩
        · intro k h15 h16
          show zs _ 16 _ _ k = _
          rw [zs_ne h16, zs_ne h15]
          exact hf k h15 h16
        · intro i hi
          show upd (σ' 15) (j' + 1) _ i = _ ∧ upd (σ' 16) (j' + 1) _ i = _
          rw [up_ne (by omega), up_ne (by omega)]
          exact hlo i (by omega)
        · intro i h1 h2
          show upd (σ' 15) (j' + 1) (σ' 15 j') i = _ ∧ upd (σ' 16) (j' + 1) (σ' 16 j') i = _
          by_cases hij : i = j' + 1
          · subst hij
            rw [up_at, up_at]
            exact ⟨q1, q2⟩
          · rw [up_ne hij, up_ne hij]
            exact hhi i (by omega) h2
        · intro i h1 h2
          by_cases hij : i = j'
          · subst hij; omega
          · exact hgt i (by omega) h2
  dsimp only at ex hf hlo hhi hgt hst
  subst ex
  refine ⟨j, zs (zs σ' 15 j (nI e)) 16 j (nI (wt e)), hj, ?_, ?_, ?_, hgt, hst⟩
  · unfold f_X2_putInOrder
    rw [if_pos (show nI n < 12 from nI_lt (b := 12) hn (by decide)), l1, Option.bind_some]
    simp only [zg_n (show j < 12 by omega) (show 12 ≤ 100000 by decide), ix_n (show j ≤ 100000 by omega), zl_eq]
  · intro k h15 h16
    rw [zs_ne h16, zs_ne h15]
    exact hf k h15 h16
  · intro i hi
    show upd (σ' 15) j _ i = _ ∧ upd (σ' 16) j _ i = _
    rcases Nat.lt_trichotomy i j with hij | hij | hij
    · rw [up_ne (by omega), up_ne (by omega), ins_lo hij]
      exact hlo i hij
    · subst hij
      rw [up_at, up_at, ins_at]
      exact ⟨rfl, rfl⟩
    · rw [up_ne (by omega), up_ne (by omega), ins_hi hij]
      exact hhi i hij hi
/-- what the line holds after e events -/
def eL (wt : Nat → Nat) (G : Nat → Int32) (p e n : Nat) (du : Nat → Nat) : Prop := n ≤ e ∧ (∀ i, i < n → du i < e ∧ G (du i) = 0 ∧ wt (du i) ≤ p) ∧ (∀ i j, i < j → j < n → 12 * wt (du i) + du i < 12 * wt (du j) + du j) ∧ ∀ x, x < e → G x = 0 → wt x ≤ p → ∃ i, i < n ∧ du i = x
theorem eL_no {wt : Nat → Nat} {G : Nat → Int32} {p e n : Nat} {du : Nat → Nat} (h : eL wt G p e n du) (hn : ¬ (G e = 0 ∧ wt e ≤ p)) : eL wt G p (e + 1) n du := by
  obtain ⟨h1, h2, h3, h4⟩ := h
  refine ⟨by omega, fun i hi => ⟨by have := (h2 i hi).1; omega, (h2 i hi).2⟩, h3, fun x hx hg hw => ?_⟩
  by_cases hxe : x = e
  · subst hxe; exact absurd ⟨hg, hw⟩ hn
  · exact h4 x (by omega) hg hw
theorem eL_put {wt : Nat → Nat} {G : Nat → Int32} {p e n j : Nat} {du : Nat → Nat} (he : e < 12) (h : eL wt G p e n du) (hG : G e = 0) (hw : wt e ≤ p) (hj : j ≤ n) (hgt : ∀ i, j ≤ i → i < n → wt e < wt (du i)) (hst : j = 0 ∨ wt (du (j - 1)) ≤ wt e) : eL wt G p (e + 1) (n + 1) (ins du j e) := by
  obtain ⟨h1, h2, h3, h4⟩ := h
  have hlow : ∀ i, i < j → wt (du i) ≤ wt e := by
    intro i hi
    rcases hst with h0 | h0
    · omega
    · by_cases hij : i = j - 1
      · rw [hij]; exact h0
      · have q1 := h3 i (j - 1) (by omega) (by omega)
        have q2 := (h2 i (by omega)).1
        have q3 := (h2 (j - 1) (by omega)).1
        omega
  refine ⟨by omega, fun i hi => ?_, fun a b hab hb => ?_, fun x hx hg hwx => ?_⟩
  · rcases Nat.lt_trichotomy i j with hij | hij | hij
    · rw [ins_lo hij]
      have q := h2 i (by omega)
      exact ⟨by omega, q.2⟩
    · subst hij
      rw [ins_at]
      exact ⟨by omega, hG, hw⟩
    · rw [ins_hi hij]
      have q := h2 (i - 1) (by omega)
      exact ⟨by omega, q.2⟩
  · rcases Nat.lt_trichotomy b j with hbj | hbj | hbj
    · rw [ins_lo (show a < j by omega), ins_lo hbj]
      exact h3 a b hab (by omega)
    · subst hbj
      rw [ins_lo hab, ins_at]
      have q1 := hlow a hab
      have q2 := (h2 a (by omega)).1
      omega
    · rw [ins_hi hbj]
      rcases Nat.lt_trichotomy a j with haj | haj | haj
      · rw [ins_lo haj]
        exact h3 a (b - 1) (by omega) (by omega)
      · subst haj
        rw [ins_at]
        have q1 := hgt (b - 1) (by omega) (by omega)
        omega
      · rw [ins_hi haj]
        exact h3 (a - 1) (b - 1) (by omega) (by omega)
  · by_cases hxe : x = e
    · subst hxe
      exact ⟨j, by omega, ins_at⟩
    · obtain ⟨i, hi, rfl⟩ := h4 x (by omega) hg hwx
      by_cases hij : i < j
      · exact ⟨i, by omega, ins_lo hij⟩
      · exact ⟨i + 1, by omega, ins_hi (by omega)⟩
theorem p_line {M p t : Nat} {mn : Nat → Nat} {σ : zS} (hM : M ≤ 12) (hp : p ≤ 660) (ht : t < 1440) (e11 : σ 11 0 = nI M) (e24 : σ 24 0 = nI t) (hmn : ∀ e, e < M → σ 13 e = nI (mn e) ∧ mn e < 1440) : ∃ n du σ1, f_X7_lineUpEvents (nI p) σ = some (nI n, σ1) ∧ (∀ k, k ≠ 15 → k ≠ 16 → σ1 k = σ k) ∧ eL (fun e => p_wait (mn e) t) (σ 33) p M n du ∧ ∀ i, i < n → σ1 15 i = nI (du i) := by
  have hwl : ∀ e, e < M → p_wait (mn e) t ≤ 1440 := by
    intro e he
    have := (hmn e he).2
    unfold p_wait
    split <;> omega
  obtain ⟨⟨x, y, σ'⟩, l1, n, du, ex, hf, hE, hD⟩ : ∃ a : Int32 × Int32 × zS, z_loop (b_X7_lineUpEvents_L4 (nI p)) zfuel (0, 0, σ) = some a ∧ ∃ n du, a.1 = nI n ∧ (∀ k, k ≠ 15 → k ≠ 16 → a.2.2 k = σ k) ∧ eL (fun e => p_wait (mn e) t) (σ 33) p M n du ∧ ∀ i, i < n → a.2.2 15 i = nI (du i) ∧ a.2.2 16 i = nI (p_wait (mn (du i)) t) := by
    refine lp_1 (fun e (a : Int32 × Int32 × zS) => a.2.1 = nI e ∧ ∃ n du, a.1 = nI n ∧ (∀ k, k ≠ 15 → k ≠ 16 → a.2.2 k = σ k) ∧ eL (fun e => p_wait (mn e) t) (σ 33) p e n du ∧ ∀ i, i < n → a.2.2 15 i = nI (du i) ∧ a.2.2 16 i = nI (p_wait (mn (du i)) t)) _ M ?_ zfuel 0 (0, 0, σ) (Nat.zero_le _) ⟨rfl, 0, fun _ => 0, rfl, fun _ _ _ => rfl, ⟨Nat.le_refl _, fun i hi => by omega, fun i j h1 h2 => by omega, fun x hx => by omega⟩, fun i hi => by omega⟩ (by show M - 0 < 2048; omega)
    intro e ⟨x, y, σ'⟩ he ⟨ey, n, du, ex, hf, hE, hD⟩
    dsimp only at ey ex hf hD
    subst ey; subst ex
    have u11 : σ' 11 0 = nI M := by rw [hf 11 (by decide) (by decide)]; exact e11
    have u24 : σ' 24 0 = nI t := by rw [hf 24 (by decide) (by decide)]; exact e24
    by_cases hin : e = M
    · subst hin
      right
      have eC : σ' 11 0 ≤ nI e := by rw [u11]; exact nI_le (Nat.le_refl _) (by omega)
      unfold b_X7_lineUpEvents_L4
      dsimp only
      rw [if_pos eC]
      exact ⟨_, rfl, n, du, rfl, hf, hE, hD⟩
    · left
      have hlt : e < M := by omega
      have cC : ¬ σ' 11 0 ≤ nI e := by rw [u11]; exact nI_ge hlt (by omega)
      have u13 : σ' 13 e = nI (mn e) := by rw [hf 13 (by decide) (by decide)]; exact (hmn e hlt).1
      have u33 : σ' 33 = σ 33 := hf 33 (by decide) (by decide)
      have hun := p_until (σ := σ') (hmn e hlt).2 ht u24
      have hw1 := hwl e hlt
      unfold b_X7_lineUpEvents_L4
      dsimp only
      rw [if_neg cC]
      simp only [zg_n (show e < 12 by omega) (show 12 ≤ 100000 by decide), ix_n (show e ≤ 100000 by omega), u13, hun, zb_some, u33]
      by_cases hg : σ 33 e = 0
      · rw [if_pos hg]
        by_cases hw : p_wait (mn e) t ≤ p
        · have hc : ¬ nI p < nI (p_wait (mn e) t) := nI_nlt hw (by omega)
          rw [if_neg hc]
          have hn := hE.1
          obtain ⟨j, σ1, hj, p1, p2, p3, p4, p5⟩ := p_put (e := e) (wt := fun e => p_wait (mn e) t) (du := du) (σ := σ') (n := n) (by omega) hw1 (fun i hi => hwl _ (by have := (hE.2.1 i hi).1; omega)) hD
          rw [p1, zb_some]
          refine ⟨_, rfl, hlt, nI_1 e, n + 1, ins du j e, nI_1 n, ?_, ?_, ?_⟩
          · intro k h15 h16
            exact (p2 k h15 h16).trans (hf k h15 h16)
          · exact eL_put (by omega) hE hg hw hj p4 p5
          · intro i hi
            exact p3 i (by omega)
        · have hc : nI p < nI (p_wait (mn e) t) := nI_lt (by omega) (by omega)
          rw [if_pos hc]
          exact ⟨_, rfl, hlt, nI_1 e, n, du, rfl, hf, eL_no hE (fun q => hw q.2), hD⟩
      · rw [if_neg hg]
        exact ⟨_, rfl, hlt, nI_1 e, n, du, rfl, hf, eL_no hE (fun q => hg q.1), hD⟩
  dsimp only at ex hf hD
  subst ex
  refine ⟨n, du, σ', ?_, hf, hE, fun i hi => (hD i hi).1⟩
  unfold f_X7_lineUpEvents
  rw [l1, Option.bind_some]
