/-! ===== the pure part: the class's functions and the reference's answer alike ===== -/
theorem zb_some {α : Type} (r : Int32) (σ : zS) (g : Int32 → zS → Option α) : zb (some (r, σ)) g = g r σ := rfl
theorem zl_eq {α β : Type} (a : α) (g : α → Option β) : zl a g = g a := rfl
theorem zg_t {α : Type} {c : Prop} {d : Decidable c} (h : c) (e : Option α) : zg c e = e := by unfold zg; exact if_pos h
theorem zin_n {k n : Nat} (h : k < n) (hn : n ≤ 100000) : z_in (nI k) n := ⟨by rw [nI_clamp (by omega)]; exact h, nI_pos (by omega)⟩
theorem zg_n {α : Type} {k n : Nat} (h : k < n) (hn : n ≤ 100000) (e : Option α) : zg (z_in (nI k) n) e = e := zg_t (zin_n h hn) e
theorem ix_n {k : Nat} (h : k ≤ 100000) : (nI k).toNatClampNeg = k := nI_clamp (by omega)
theorem nn_add {a b : Nat} {x : Int32} (hx : x = nI a) : x + nI b = nI (a + b) := by rw [hx, nI_add]
theorem n_neg1 {a : Nat} (h : a ≤ 100000) : ¬ nI a = -1 := by
  intro e
  have h1 := congrArg Int32.toInt e
  rw [nI_toInt (by omega)] at h1
  have h2 : (-1 : Int32).toInt = -1 := by decide
  omega
theorem n_lt {a b : Nat} (hb : b ≤ 100000) {x : Int32} (hx : x = nI b) : nI a < x ↔ a < b ∨ 2 ^ 31 ≤ a ∧ nI a < nI b := by
  subst hx
  constructor
  · intro h
    rcases Nat.lt_or_ge a (2 ^ 31) with h1 | h1
    · exact Or.inl ((nI_ltI h1 (by omega)).mp h)
    · exact Or.inr ⟨h1, h⟩
  · intro h
    rcases h with h | h
    · exact nI_lt h (by omega)
    · exact h.2
theorem zs_ne {σ : zS} {k j k' : Nat} {v : Int32} (h : k' ≠ k) : zs σ k j v k' = σ k' := va_up_ne _ _ h
theorem zs_at {σ : zS} {k j : Nat} {v : Int32} : zs σ k j v k = upd (σ k) j v := va_up_self _ _ _
theorem up_at {f : Nat → Int32} {k : Nat} {x : Int32} : upd f k x k = x := by simp [upd]
theorem up_ne {f : Nat → Int32} {k j : Nat} {x : Int32} (h : j ≠ k) : upd f k x j = f j := by simp [upd, h]
/-- the relation: sizes, what turns don't change, what they change, the past -/
def pM (k : Nat) (σ : zS) : Nat → Nat → Int32 := fun j => σ (k + j)
def pS (N : Nat → Nat) (σ τ : zS) : Prop := (N 0 ≤ 10 ∧ σ 1 0 = nI (N 0) ∧ τ 0 4 = nI (N 0)) ∧ (N 1 ≤ 15 ∧ σ 1 1 = nI (N 1) ∧ τ 0 5 = nI (N 1)) ∧ (N 2 ≤ 4 ∧ σ 1 2 = nI (N 2) ∧ τ 0 8 = nI (N 2)) ∧ (N 3 ≤ 40 ∧ σ 5 0 = nI (N 3) ∧ τ 0 9 = nI (N 3)) ∧ (N 4 ≤ 12 ∧ σ 11 0 = nI (N 4) ∧ τ 0 15 = nI (N 4)) ∧ (N 5 ≤ 12 ∧ σ 17 0 = nI (N 5) ∧ τ 0 19 = nI (N 5)) ∧ (N 6 ≤ 12 ∧ σ 21 0 = nI (N 6) ∧ τ 0 23 = nI (N 6))
def pDo (N : Nat → Nat) (σ τ : zS) : Prop := ∀ d, d < N 1 → ∃ a b, a < N 0 ∧ b < N 0 ∧ σ 2 d = nI a ∧ σ 3 d = nI b ∧ τ 3 d = nI a ∧ τ 4 d = nI b
def pDe (N : Nat → Nat) (σ τ : zS) : Prop := ∀ d, d < N 3 → σ 6 d = τ 5 d ∧ σ 7 d = τ 6 d ∧ σ 8 d = τ 7 d ∧ σ 9 d = τ 8 d ∧ (∃ k, k ≤ 8 ∧ σ 6 d = nI k ∧ (k = 0 → (∃ c, c < 8 ∧ σ 7 d = nI c) ∧ -1000 ≤ (σ 8 d).toInt ∧ (σ 8 d).toInt ≤ 1000) ∧ (k = 8 → 1 ≤ (σ 8 d).toInt ∧ (σ 8 d).toInt ≤ 600)) ∧ (σ 9 d = -1 ∨ ∃ c, c < 8 ∧ σ 9 d = nI c)
def pLe (σ τ : zS) : Prop := ∀ d, d < 40 → σ 10 d = τ 9 d
def pEv (N : Nat → Nat) (σ τ : zS) : Prop := ∀ e, e < N 4 → (∃ d m, d < N 3 ∧ m < 1440 ∧ σ 12 e = nI d ∧ τ 10 e = nI d ∧ σ 13 e = nI m ∧ τ 11 e = nI m) ∧ σ 14 e = τ 12 e ∧ (σ 14 e = 0 ∨ σ 14 e = 1)
def pTi (N : Nat → Nat) (σ τ : zS) : Prop := ∀ t, t < N 5 → (∃ d k, d < N 3 ∧ 1 ≤ k ∧ k ≤ 50 ∧ σ 18 t = nI d ∧ τ 13 t = nI d ∧ σ 19 t = nI k ∧ τ 14 t = nI k) ∧ σ 20 t = τ 15 t ∧ (σ 20 t = 0 ∨ σ 20 t = 1)
def pDa (N : Nat → Nat) (σ τ : zS) : Prop := ∀ a, a < N 6 → ∃ d q, d < N 3 ∧ q ≤ 9 ∧ σ 22 a = nI d ∧ τ 16 a = nI d ∧ σ 23 a = nI q ∧ τ 17 a = nI q
def pPc (σ τ : zS) : Prop := ∃ q, 1 ≤ q ∧ q ≤ 60 ∧ σ 24 3 = nI q ∧ τ 0 3 = nI q
def pSt (N : Nat → Nat) (σ τ : zS) : Prop := pS N σ τ ∧ pDo N σ τ ∧ pDe N σ τ ∧ pLe σ τ ∧ pEv N σ τ ∧ pTi N σ τ ∧ pDa N σ τ ∧ pPc σ τ
def qT (m : Nat → Nat → Int32) (g : Nat → Int32) : Prop := (∃ t, t < 1440 ∧ m 0 0 = nI t ∧ g 0 = nI t) ∧ m 0 1 = g 1 ∧ m 0 2 = g 2 ∧ (∃ s, s ≤ 600 ∧ m 0 4 = nI s ∧ g 3 = nI s)
def qR (m : Nat → Nat → Int32) (g : Nat → Int32) : Prop := ∃ k, k ≤ 40 ∧ m 0 5 = nI k ∧ g 71 = nI k ∧ ∀ i, i < k → m 1 i = g (72 + 2 * i) ∧ m 2 i = g (73 + 2 * i)
def qC (m : Nat → Nat → Int32) (g : Nat → Int32) : Prop := ∀ c, c < 8 → m 3 c = g (4 + c) ∧ -1000 ≤ (m 3 c).toInt ∧ (m 3 c).toInt ≤ 1000
def qD (N : Nat → Nat) (m : Nat → Nat → Int32) (g : Nat → Int32) : Prop := ∀ d, d < 15 → (d < N 1 → (m 4 d = 0 ∧ g (12 + d) = 1) ∨ (m 4 d = 1 ∧ g (12 + d) = 0)) ∧ (N 1 ≤ d → m 4 d = 0)
def qW (N : Nat → Nat) (m : Nat → Nat → Int32) (g : Nat → Int32) : Prop := ∀ w, w < N 2 → (∃ a, a < N 0 ∧ m 5 w = nI a ∧ g (27 + w) = nI a) ∧ m 6 w = g (31 + w) ∧ (m 6 w = -1 ∨ ∃ b, b < N 0 ∧ m 6 w = nI b)
def qL (N : Nat → Nat) (m : Nat → Nat → Int32) (g : Nat → Int32) : Prop := ∀ t, t < 12 → (t < N 5 → ∃ k, k ≤ 50 ∧ m 7 t = nI k ∧ g (47 + t) = nI k) ∧ (N 5 ≤ t → m 7 t = 0)
def qO (N : Nat → Nat) (m : Nat → Nat → Int32) (g : Nat → Int32) : Prop := ∀ d, d < 12 → (d < N 6 → m 8 d = g (59 + d) ∧ (m 8 d = 0 ∨ m 8 d = 1)) ∧ (N 6 ≤ d → m 8 d = 0)
def qG (N : Nat → Nat) (m : Nat → Nat → Int32) (g : Nat → Int32) : Prop := ∀ e, e < 12 → (e < N 4 → m 9 e = g (35 + e) ∧ (m 9 e = 0 ∨ m 9 e = 1)) ∧ (N 4 ≤ e → m 9 e = 0)
def qA (N : Nat → Nat) (m : Nat → Nat → Int32) (g : Nat → Int32) : Prop := qT m g ∧ qR m g ∧ qC m g ∧ qD N m g ∧ qW N m g ∧ qL N m g ∧ qO N m g ∧ qG N m g
def pPa (N : Nat → Nat) (σ τ : zS) : Prop := ∃ np, np ≤ 8 ∧ σ 34 0 = nI np ∧ τ 0 2 = nI np ∧ (∀ i, i < 8 → ∃ a, 1 ≤ a ∧ a ≤ 8 ∧ σ 35 i = nI a) ∧ (∀ i j, i < 8 → j < 8 → σ 35 i = σ 35 j → i = j) ∧ ∀ i, i < np → qA N (pM (z_mo (σ 35 i).toNatClampNeg) σ) (fun j => τ 2 (192 * i + j)) ∧ σ (z_mo (σ 35 i).toNatClampNeg) 3 = τ 0 3
def RR (σ τ : zS) : Prop := ∃ N, pSt N σ τ ∧ qA N (pM 24 σ) (τ 1) ∧ pPa N σ τ ∧ τ 0 26 = 0 ∧ τ 0 27 = 0
/-- clauses under a change of the reference's row elsewhere -/
theorem qT_g {m : Nat → Nat → Int32} {g g' : Nat → Int32} (h : qT m g) (e : ∀ j, j < 4 → g' j = g j) : qT m g' := by
  obtain ⟨⟨t, h1, h2, h3⟩, h4, h5, s, h6, h7, h8⟩ := h
  exact ⟨⟨t, h1, h2, (e 0 (by decide)).trans h3⟩, h4.trans (e 1 (by decide)).symm, h5.trans (e 2 (by decide)).symm, s, h6, h7, (e 3 (by decide)).trans h8⟩
theorem qR_g {m : Nat → Nat → Int32} {g g' : Nat → Int32} (h : qR m g) (e : ∀ j, 71 ≤ j → g' j = g j) : qR m g' := by
  obtain ⟨k, h1, h2, h3, h4⟩ := h
  exact ⟨k, h1, h2, (e 71 (by decide)).trans h3, fun i hi => ⟨(h4 i hi).1.trans (e _ (by omega)).symm, (h4 i hi).2.trans (e _ (by omega)).symm⟩⟩
theorem qC_g {m : Nat → Nat → Int32} {g g' : Nat → Int32} (h : qC m g) (e : ∀ j, 4 ≤ j → j < 12 → g' j = g j) : qC m g' := fun c hc => ⟨(h c hc).1.trans (e _ (by omega) (by omega)).symm, (h c hc).2⟩
theorem qD_g {N : Nat → Nat} {m : Nat → Nat → Int32} {g g' : Nat → Int32} (h : qD N m g) (e : ∀ j, 12 ≤ j → j < 27 → g' j = g j) : qD N m g' := fun d hd => ⟨fun h1 => by rw [e _ (by omega) (by omega)]; exact (h d hd).1 h1, (h d hd).2⟩
theorem qW_g {N : Nat → Nat} {m : Nat → Nat → Int32} {g g' : Nat → Int32} (hN : N 2 ≤ 4) (h : qW N m g) (e : ∀ j, 27 ≤ j → j < 35 → g' j = g j) : qW N m g' := fun w hw => by
  rw [e (27 + w) (by omega) (by omega), e (31 + w) (by omega) (by omega)]
  exact h w hw
theorem qL_g {N : Nat → Nat} {m : Nat → Nat → Int32} {g g' : Nat → Int32} (h : qL N m g) (e : ∀ j, 47 ≤ j → j < 59 → g' j = g j) : qL N m g' := fun t ht => ⟨fun h1 => by rw [e _ (by omega) (by omega)]; exact (h t ht).1 h1, (h t ht).2⟩
theorem qO_g {N : Nat → Nat} {m : Nat → Nat → Int32} {g g' : Nat → Int32} (h : qO N m g) (e : ∀ j, 59 ≤ j → j < 71 → g' j = g j) : qO N m g' := fun t ht => ⟨fun h1 => by rw [e _ (by omega) (by omega)]; exact (h t ht).1 h1, (h t ht).2⟩
theorem qG_g {N : Nat → Nat} {m : Nat → Nat → Int32} {g g' : Nat → Int32} (h : qG N m g) (e : ∀ j, 35 ≤ j → j < 47 → g' j = g j) : qG N m g' := fun t ht => ⟨fun h1 => by rw [e _ (by omega) (by omega)]; exact (h t ht).1 h1, (h t ht).2⟩
/-- one change on both sides -/
theorem qC_u {m m' : Nat → Nat → Int32} {g : Nat → Int32} {c : Nat} {v : Int32} (h : qC m g) (hv : -1000 ≤ v.toInt ∧ v.toInt ≤ 1000) (e : m' 3 = upd (m 3) c v) : qC m' (upd g (4 + c) v) := fun c' hc' => by
  rw [e]
  by_cases hcc : c' = c
  · subst hcc
    rw [up_at, up_at]
    exact ⟨rfl, hv⟩
  · rw [up_ne hcc, up_ne (by omega)]
    exact h c' hc'
theorem qL_u {N : Nat → Nat} {m m' : Nat → Nat → Int32} {g : Nat → Int32} {c k : Nat} (hc : c < N 5) (h : qL N m g) (hk : k ≤ 50) (e : m' 7 = upd (m 7) c (nI k)) : qL N m' (upd g (47 + c) (nI k)) := fun t ht => by
  rw [e]
  by_cases hcc : t = c
  · subst hcc
    rw [up_at, up_at]
    exact ⟨fun _ => ⟨k, hk, rfl, rfl⟩, fun h1 => absurd hc (by omega)⟩
  · rw [up_ne hcc, up_ne (by omega)]
    exact h t ht
theorem qO_u {N : Nat → Nat} {m m' : Nat → Nat → Int32} {g : Nat → Int32} {c : Nat} {v : Int32} (hc : c < N 6) (h : qO N m g) (hv : v = 0 ∨ v = 1) (e : m' 8 = upd (m 8) c v) : qO N m' (upd g (59 + c) v) := fun t ht => by
  rw [e]
  by_cases hcc : t = c
  · subst hcc
    rw [up_at, up_at]
    exact ⟨fun _ => ⟨rfl, hv⟩, fun h1 => absurd hc (by omega)⟩
  · rw [up_ne hcc, up_ne (by omega)]
    exact h t ht
theorem qG_u {N : Nat → Nat} {m m' : Nat → Nat → Int32} {g : Nat → Int32} {c : Nat} {v : Int32} (hc : c < N 4) (h : qG N m g) (hv : v = 0 ∨ v = 1) (e : m' 9 = upd (m 9) c v) : qG N m' (upd g (35 + c) v) := fun t ht => by
  rw [e]
  by_cases hcc : t = c
  · subst hcc
    rw [up_at, up_at]
    exact ⟨fun _ => ⟨rfl, hv⟩, fun h1 => absurd hc (by omega)⟩
  · rw [up_ne hcc, up_ne (by omega)]
    exact h t ht
theorem qD_u {N : Nat → Nat} {m m' : Nat → Nat → Int32} {g : Nat → Int32} {c : Nat} {v w : Int32} (hc : c < N 1) (h : qD N m g) (hv : (v = 0 ∧ w = 1) ∨ (v = 1 ∧ w = 0)) (e : m' 4 = upd (m 4) c v) : qD N m' (upd g (12 + c) w) := fun t ht => by
  rw [e]
  by_cases hcc : t = c
  · subst hcc
    rw [up_at, up_at]
    exact ⟨fun _ => hv, fun h1 => absurd hc (by omega)⟩
  · rw [up_ne hcc, up_ne (by omega)]
    exact h t ht
/-- a walker's goal -/
theorem qW_u {N : Nat → Nat} {m m' : Nat → Nat → Int32} {g : Nat → Int32} {c : Nat} {v : Int32} (hN : N 2 ≤ 4) (h : qW N m g) (hv : v = -1 ∨ ∃ b, b < N 0 ∧ v = nI b) (e5 : m' 5 = m 5) (e : m' 6 = upd (m 6) c v) (hc : c < N 2) : qW N m' (upd g (31 + c) v) := fun t ht => by
  rw [e, e5, up_ne (f := g) (j := 27 + t) (by omega)]
  by_cases hcc : t = c
  · subst hcc
    rw [up_at, up_at]
    exact ⟨(h t ht).1, rfl, hv⟩
  · rw [up_ne hcc, up_ne (by omega)]
    exact h t ht
/-- a walker's place -/
theorem qW_p {N : Nat → Nat} {m m' : Nat → Nat → Int32} {g : Nat → Int32} {c a : Nat} (hN : N 2 ≤ 4) (h : qW N m g) (ha : a < N 0) (e6 : m' 6 = m 6) (e : m' 5 = upd (m 5) c (nI a)) (hc : c < N 2) : qW N m' (upd g (27 + c) (nI a)) := fun t ht => by
  rw [e, e6, up_ne (f := g) (j := 31 + t) (by omega)]
  by_cases hcc : t = c
  · subst hcc
    rw [up_at, up_at]
    exact ⟨⟨a, ha, rfl, rfl⟩, (h t ht).2⟩
  · rw [up_ne hcc, up_ne (by omega)]
    exact h t ht
