theorem n10 : ¬ (1 : Int32) = 0 := by decide
theorem n_sub1 {n : Nat} (hn : n ≤ 100000) : (nI n - 1).toInt = (n : Int) - 1 := pk_sub_toInt (a := n) (b := 1) (by omega) (by omega)
theorem zgM {α : Type} {b k n : Nat} (x : Int32) (hx : x = nI b) (h : b + k < n) (hn : n ≤ 100000) {e : Option α} : zg (z_in (x + nI k) n) e = e := zg_t (by rw [nn_add hx]; exact zin_n h hn) e
theorem ixM {b k : Nat} (x : Int32) (hx : x = nI b) (h : b + k ≤ 100000) : (x + nI k).toNatClampNeg = b + k := by rw [nn_add hx, ix_n h]
theorem p_there (x : Int32) (n : Nat) (hn : n ≤ 1000) (σ τ : zS) : (∃ j, j < n ∧ x = nI j ∧ f_X7_isThere x (nI n) σ = some (1, σ) ∧ f_X8_isOf x (nI n) τ = some (1, τ)) ∨ (f_X7_isThere x (nI n) σ = some (0, σ) ∧ f_X8_isOf x (nI n) τ = some (0, τ)) := by
  have e1 := n_sub1 (n := n) (by omega)
  rcases pk_ix x (n := n) (by omega) with h | h | ⟨j, hj, rfl⟩
  · right
    constructor
    · unfold f_X7_isThere; rw [if_pos h]
    · unfold f_X8_isOf f_X8_in; rw [if_pos h, zb_some, zg_t (Or.inl rfl)]
  · right
    have h2 : ¬ x < 0 := by
      rw [Int32.lt_iff_toInt_lt]
      rw [Int32.le_iff_toInt_le, nI_toInt (by omega)] at h
      have : (0 : Int32).toInt = 0 := by decide
      omega
    have h3 : nI n - 1 < x := by
      rw [Int32.lt_iff_toInt_lt, e1]
      rw [Int32.le_iff_toInt_le, nI_toInt (by omega)] at h
      omega
    constructor
    · unfold f_X7_isThere; rw [if_neg h2, if_pos h]
    · unfold f_X8_isOf f_X8_in; rw [if_neg h2, if_pos h3, zb_some, zg_t (Or.inl rfl)]
  · left
    have h2 : ¬ nI j < 0 := nI_pos (by omega)
    have h3 : ¬ nI n - 1 < nI j := by
      rw [Int32.lt_iff_toInt_lt, e1, nI_toInt (by omega)]
      omega
    refine ⟨j, hj, rfl, ?_, ?_⟩
    · unfold f_X7_isThere; rw [if_neg h2, if_neg (nI_ge hj (by omega))]
    · unfold f_X8_isOf f_X8_in; rw [if_neg h2, if_neg h3, zb_some, zg_t (Or.inr rfl)]
theorem p_within (x lo hi : Int32) (σ τ : zS) : (f_X7_isWithin x lo hi σ = some (1, σ) ∧ f_X8_in x lo hi τ = some (1, τ) ∧ ¬ x < lo ∧ ¬ hi < x) ∨ (f_X7_isWithin x lo hi σ = some (0, σ) ∧ f_X8_in x lo hi τ = some (0, τ) ∧ (x < lo ∨ hi < x)) := by
  unfold f_X7_isWithin f_X8_in
  by_cases h1 : x < lo
  · right
    rw [if_pos h1, if_pos h1]
    exact ⟨rfl, rfl, Or.inl h1⟩
  · rw [if_neg h1, if_neg h1]
    by_cases h2 : hi < x
    · right
      rw [if_pos h2, if_pos h2]
      exact ⟨rfl, rfl, Or.inr h2⟩
    · left
      rw [if_neg h2, if_neg h2]
      exact ⟨rfl, rfl, h1, h2⟩
theorem n_range {x M : Int32} {n : Nat} (hM : M.toInt = n) (h1 : ¬ x < 0) (h2 : ¬ M < x) : ∃ j, j ≤ n ∧ x = nI j := nI_of2 hM h1 (Int32.not_lt.mp h2)
theorem p_close {k : Nat} (hk : k ≤ 100000) (σ : zS) : f_X7_closePast (nI k) σ = some (nI k, zs σ 34 0 0) := by
  unfold f_X7_closePast
  rw [if_neg (nI_pos (by omega)), zl_eq]
theorem p_close5 (σ : zS) : f_X7_closePast (-5) σ = some (-5, σ) := by
  unfold f_X7_closePast
  rw [if_pos (by decide)]
theorem p_changed (r : Int32) (τ : zS) : f_X8_changed r τ = some (r, zs τ 0 2 0) := rfl
theorem pPa_0 {N N' : Nat → Nat} {σ τ σ' τ' : zS} (h : pPa N σ τ) (e35 : σ' 35 = σ 35) (e34 : σ' 34 0 = 0) (e2 : τ' 0 2 = 0) : pPa N' σ' τ' := by
  obtain ⟨np, -, -, -, h4, h5, -⟩ := h
  exact ⟨0, by omega, e34, e2, by rw [e35]; exact h4, by rw [e35]; exact h5, fun i hi => absurd hi (by omega)⟩
theorem n_eqI {a b : Nat} (ha : a ≤ 100000) (hb : b ≤ 100000) (h : nI a = nI b) : a = b := (nI_eq (by omega) (by omega)).mp h
/-- room -/
theorem sm_room : Sm RR f_X7_room f_X8_room := by
  intro σ τ ⟨N, hS, hA, hP, h26, h27⟩
  obtain ⟨⟨s0, s1, s2, s3, s4, s5, s6⟩, hDo, hDe, hLe, hEv, hTi, hDa, hPc⟩ := id hS
  obtain ⟨qt, qr, qc, qd, qw, ql, qo, qg⟩ := id hA
  by_cases h : N 0 = 10
  · refine ⟨-5, σ, τ, ?_, ?_, N, hS, hA, hP, h26, h27⟩
    · unfold f_X7_room f_X3_addRoom
      rw [s0.2.1, if_neg (by rw [h]; decide), zb_some, p_close5, zb_some]
    · unfold f_X8_room
      rw [s0.2.2, if_pos (by rw [h]; rfl)]
  · have hlt : N 0 < 10 := by have := s0.1; omega
    refine ⟨nI (N 0), zs (zs σ 1 0 (nI (N 0 + 1))) 34 0 0, zs (zs τ 0 4 (nI (N 0 + 1))) 0 2 0, ?_, ?_, fun k => if k = 0 then N 0 + 1 else N k, ⟨⟨⟨by show N 0 + 1 ≤ 10; omega, rfl, rfl⟩, s1, s2, s3, s4, s5, s6⟩, ?_, hDe, hLe, hEv, hTi, hDa, hPc⟩, ⟨qt, qr, qc, qd, ?_, ql, qo, qg⟩, pPa_0 hP rfl rfl rfl, h26, h27⟩
    · unfold f_X7_room f_X3_addRoom
      rw [s0.2.1, if_pos (show nI (N 0) < 10 from nI_lt hlt (by decide)), zl_eq, zb_some, zs_at, up_at, nI_1, nI_pred, p_close (by omega), zb_some]
    · unfold f_X8_room
      rw [s0.2.2, if_neg (show ¬ nI (N 0) = 10 from fun e => h (n_eqI (b := 10) (by omega) (by omega) e)), zl_eq, zs_at, up_at, nI_1, nI_pred, p_changed, zb_some]
    · intro d hd
      obtain ⟨a, b, h1, h2, h3⟩ := hDo d hd
      exact ⟨a, b, by show a < N 0 + 1; omega, by show b < N 0 + 1; omega, h3⟩
    · intro w hw
      obtain ⟨⟨a, h1, h2⟩, h3, h4⟩ := qw w hw
      refine ⟨⟨a, by show a < N 0 + 1; omega, h2⟩, h3, ?_⟩
      rcases h4 with h4 | ⟨b, h5, h6⟩
      · exact Or.inl h4
      · exact Or.inr ⟨b, by show b < N 0 + 1; omega, h6⟩
/-- door -/
theorem sm_door (x y : Int32) : Sm RR (f_X7_door x y) (f_X8_door x y) := by
  intro σ τ ⟨N, hS, hA, hP, h26, h27⟩
  obtain ⟨⟨s0, s1, s2, s3, s4, s5, s6⟩, hDo, hDe, hLe, hEv, hTi, hDa, hPc⟩ := id hS
  obtain ⟨qt, qr, qc, qd, qw, ql, qo, qg⟩ := id hA
  have hR : RR σ τ := ⟨N, hS, hA, hP, h26, h27⟩
  unfold f_X7_door f_X8_door
  rw [s0.2.1, s0.2.2]
  rcases (p_there x (N 0) (by omega) σ τ).symm with ⟨e1, e2⟩ | ⟨a, ha, rfl, e1, e2⟩
  · exact ⟨-2, σ, τ, by rw [e1, zb_some, if_pos rfl], by rw [e2, zb_some, if_pos rfl], hR⟩
  rw [e1, e2, zb_some, zb_some, if_neg n10, if_neg n10, s0.2.1, s0.2.2]
  rcases (p_there y (N 0) (by omega) σ τ).symm with ⟨e3, e4⟩ | ⟨b, hb, rfl, e3, e4⟩
  · exact ⟨-2, σ, τ, by rw [e3, zb_some, if_pos rfl], by rw [e4, zb_some, if_pos rfl], hR⟩
  rw [e3, e4, zb_some, zb_some, if_neg n10, if_neg n10]
  by_cases hab : nI a = nI b
  · exact ⟨-3, σ, τ, by rw [if_pos hab], by rw [if_pos hab], hR⟩
  rw [if_neg hab, if_neg hab, s1.2.2]
  by_cases h : N 1 = 15
  · refine ⟨-5, σ, τ, ?_, ?_, hR⟩
    · unfold f_X3_addDoor
      rw [s1.2.1, if_neg (by rw [h]; decide), zb_some, p_close5, zb_some]
    · rw [if_pos (by rw [h]; rfl)]
  · have hlt : N 1 < 15 := by have := s1.1; omega
    have hix : (nI (N 1)).toNatClampNeg = N 1 := ix_n (by omega)
    refine ⟨nI (N 1), zs (zs (zs (zs σ 2 (N 1) (nI a)) 3 (N 1) (nI b)) 1 1 (nI (N 1 + 1))) 34 0 0, zs (zs (zs (zs (zs τ 3 (N 1) (nI a)) 4 (N 1) (nI b)) 1 (12 + N 1) 1) 0 5 (nI (N 1 + 1))) 0 2 0, ?_, ?_, fun k => if k = 1 then N 1 + 1 else N k, ⟨⟨s0, ⟨by show N 1 + 1 ≤ 15; omega, rfl, rfl⟩, s2, s3, s4, s5, s6⟩, ?_, hDe, hLe, hEv, hTi, hDa, hPc⟩, ⟨?_, ?_, ?_, ?_, ?_, ?_, ?_, ?_⟩, pPa_0 hP rfl rfl rfl, h26, h27⟩
    · simp only [f_X3_addDoor, s1.2.1, if_pos (show nI (N 1) < 15 from nI_lt hlt (by decide)), zg_n hlt (by decide), hix, zl_eq, zb_some, zs_at, zs_ne, up_at, ne_eq, Nat.reduceEqDiff, not_false_eq_true, nI_1, nI_pred, p_close (k := N 1) (by omega)]
    · simp +decide only [s1.2.2, if_neg (show ¬ nI (N 1) = 15 from fun e => h (n_eqI (b := 15) (by omega) (by omega) e)), zg_n hlt (by decide), zgM (b := 12) 12 rfl (show 12 + N 1 < 192 by omega) (by decide), ixM (b := 12) 12 rfl (show 12 + N 1 ≤ 100000 by omega), hix, zl_eq, zb_some, zs_at, zs_ne, up_at, ne_eq, Nat.reduceEqDiff, not_false_eq_true, nI_1, nI_pred, p_changed]
    · intro d hd
      have hd : d < N 1 + 1 := hd
      by_cases hdd : d = N 1
      · subst hdd
        exact ⟨a, b, ha, hb, up_at, up_at, up_at, up_at⟩
      · obtain ⟨a', b', h1, h2, h3, h4, h5, h6⟩ := hDo d (by omega)
        exact ⟨a', b', h1, h2, (up_ne hdd).trans h3, (up_ne hdd).trans h4, (up_ne hdd).trans h5, (up_ne hdd).trans h6⟩
    · exact qT_g qt (fun j hj => up_ne (by omega))
    · exact qR_g qr (fun j hj => up_ne (by omega))
    · exact qC_g qc (fun j hj hj2 => up_ne (by omega))
    · intro d hd
      show (d < N 1 + 1 → (σ 28 d = 0 ∧ upd (τ 1) (12 + N 1) 1 (12 + d) = 1) ∨ (σ 28 d = 1 ∧ upd (τ 1) (12 + N 1) 1 (12 + d) = 0)) ∧ (N 1 + 1 ≤ d → σ 28 d = 0)
      by_cases hdd : d = N 1
      · subst hdd
        exact ⟨fun _ => Or.inl ⟨(qd _ hd).2 (Nat.le_refl _), up_at⟩, fun h => absurd h (by omega)⟩
      · rw [up_ne (by omega)]
        exact ⟨fun h1 => (qd d hd).1 (by omega), fun h1 => (qd d hd).2 (by omega)⟩
    · exact qW_g (N := N) s2.1 qw (fun j hj hj2 => up_ne (by omega))
    · exact qL_g (N := N) ql (fun j hj hj2 => up_ne (by omega))
    · exact qO_g (N := N) qo (fun j hj hj2 => up_ne (by omega))
    · exact qG_g (N := N) qg (fun j hj hj2 => up_ne (by omega))
