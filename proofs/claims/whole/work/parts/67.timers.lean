theorem zs_zs {σ : zS} {k j : Nat} {a b : Int32} : zs (zs σ k j a) k j b = zs σ k j b := by
  funext x
  by_cases hx : x = k
  · subst hx
    rw [zs_at, zs_at, zs_at]
    funext y
    by_cases hy : y = j
    · subst hy; rw [up_at, up_at]
    · rw [up_ne hy, up_ne hy, up_ne hy]
  · rw [zs_ne hx, zs_ne hx, zs_ne hx]
theorem n_le0n {k : Nat} (hk : k ≤ 100000) : nI k ≤ 0 ↔ k = 0 := by
  constructor
  · intro h
    rcases Nat.eq_zero_or_pos k with h1 | h1
    · exact h1
    · exact absurd h (nI_nle h1 (by omega))
  · rintro rfl; decide
theorem n_eq0n {k : Nat} (hk : k ≤ 100000) : nI k = 0 ↔ k = 0 := ⟨fun h => n_eqI (b := 0) hk (by omega) h, fun h => by rw [h]; rfl⟩
/-- part (b): a timer runs -/
def tI (N : Nat → Nat) (σ τ : zS) : Prop := ∀ t, t < N 5 → σ 116 t = τ 18 t ∧ (σ 116 t = 0 ∨ σ 116 t = 1) ∧ (σ 116 t = 0 → σ 31 t = 0 ∨ τ 19 t = 1)
theorem tI_deed {N : Nat → Nat} {σ τ σ1 τ1 : zS} (h5 : N 5 ≤ 12) (h : tI N σ τ) (hM : fM τ τ1) (hd : pSd σ τ σ1 τ1) : tI N σ1 τ1 := by
  intro t ht
  have m19 : τ1 19 = τ 19 := hM.1 19 (by decide) (by decide) (by decide)
  obtain ⟨h1, h2, h3⟩ := h t ht
  rcases hd t (by omega) with ⟨e1, e2, e3⟩ | ⟨e1, e2⟩
  · rw [e1, e2, m19]
    refine ⟨h1, h2, fun h0 => ?_⟩
    rcases e3 with e3 | e3
    · rw [e3]; exact h3 h0
    · exact Or.inl e3
  · rw [e1, e2]
    exact ⟨rfl, Or.inr rfl, fun h0 => absurd h0 n10⟩
theorem tI_tell {N : Nat → Nat} {σ τ σ1 τ1 : zS} (h : tI N σ τ) (hC1 : hC σ σ1) (hM1 : hM τ τ1) : tI N σ1 τ1 := by
  intro t ht
  rw [hC1.1 116 (by decide) (by decide) (by decide), hC1.1 31 (by decide) (by decide) (by decide), hM1.1 18 (by decide) (by decide), hM1.1 19 (by decide) (by decide)]
  exact h t ht
theorem tR_left {N : Nat → Nat} {b t k : Nat} {σ τ : zS} (h : tR N b σ τ) (ht : t < N 5) (hk : k ≤ 50) : tR N b (zs σ 31 t (nI k)) (zs τ 1 (47 + t) (nI k)) := by
  obtain ⟨hS, hA, h26, h27, h01, hk2⟩ := h
  obtain ⟨⟨s0, s1, s2, s3, s4, s5, s6⟩, -⟩ := id hS
  obtain ⟨qt, qr, qc, qd, qw, ql, qo, qg⟩ := hA
  have h12 : t < 12 := by have := s5.1; omega
  refine ⟨hS, ⟨qT_g qt (fun j hj => up_ne (by omega)), qR_g qr (fun j hj => up_ne (by omega)), qC_g qc (fun j hj hj2 => up_ne (by omega)), qD_g qd (fun j hj hj2 => up_ne (by omega)), qW_g s2.1 qw (fun j hj hj2 => up_ne (by omega)), qL_u ht ql hk rfl, qO_g qo (fun j hj hj2 => up_ne (by omega)), qG_g qg (fun j hj hj2 => up_ne (by omega))⟩, h26, h27, h01, hk2⟩
/-- one timer that runs and wasn't started here -/
theorem p_timer {N : Nat → Nat} {b t k : Nat} {σ τ : zS} (h : tR N b σ τ) (hb : b < 40) (ht : t < N 5) (hk : k < 50) (e1 : σ 31 t = nI (k + 1)) (e2 : τ 1 (47 + t) = nI (k + 1)) (hI : tI N σ τ) (hr : τ 19 t = 1) (hs0 : σ 0 8 = 0) (hst : σ 116 t = 0) : ∃ (r : Int32) (σ1 τ1 : zS), f_X7_runTimer (nI t) σ = some (r, σ1) ∧ b_X8_goTimers_L48 (nI t, τ) = some (true, (nI (t + 1), τ1)) ∧ tR N (b + 1) σ1 τ1 ∧ gC σ σ1 ∧ gM τ τ1 ∧ tI N σ1 τ1 := by
  obtain ⟨hS, hA, h26, h27, h01, -⟩ := id h
  obtain ⟨⟨s0, s1, s2, s3, s4, s5, s6⟩, hDo, hDe, hLe, hEv, hTi, hDa, hPc⟩ := id hS
  obtain ⟨⟨d, len, hd, hl1, hl2, t1, t2, t3, t4⟩, t5, t6⟩ := hTi t ht
  have h12 : t < 12 := by have := s5.1; omega
  have hix : (nI t).toNatClampNeg = t := ix_n (by omega)
  obtain ⟨i1, i2, i3⟩ := hI t ht
  have m0 : τ 0 27 = 0 := h27.symm.trans hs0
  have m18 : τ 18 t = 0 := i1.symm.trans hst
  have c0 : ¬ (τ 0 19) ≤ nI t := by rw [s5.2.2]; exact nI_ge ht (by omega)
  have c1 : ¬ τ 19 t = 0 := by rw [hr]; exact n10
  have c2 : ¬ nI (k + 1) ≤ 0 := nI_nle (by omega) (by omega)
  have zM : ∀ {e : Option (Bool × (Int32 × zS))}, zg (z_in (47 + nI t) 192) e = e := zgM (b := 47) 47 rfl (show 47 + t < 192 by omega) (by decide)
  have iM : (47 + nI t).toNatClampNeg = 47 + t := ixM (b := 47) 47 rfl (show 47 + t ≤ 100000 by omega)
  have zI : ∀ {α : Type} (e : Option α), zg (z_in (nI t) 12) e = e := fun e => zg_n h12 (by decide) e
  have hI3 : ∀ v, tI N (zs σ 31 t v) (zs τ 1 (47 + t) v) := by
    intro v t' ht'
    obtain ⟨j1, j2, j3⟩ := hI t' ht'
    refine ⟨j1, j2, fun h0 => ?_⟩
    by_cases htt : t' = t
    · subst htt; exact Or.inr hr
    · show upd (σ 31) t v t' = 0 ∨ _
      rw [up_ne htt]
      exact j3 h0
  have hH : b_X8_goTimers_L48 (nI t, τ) = (if nI k = 0 then (if τ 15 t = 0 then zb (f_X8_tell 1 (nI t) (zs τ 1 (47 + t) 0)) fun r30 σ31 => zb (f_X8_perform (σ31 13 t) σ31) fun r33 σ34 => some (true, (nI (t + 1), σ34)) else zb (f_X8_tell 1 (nI t) (zs τ 1 (47 + t) (nI len))) fun r30 σ31 => zb (f_X8_perform (σ31 13 t) σ31) fun r33 σ34 => some (true, (nI (t + 1), σ34))) else some (true, (nI (t + 1), zs τ 1 (47 + t) (nI k)))) := by
    unfold b_X8_goTimers_L48
    have u1 : zs τ 1 (47 + t) (nI k) 1 (47 + t) = nI k := up_at
    have u2 : zs τ 1 (47 + t) (nI k) 15 t = τ 15 t := rfl
    have u3 : zs τ 1 (47 + t) (nI k) 14 t = nI len := t4
    simp only [if_neg c0, m0, if_true, zI, hix, if_neg c1, m18, zM, iM, e2, if_neg c2, nI_pred, zl_eq, u1, u2, u3, zs_zs, nI_1]
  rw [hH]
  unfold f_X7_runTimer
  have w1 : zs σ 31 t (nI k) 31 t = nI k := up_at
  have w2 : zs σ 31 t (nI k) 20 t = σ 20 t := rfl
  have w3 : zs σ 31 t (nI k) 19 t = nI len := t3
  simp only [zI, hix, e1, nI_pred, zl_eq, w1, w2, w3, zs_zs]
  by_cases hk0 : k = 0
  · subst hk0
    have e00 : nI 0 = 0 := rfl
    rw [if_pos (show nI 0 ≤ 0 by decide), if_pos e00, ← t5]
    rcases t6 with h6 | h6
    · rw [if_pos h6, if_pos h6]
      have hR3 := tR_left h ht (k := 0) (by omega)
      obtain ⟨σ1, τ1, g1, g2, g3, g4, g5⟩ := p_tell 1 (nI t) hR3 hb
      have d1 : σ1 18 t = nI d := by rw [g4.1 18 (by decide) (by decide) (by decide)]; exact t1
      have d2 : τ1 13 t = nI d := by rw [g5.1 13 (by decide) (by decide)]; exact t2
      obtain ⟨r, σ2, τ2, k1, k2, k3, k4, k5, k6⟩ := p_doit g3 hd
      refine ⟨0, σ2, τ2, ?_, ?_, k3, gC_t (gC_t (gC_s (by omega)) (hC_g g4)) (fC_g k4), gM_t (gM_t (gM_s (by omega)) (hM_g g5)) (fM_g k5), tI_deed s5.1 (tI_tell (hI3 _) g4 g5) k5 k6⟩
      · rw [g1, zb_some]
        simp only [d1, k1, zb_some]
      · rw [show zs τ 1 (47 + t) 0 = zs τ 1 (47 + t) (nI 0) from rfl, g2, zb_some]
        simp only [d2, k2, zb_some]
    · have h6n : ¬ σ 20 t = 0 := by rw [h6]; exact n10
      rw [if_neg h6n, if_neg h6n]
      have hR3 := tR_left h ht (k := len) hl2
      obtain ⟨σ1, τ1, g1, g2, g3, g4, g5⟩ := p_tell 1 (nI t) hR3 hb
      have d1 : σ1 18 t = nI d := by rw [g4.1 18 (by decide) (by decide) (by decide)]; exact t1
      have d2 : τ1 13 t = nI d := by rw [g5.1 13 (by decide) (by decide)]; exact t2
      obtain ⟨r, σ2, τ2, k1, k2, k3, k4, k5, k6⟩ := p_doit g3 hd
      refine ⟨0, σ2, τ2, ?_, ?_, k3, gC_t (gC_t (gC_s (by omega)) (hC_g g4)) (fC_g k4), gM_t (gM_t (gM_s (by omega)) (hM_g g5)) (fM_g k5), tI_deed s5.1 (tI_tell (hI3 _) g4 g5) k5 k6⟩
      · rw [g1, zb_some]
        simp only [d1, k1, zb_some]
      · rw [g2, zb_some]
        simp only [d2, k2, zb_some]
  · rw [if_neg (fun q => hk0 ((n_le0n (by omega)).mp q)), if_neg (fun q => hk0 ((n_eq0n (by omega)).mp q))]
    exact ⟨0, _, _, rfl, rfl, tR_le (tR_left h ht (by omega)) (by omega), gC_s (by omega), gM_s (by omega), hI3 _⟩
theorem p_timers {N : Nat → Nat} {B : Nat} {σ τ : zS} (h : tR N B σ τ) (hB : B ≤ 24) : ∃ (r r' : Int32) (σ1 τ1 : zS), f_X7_runTimers σ = some (r, σ1) ∧ f_X8_goTimers τ = some (r', τ1) ∧ tR N (B + N 5) σ1 τ1 ∧ gC σ σ1 ∧ gM τ τ1 := by
  obtain ⟨⟨⟨s0, s1, s2, s3, s4, s5, s6⟩, -⟩, -⟩ := id h
  have h5 := s5.1
  obtain ⟨a1, b1, l1, l2, hR1, hc1, hm1, hI1⟩ : ∃ (a1 b1 : Int32 × zS), z_loop b_X7_runTimers_L2 zfuel (0, σ) = some a1 ∧ z_loop b_X8_goTimers_L2 zfuel (0, τ) = some b1 ∧ tR N B a1.2 b1.2 ∧ gC σ a1.2 ∧ gM τ b1.2 ∧ tI N a1.2 b1.2 := by
    refine lp_2 (fun i (a : Int32 × zS) (b : Int32 × zS) => a.1 = nI i ∧ b.1 = nI i ∧ tR N B a.2 b.2 ∧ gC σ a.2 ∧ gM τ b.2 ∧ ∀ t, t < i → a.2 116 t = b.2 18 t ∧ (a.2 116 t = 0 ∨ a.2 116 t = 1) ∧ (a.2 116 t = 0 → a.2 31 t = 0 ∨ b.2 19 t = 1)) (fun a b => tR N B a.2 b.2 ∧ gC σ a.2 ∧ gM τ b.2 ∧ tI N a.2 b.2) (N 5) ?_ zfuel 0 (0, σ) (0, τ) (Nat.zero_le _) ⟨rfl, rfl, h, gC_rf σ, gM_rf τ, fun t ht => absurd ht (by omega)⟩ (by show N 5 - 0 < 2048; omega)
    intro i ⟨x, σ'⟩ ⟨y, τ'⟩ hi ⟨ex, ey, hR, hc, hm, hT⟩
    dsimp only at ex ey hR hc hm hT
    subst ex; subst ey
    obtain ⟨⟨⟨_, _, _, _, _, u5, _⟩, -⟩, ⟨_, _, _, _, _, ql, _, _⟩, -⟩ := id hR
    unfold b_X7_runTimers_L2 b_X8_goTimers_L2
    dsimp only
    by_cases hin : i = N 5
    · subst hin
      right
      have eC : σ' 17 0 ≤ nI (N 5) := by rw [u5.2.1]; exact nI_le (Nat.le_refl _) (by omega)
      have eM : τ' 0 19 ≤ nI (N 5) := by rw [u5.2.2]; exact nI_le (Nat.le_refl _) (by omega)
      rw [if_pos eC, if_pos eM]
      exact ⟨_, _, rfl, rfl, hR, hc, hm, hT⟩
    · have hlt : i < N 5 := by omega
      left
      have hix : (nI i).toNatClampNeg = i := ix_n (by omega)
      have zM : ∀ {e : Option (Bool × (Int32 × zS))}, zg (z_in (47 + nI i) 192) e = e := zgM (b := 47) 47 rfl (show 47 + i < 192 by omega) (by decide)
      have iM : (47 + nI i).toNatClampNeg = 47 + i := ixM (b := 47) 47 rfl (show 47 + i ≤ 100000 by omega)
      have zI : ∀ {α : Type} (e : Option α), zg (z_in (nI i) 12) e = e := fun e => zg_n (by omega) (by decide) e
      obtain ⟨k, hk, k1, k2⟩ := (ql i (by omega)).1 hlt
      have k1 : σ' 31 i = nI k := k1
      have cC : ¬ σ' 17 0 ≤ nI i := by rw [u5.2.1]; exact nI_ge hlt (by omega)
      have cM : ¬ τ' 0 19 ≤ nI i := by rw [u5.2.2]; exact nI_ge hlt (by omega)
      rw [if_neg cC, if_neg cM]
      simp only [zI, hix, zM, iM, k2, zl_eq, nI_1]
      have fin : ∀ v : Int32, (v = 0 ∨ v = 1) → (k ≠ 0 → v = 1) → tR N B (zs σ' 116 i 0) (zs (zs τ' 19 i v) 18 i 0) ∧ gC σ (zs σ' 116 i 0) ∧ gM τ (zs (zs τ' 19 i v) 18 i 0) ∧ ∀ t, t < i + 1 → zs σ' 116 i 0 116 t = zs (zs τ' 19 i v) 18 i 0 18 t ∧ (zs σ' 116 i 0 116 t = 0 ∨ zs σ' 116 i 0 116 t = 1) ∧ (zs σ' 116 i 0 116 t = 0 → zs σ' 116 i 0 31 t = 0 ∨ zs (zs τ' 19 i v) 18 i 0 19 t = 1) := by
        intro v hv hkv
        refine ⟨hR, gC_t hc (gC_s (by omega)), gM_t hm (gM_t (gM_s (by omega)) (gM_s (by omega))), fun t ht => ?_⟩
        show upd (σ' 116) i 0 t = upd (τ' 18) i 0 t ∧ (upd (σ' 116) i 0 t = 0 ∨ upd (σ' 116) i 0 t = 1) ∧ (upd (σ' 116) i 0 t = 0 → σ' 31 t = 0 ∨ upd (τ' 19) i v t = 1)
        by_cases hti : t = i
        · subst hti
          rw [up_at, up_at, up_at]
          refine ⟨rfl, Or.inl rfl, fun _ => ?_⟩
          by_cases hk0 : k = 0
          · left; rw [k1, hk0]; rfl
          · right; exact hkv hk0
        · rw [up_ne hti, up_ne hti, up_ne hti]
          exact hT t (by omega)
      by_cases hk0 : k = 0
      · rw [if_pos ((n_le0n (by omega)).mpr hk0)]
        obtain ⟨f1, f2, f3, f4⟩ := fin 0 (Or.inl rfl) (fun h => absurd hk0 h)
        exact ⟨_, _, rfl, rfl, hlt, rfl, rfl, f1, f2, f3, f4⟩
      · rw [if_neg (fun q => hk0 ((n_le0n (by omega)).mp q))]
        obtain ⟨f1, f2, f3, f4⟩ := fin 1 (Or.inr rfl) (fun _ => rfl)
        exact ⟨_, _, rfl, rfl, hlt, rfl, rfl, f1, f2, f3, f4⟩
  obtain ⟨a2, b2, l3, l4, hR2, hc2, hm2⟩ : ∃ (a2 b2 : Int32 × zS), z_loop b_X7_runTimers_L28 zfuel (0, a1.2) = some a2 ∧ z_loop b_X8_goTimers_L48 zfuel (0, b1.2) = some b2 ∧ tR N (B + N 5) a2.2 b2.2 ∧ gC σ a2.2 ∧ gM τ b2.2 := by
    refine lp_2 (fun i (a : Int32 × zS) (b : Int32 × zS) => a.1 = nI i ∧ b.1 = nI i ∧ tR N (B + i) a.2 b.2 ∧ gC σ a.2 ∧ gM τ b.2 ∧ tI N a.2 b.2) (fun a b => tR N (B + N 5) a.2 b.2 ∧ gC σ a.2 ∧ gM τ b.2) (N 5) ?_ zfuel 0 (0, a1.2) (0, b1.2) (Nat.zero_le _) ⟨rfl, rfl, hR1, hc1, hm1, hI1⟩ (by show N 5 - 0 < 2048; omega)
    intro i ⟨x, σ'⟩ ⟨y, τ'⟩ hi ⟨ex, ey, hR, hc, hm, hT⟩
    dsimp only at ex ey hR hc hm hT
    subst ex; subst ey
    obtain ⟨⟨⟨_, _, _, _, _, u5, _⟩, -⟩, ⟨_, _, _, _, _, ql, _, _⟩, h26, h27, h01, -⟩ := id hR
    by_cases hin : i = N 5
    · subst hin
      right
      unfold b_X7_runTimers_L28 b_X8_goTimers_L48
      dsimp only
      have eC : σ' 17 0 ≤ nI (N 5) := by rw [u5.2.1]; exact nI_le (Nat.le_refl _) (by omega)
      have eM : τ' 0 19 ≤ nI (N 5) := by rw [u5.2.2]; exact nI_le (Nat.le_refl _) (by omega)
      rw [if_pos eC, if_pos eM]
      exact ⟨_, _, rfl, rfl, hR, hc, hm⟩
    · have hlt : i < N 5 := by omega
      have hix : (nI i).toNatClampNeg = i := ix_n (by omega)
      have zM : ∀ {e : Option (Bool × (Int32 × zS))}, zg (z_in (47 + nI i) 192) e = e := zgM (b := 47) 47 rfl (show 47 + i < 192 by omega) (by decide)
      have iM : (47 + nI i).toNatClampNeg = 47 + i := ixM (b := 47) 47 rfl (show 47 + i ≤ 100000 by omega)
      have zI : ∀ {α : Type} (e : Option α), zg (z_in (nI i) 12) e = e := fun e => zg_n (by omega) (by decide) e
      have cC : ¬ σ' 17 0 ≤ nI i := by rw [u5.2.1]; exact nI_ge hlt (by omega)
      have cM : ¬ τ' 0 19 ≤ nI i := by rw [u5.2.2]; exact nI_ge hlt (by omega)
      rcases h01 with h0 | h1
      · left
        have m0 : τ' 0 27 = 0 := h27.symm.trans h0
        obtain ⟨k, hk, k1, k2⟩ := (ql i (by omega)).1 hlt
        have k1 : σ' 31 i = nI k := k1
        obtain ⟨j1, j2, j3⟩ := hT i hlt
        by_cases hk0 : k = 0
        · refine ⟨(nI (i + 1), σ'), (nI (i + 1), τ'), ?_, ?_, hlt, rfl, rfl, tR_le hR (by omega), hc, hm, hT⟩
          · unfold b_X7_runTimers_L28
            dsimp only
            rw [if_neg cC, if_pos h0]
            simp only [zI, hix, k1]
            rw [if_pos ((n_le0n (by omega)).mpr hk0), nI_1]
          · unfold b_X8_goTimers_L48
            dsimp only
            rw [if_neg cM, if_pos m0]
            simp only [zI, hix, zM, iM, k2]
            by_cases g1 : τ' 19 i = 0
            · rw [if_pos g1, nI_1]
            · rw [if_neg g1]
              by_cases g2 : τ' 18 i = 0
              · rw [if_pos g2, if_pos ((n_le0n (by omega)).mpr hk0), nI_1]
              · rw [if_neg g2, nI_1]
        · by_cases hst : σ' 116 i = 0
          · have hr : τ' 19 i = 1 := by
              rcases j3 hst with q | q
              · exact absurd (by rw [← k1]; exact q) (fun q : nI k = 0 => hk0 ((n_eq0n (by omega)).mp q))
              · exact q
            obtain ⟨k', rfl⟩ : ∃ k', k = k' + 1 := ⟨k - 1, by omega⟩
            obtain ⟨r, σ1, τ1, g1, g2, g3, g4, g5, g6⟩ := p_timer hR (by omega) hlt (by omega) k1 k2 hT hr h0 hst
            refine ⟨(nI (i + 1), σ1), (nI (i + 1), τ1), ?_, g2, hlt, rfl, rfl, g3, gC_t hc g4, gM_t hm g5, g6⟩
            unfold b_X7_runTimers_L28
            dsimp only
            rw [if_neg cC, if_pos h0]
            simp only [zI, hix, k1]
            rw [if_neg (nI_nle (by omega) (by omega)), if_pos hst, g1, zb_some, nI_1]
          · refine ⟨(nI (i + 1), σ'), (nI (i + 1), τ'), ?_, ?_, hlt, rfl, rfl, tR_le hR (by omega), hc, hm, hT⟩
            · unfold b_X7_runTimers_L28
              dsimp only
              rw [if_neg cC, if_pos h0]
              simp only [zI, hix, k1]
              rw [if_neg (fun q => hk0 ((n_le0n (by omega)).mp q)), if_neg hst, nI_1]
            · unfold b_X8_goTimers_L48
              dsimp only
              rw [if_neg cM, if_pos m0]
              simp only [zI, hix, zM, iM, k2]
              by_cases g1 : τ' 19 i = 0
              · rw [if_pos g1, nI_1]
              · rw [if_neg g1, if_neg (fun q => hst (j1.trans q)), nI_1]
      · right
        have n1 : ¬ σ' 0 8 = 0 := by rw [h1]; exact n10
        refine ⟨(nI i, σ'), (nI i, τ'), ?_, ?_, tR_le hR (by omega), hc, hm⟩
        · unfold b_X7_runTimers_L28
          dsimp only
          rw [if_neg cC, if_neg n1]
        · unfold b_X8_goTimers_L48
          dsimp only
          rw [if_neg cM, if_neg (fun q => n1 (h27.trans q))]
  refine ⟨0, 0, a2.2, b2.2, ?_, ?_, hR2, hc2, hm2⟩
  · unfold f_X7_runTimers
    rw [l1, Option.bind_some, l3, Option.bind_some]
  · unfold f_X8_goTimers
    rw [l2, Option.bind_some, l4, Option.bind_some]
