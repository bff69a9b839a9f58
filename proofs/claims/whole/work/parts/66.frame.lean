def gC (σ σ' : zS) : Prop := (∀ k, k ≠ 0 → k ≠ 4 → k ≠ 15 → k ≠ 16 → (k < 24 ∨ 34 ≤ k) → k ≠ 116 → σ' k = σ k) ∧ σ' 24 3 = σ 24 3
def gM (τ τ' : zS) : Prop := (∀ k, k ≠ 0 → k ≠ 1 → k ≠ 18 → k ≠ 19 → k ≠ 20 → τ' k = τ k) ∧ ∀ j, j ≠ 26 → j ≠ 27 → j ≠ 28 → τ' 0 j = τ 0 j
theorem gC_rf (σ : zS) : gC σ σ := ⟨fun _ _ _ _ _ _ _ => rfl, rfl⟩
theorem gM_rf (τ : zS) : gM τ τ := ⟨fun _ _ _ _ _ _ => rfl, fun _ _ _ _ => rfl⟩
theorem gC_t {a b c : zS} (h1 : gC a b) (h2 : gC b c) : gC a c := ⟨fun k x0 x1 x2 x3 x4 x5 => (h2.1 k x0 x1 x2 x3 x4 x5).trans (h1.1 k x0 x1 x2 x3 x4 x5), h2.2.trans h1.2⟩
theorem gM_t {a b c : zS} (h1 : gM a b) (h2 : gM b c) : gM a c := ⟨fun k x0 x1 x2 x3 x4 => (h2.1 k x0 x1 x2 x3 x4).trans (h1.1 k x0 x1 x2 x3 x4), fun j x0 x1 x2 => (h2.2 j x0 x1 x2).trans (h1.2 j x0 x1 x2)⟩
theorem fC_g {σ σ' : zS} (h : fC σ σ') : gC σ σ' := ⟨fun k x0 x1 x2 x3 x4 x5 => h.1 k x0 (by omega) (by omega) (by omega) (by omega) (by omega) (by omega) x5, h.2 3 (by decide)⟩
theorem fM_g {τ τ' : zS} (h : fM τ τ') : gM τ τ' := ⟨fun k x0 x1 x2 x3 x4 => h.1 k x0 x1 x2, fun j x0 x1 x2 => h.2.1 j x1⟩
theorem gC_s {σ : zS} {k j : Nat} {v : Int32} (hk : k = 0 ∨ k = 4 ∨ k = 15 ∨ k = 16 ∨ (25 ≤ k ∧ k < 34) ∨ k = 116) : gC σ (zs σ k j v) := ⟨fun q x0 x1 x2 x3 x4 x5 => zs_ne (by omega), by rw [zs_ne (by omega)]⟩
theorem gC_24 {σ : zS} {j : Nat} {v : Int32} (hj : j ≠ 3) : gC σ (zs σ 24 j v) := ⟨fun q x0 x1 x2 x3 x4 x5 => zs_ne (by omega), by rw [zs_at]; exact up_ne (Ne.symm hj)⟩
theorem gM_s {τ : zS} {k j : Nat} {v : Int32} (hk : k = 1 ∨ k = 18 ∨ k = 19 ∨ k = 20) : gM τ (zs τ k j v) := ⟨fun q x0 x1 x2 x3 x4 => zs_ne (by omega), fun j _ _ _ => by rw [zs_ne (by omega)]⟩
theorem gM_0 {τ : zS} {j : Nat} {v : Int32} (hj : j = 26 ∨ j = 27 ∨ j = 28) : gM τ (zs τ 0 j v) := ⟨fun q x0 x1 x2 x3 x4 => zs_ne (by omega), fun q x0 x1 x2 => by rw [zs_at]; exact up_ne (by omega)⟩
theorem pSt_g {N : Nat → Nat} {σ τ σ' τ' : zS} (h : pSt N σ τ) (hC : gC σ σ') (hM : gM τ τ') : pSt N σ' τ' := by
  have c1 : σ' 1 = σ 1 := hC.1 1 (by decide) (by decide) (by decide) (by decide) (by decide) (by decide)
  have c2 : σ' 2 = σ 2 := hC.1 2 (by decide) (by decide) (by decide) (by decide) (by decide) (by decide)
  have c3 : σ' 3 = σ 3 := hC.1 3 (by decide) (by decide) (by decide) (by decide) (by decide) (by decide)
  have c5 : σ' 5 = σ 5 := hC.1 5 (by decide) (by decide) (by decide) (by decide) (by decide) (by decide)
  have c6 : σ' 6 = σ 6 := hC.1 6 (by decide) (by decide) (by decide) (by decide) (by decide) (by decide)
  have c7 : σ' 7 = σ 7 := hC.1 7 (by decide) (by decide) (by decide) (by decide) (by decide) (by decide)
  have c8 : σ' 8 = σ 8 := hC.1 8 (by decide) (by decide) (by decide) (by decide) (by decide) (by decide)
  have c9 : σ' 9 = σ 9 := hC.1 9 (by decide) (by decide) (by decide) (by decide) (by decide) (by decide)
  have c10 : σ' 10 = σ 10 := hC.1 10 (by decide) (by decide) (by decide) (by decide) (by decide) (by decide)
  have c11 : σ' 11 = σ 11 := hC.1 11 (by decide) (by decide) (by decide) (by decide) (by decide) (by decide)
  have c12 : σ' 12 = σ 12 := hC.1 12 (by decide) (by decide) (by decide) (by decide) (by decide) (by decide)
  have c13 : σ' 13 = σ 13 := hC.1 13 (by decide) (by decide) (by decide) (by decide) (by decide) (by decide)
  have c14 : σ' 14 = σ 14 := hC.1 14 (by decide) (by decide) (by decide) (by decide) (by decide) (by decide)
  have c17 : σ' 17 = σ 17 := hC.1 17 (by decide) (by decide) (by decide) (by decide) (by decide) (by decide)
  have c18 : σ' 18 = σ 18 := hC.1 18 (by decide) (by decide) (by decide) (by decide) (by decide) (by decide)
  have c19 : σ' 19 = σ 19 := hC.1 19 (by decide) (by decide) (by decide) (by decide) (by decide) (by decide)
  have c20 : σ' 20 = σ 20 := hC.1 20 (by decide) (by decide) (by decide) (by decide) (by decide) (by decide)
  have c21 : σ' 21 = σ 21 := hC.1 21 (by decide) (by decide) (by decide) (by decide) (by decide) (by decide)
  have c22 : σ' 22 = σ 22 := hC.1 22 (by decide) (by decide) (by decide) (by decide) (by decide) (by decide)
  have c23 : σ' 23 = σ 23 := hC.1 23 (by decide) (by decide) (by decide) (by decide) (by decide) (by decide)
  have cp := hC.2
  have m3 : τ' 3 = τ 3 := hM.1 3 (by decide) (by decide) (by decide) (by decide) (by decide)
  have m4 : τ' 4 = τ 4 := hM.1 4 (by decide) (by decide) (by decide) (by decide) (by decide)
  have m5 : τ' 5 = τ 5 := hM.1 5 (by decide) (by decide) (by decide) (by decide) (by decide)
  have m6 : τ' 6 = τ 6 := hM.1 6 (by decide) (by decide) (by decide) (by decide) (by decide)
  have m7 : τ' 7 = τ 7 := hM.1 7 (by decide) (by decide) (by decide) (by decide) (by decide)
  have m8 : τ' 8 = τ 8 := hM.1 8 (by decide) (by decide) (by decide) (by decide) (by decide)
  have m9 : τ' 9 = τ 9 := hM.1 9 (by decide) (by decide) (by decide) (by decide) (by decide)
  have m10 : τ' 10 = τ 10 := hM.1 10 (by decide) (by decide) (by decide) (by decide) (by decide)
  have m11 : τ' 11 = τ 11 := hM.1 11 (by decide) (by decide) (by decide) (by decide) (by decide)
  have m12 : τ' 12 = τ 12 := hM.1 12 (by decide) (by decide) (by decide) (by decide) (by decide)
  have m13 : τ' 13 = τ 13 := hM.1 13 (by decide) (by decide) (by decide) (by decide) (by decide)
  have m14 : τ' 14 = τ 14 := hM.1 14 (by decide) (by decide) (by decide) (by decide) (by decide)
  have m15 : τ' 15 = τ 15 := hM.1 15 (by decide) (by decide) (by decide) (by decide) (by decide)
  have m16 : τ' 16 = τ 16 := hM.1 16 (by decide) (by decide) (by decide) (by decide) (by decide)
  have m17 : τ' 17 = τ 17 := hM.1 17 (by decide) (by decide) (by decide) (by decide) (by decide)
  have z4 : τ' 0 4 = τ 0 4 := hM.2 4 (by decide) (by decide) (by decide)
  have z5 : τ' 0 5 = τ 0 5 := hM.2 5 (by decide) (by decide) (by decide)
  have z8 : τ' 0 8 = τ 0 8 := hM.2 8 (by decide) (by decide) (by decide)
  have z9 : τ' 0 9 = τ 0 9 := hM.2 9 (by decide) (by decide) (by decide)
  have z15 : τ' 0 15 = τ 0 15 := hM.2 15 (by decide) (by decide) (by decide)
  have z19 : τ' 0 19 = τ 0 19 := hM.2 19 (by decide) (by decide) (by decide)
  have z23 : τ' 0 23 = τ 0 23 := hM.2 23 (by decide) (by decide) (by decide)
  have z3 : τ' 0 3 = τ 0 3 := hM.2 3 (by decide) (by decide) (by decide)
  unfold pSt pS pDo pDe pLe pEv pTi pDa pPc at h ⊢
  simp only [c1, c2, c3, c5, c6, c7, c8, c9, c10, c11, c12, c13, c14, c17, c18, c19, c20, c21, c22, c23, m3, m4, m5, m6, m7, m8, m9, m10, m11, m12, m13, m14, m15, m16, m17, z4, z5, z8, z9, z15, z19, z23, z3, cp]
  exact h
theorem qA_m {N : Nat → Nat} {m m' : Nat → Nat → Int32} {g : Nat → Int32} (h : qA N m g) (e : ∀ j, j < 10 → m' j = m j) : qA N m' g := by
  have e0 := e 0 (by decide)
  have e1 := e 1 (by decide)
  have e2 := e 2 (by decide)
  have e3 := e 3 (by decide)
  have e4 := e 4 (by decide)
  have e5 := e 5 (by decide)
  have e6 := e 6 (by decide)
  have e7 := e 7 (by decide)
  have e8 := e 8 (by decide)
  have e9 := e 9 (by decide)
  unfold qA qT qR qC qD qW qL qO qG at h ⊢
  simp only [e0, e1, e2, e3, e4, e5, e6, e7, e8, e9]
  exact h
theorem z_mo_r {a : Nat} (h1 : 1 ≤ a) (h8 : a ≤ 8) : z_mo a = 26 + 10 * a := by
  obtain ⟨b, rfl⟩ : ∃ b, a = b + 1 := ⟨a - 1, by omega⟩
  show 36 + 10 * b = _
  omega
theorem pPa_g {N : Nat → Nat} {σ τ σ' τ' : zS} (h : pPa N σ τ) (hC : gC σ σ') (hM : gM τ τ') : pPa N σ' τ' := by
  obtain ⟨np, h1, h2, h3, h4, h5, h6⟩ := h
  have c34 : σ' 34 = σ 34 := hC.1 34 (by decide) (by decide) (by decide) (by decide) (by decide) (by decide)
  have c35 : σ' 35 = σ 35 := hC.1 35 (by decide) (by decide) (by decide) (by decide) (by decide) (by decide)
  have m2 : τ' 2 = τ 2 := hM.1 2 (by decide) (by decide) (by decide) (by decide) (by decide)
  have z2 : τ' 0 2 = τ 0 2 := hM.2 2 (by decide) (by decide) (by decide)
  have z3 : τ' 0 3 = τ 0 3 := hM.2 3 (by decide) (by decide) (by decide)
  refine ⟨np, h1, by rw [c34]; exact h2, by rw [z2]; exact h3, by rw [c35]; exact h4, by rw [c35]; exact h5, fun i hi => ?_⟩
  obtain ⟨a, ha1, ha8, hae⟩ := h4 i (by omega)
  have hcl : (σ 35 i).toNatClampNeg = a := by rw [hae]; exact ix_n (by omega)
  obtain ⟨g1, g2⟩ := h6 i hi
  rw [hcl] at g1 g2
  rw [c35, hcl, m2, z3]
  have hz := z_mo_r ha1 ha8
  refine ⟨qA_m g1 (fun j hj => hC.1 _ (by omega) (by omega) (by omega) (by omega) (by omega) (by omega)), ?_⟩
  rw [hC.1 (z_mo a) (by omega) (by omega) (by omega) (by omega) (by omega) (by omega)]
  exact g2
theorem sm_act (x : Int32) : Sm RR (f_X7_act x) (f_X8_act x) := by
  intro σ τ ⟨N, hS, hA, hP, h26, h27⟩
  obtain ⟨⟨s0, s1, s2, s3, s4, s5, s6⟩, -⟩ := id hS
  have hR : RR σ τ := ⟨N, hS, hA, hP, h26, h27⟩
  unfold f_X7_act f_X8_act
  rw [s3.2.1, s3.2.2]
  rcases (p_there x (N 3) (by omega) σ τ).symm with ⟨e1, e2⟩ | ⟨d, hd, rfl, e1, e2⟩
  · exact ⟨-2, σ, τ, by rw [e1, zb_some, if_pos rfl], by rw [e2, zb_some, if_pos rfl], hR⟩
  obtain ⟨r, σ1, τ1, g1, g2, g3, g4, hA1, hfC, hfM, hE, -⟩ := p_deed hS hA hd (Or.inl h26)
  rw [e1, e2, zb_some, zb_some, if_neg n10, if_neg n10, g1, g2, zb_some, zb_some]
  have hR1 : RR (zs σ1 34 0 0) (zs τ1 0 2 0) := by
    have hS1 := pSt_g hS (fC_g hfC) (fM_g hfM)
    refine ⟨N, hS1, hA1, pPa_0 hP (hfC.1 35 (by decide) (by decide) (by decide) (by decide) (by decide) (by decide) (by decide) (by decide)) rfl rfl, ?_, ?_⟩
    · exact (hfM.2.1 26 (by decide)).trans h26
    · rcases hE with ⟨-, h⟩ | ⟨-, h⟩
      · exact h.trans h27
      · exact h.trans h26
  rcases g4 with rfl | rfl
  · refine ⟨0, zs σ1 34 0 0, zs τ1 0 2 0, ?_, ?_, hR1⟩
    · rw [if_pos rfl, show f_X7_closePast 0 σ1 = some (0, zs σ1 34 0 0) from p_close (k := 0) (by decide) σ1, zb_some]
    · rw [if_pos rfl, g3, zb_some, p_changed, zb_some]
  · refine ⟨1, zs σ1 34 0 0, zs τ1 0 2 0, ?_, ?_, hR1⟩
    · rw [if_neg n10, show f_X7_closePast 1 σ1 = some (1, zs σ1 34 0 0) from p_close (k := 1) (by decide) σ1, zb_some]
    · rw [if_neg n10, g3, zb_some, p_changed, zb_some]
/-- within a turn -/
def tR (N : Nat → Nat) (b : Nat) (σ τ : zS) : Prop := pSt N σ τ ∧ qA N (pM 24 σ) (τ 1) ∧ τ 0 26 = 1 ∧ σ 0 8 = τ 0 27 ∧ (σ 0 8 = 0 ∨ σ 0 8 = 1) ∧ ∃ k, k ≤ b ∧ σ 24 5 = nI k ∧ τ 0 28 = nI k
theorem tR_le {N : Nat → Nat} {b b' : Nat} {σ τ : zS} (h : tR N b σ τ) (hb : b ≤ b') : tR N b' σ τ := by
  obtain ⟨h1, h2, h3, h4, h5, k, h6, h7⟩ := h
  exact ⟨h1, h2, h3, h4, h5, k, by omega, h7⟩
def hC (σ σ' : zS) : Prop := (∀ k, k ≠ 24 → k ≠ 25 → k ≠ 26 → σ' k = σ k) ∧ ∀ j, j ≠ 5 → σ' 24 j = σ 24 j
def hM (τ τ' : zS) : Prop := (∀ k, k ≠ 0 → k ≠ 1 → τ' k = τ k) ∧ (∀ j, j ≠ 28 → τ' 0 j = τ 0 j) ∧ ∀ j, j < 71 → τ' 1 j = τ 1 j
theorem hC_g {σ σ' : zS} (h : hC σ σ') : gC σ σ' := ⟨fun k x0 x1 x2 x3 x4 x5 => h.1 k (by omega) (by omega) (by omega), h.2 3 (by decide)⟩
theorem hM_g {τ τ' : zS} (h : hM τ τ') : gM τ τ' := ⟨fun k x0 x1 x2 x3 x4 => h.1 k x0 x1, fun j x0 x1 x2 => h.2.1 j x2⟩
theorem p_tell {N : Nat → Nat} {b : Nat} {σ τ : zS} (kd nb : Int32) (h : tR N b σ τ) (hb : b < 40) : ∃ (σ1 τ1 : zS), f_X4_addRow kd nb σ = some (0, σ1) ∧ f_X8_tell kd nb τ = some (0, τ1) ∧ tR N (b + 1) σ1 τ1 ∧ hC σ σ1 ∧ hM τ τ1 := by
  obtain ⟨hS, hA, h26, h27, h01, k, hk, k1, k2⟩ := h
  obtain ⟨⟨s0, s1, s2, s3, s4, s5, s6⟩, -⟩ := id hS
  obtain ⟨qt, ⟨k', hk', r1, r2, r3⟩, qc, qd, qw, ql, qo, qg⟩ := id hA
  have hkk : k' = k := by
    have r1 : σ 24 5 = nI k' := r1
    exact n_eqI (by omega) (by omega) (r1.symm.trans k1)
  subst hkk
  have hlt : k' < 40 := by omega
  have e71 : ((71 : Int32).toNatClampNeg) = 71 := by decide
  have hz71 : z_in (71 : Int32) 192 := by decide
  have i1 : (72 + 2 * nI k' : Int32) = nI (72 + 2 * k') := by
    rw [show (2 * nI k' : Int32) = nI (2 * k') from pk_mul 2 k', show (72 + nI (2 * k') : Int32) = nI (72 + 2 * k') from nI_add 72 (2 * k')]
  have i2 : (nI (72 + 2 * k') + 1 : Int32) = nI (73 + 2 * k') := by rw [nI_1]; congr 1; omega
  have y1 : upd (upd (upd (τ 1) (72 + 2 * k') kd) (73 + 2 * k') nb) 71 (nI (k' + 1)) 71 = nI (k' + 1) := up_at
  have lo : ∀ j, j < 71 → upd (upd (upd (τ 1) (72 + 2 * k') kd) (73 + 2 * k') nb) 71 (nI (k' + 1)) j = τ 1 j := fun j hj => by rw [up_ne (by omega), up_ne (by omega), up_ne (by omega)]
  refine ⟨zs (zs (zs σ 25 k' kd) 26 k' nb) 24 5 (nI (k' + 1)), zs (zs (zs (zs τ 0 28 (nI (k' + 1))) 1 (72 + 2 * k') kd) 1 (73 + 2 * k') nb) 1 71 (nI (k' + 1)), ?_, ?_, ⟨?_, ⟨?_, ?_, ?_, ?_, ?_, ?_, ?_, ?_⟩, h26, h27, h01, k' + 1, by omega, rfl, rfl⟩, ⟨?_, ?_⟩, ?_, ?_, ?_⟩
  · have h40 : ¬ (40 : Int32) ≤ σ 24 5 := by rw [k1]; exact nI_ge (a := k') (b := 40) hlt (by decide)
    unfold f_X4_addRow
    rw [if_neg h40]
    simp +decide only [k1, zg_n hlt (show 40 ≤ 100000 by decide), ix_n (show k' ≤ 100000 by omega), zl_eq, zs_ne, ne_eq, not_false_eq_true, nI_1]
  · have h60 : ¬ (60 : Int32) ≤ τ 1 71 := by rw [r2]; exact nI_ge (a := k') (b := 60) (by omega) (by decide)
    have ha : zs (zs τ 0 28 (nI (k' + 1))) 1 (72 + 2 * k') kd 1 71 = nI k' := (up_ne (by omega)).trans r2
    have hb2 : zs (zs (zs τ 0 28 (nI (k' + 1))) 1 (72 + 2 * k') kd) 1 (73 + 2 * k') nb 1 71 = nI k' := (up_ne (by omega)).trans ha
    have hc2 : zs τ 0 28 (nI (k' + 1)) 1 71 = nI k' := r2
    have h60' : ¬ (60 : Int32) ≤ nI k' := r2 ▸ h60
    unfold f_X8_tell
    simp only [k2, nI_1, zl_eq, e71, zg_t hz71, hc2, if_neg h60', i1, zg_n (show 72 + 2 * k' < 192 by omega) (show 192 ≤ 100000 by decide), ix_n (show 72 + 2 * k' ≤ 100000 by omega), ha, i2, zg_n (show 73 + 2 * k' < 192 by omega) (show 192 ≤ 100000 by decide), ix_n (show 73 + 2 * k' ≤ 100000 by omega), hb2]
  · exact pSt_g hS ⟨fun k x0 x1 x2 x3 x4 x5 => by rw [zs_ne (by omega), zs_ne (by omega), zs_ne (by omega)], rfl⟩ ⟨fun k x0 x1 x2 x3 x4 => by rw [zs_ne x1, zs_ne x1, zs_ne x1, zs_ne x0], fun j x0 x1 x2 => by
      show upd (τ 0) 28 _ j = _
      exact up_ne x2⟩
  · exact qT_g (m := pM 24 σ) qt (fun j hj => lo j (by omega))
  · refine ⟨k' + 1, by omega, rfl, y1, fun i hi => ?_⟩
    show upd (σ 25) k' kd i = upd (upd (upd (τ 1) (72 + 2 * k') kd) (73 + 2 * k') nb) 71 (nI (k' + 1)) (72 + 2 * i) ∧ upd (σ 26) k' nb i = upd (upd (upd (τ 1) (72 + 2 * k') kd) (73 + 2 * k') nb) 71 (nI (k' + 1)) (73 + 2 * i)
    by_cases hik : i = k'
    · subst hik
      rw [up_at, up_at, up_ne (by omega), up_ne (by omega), up_at, up_ne (by omega), up_at]
      exact ⟨rfl, rfl⟩
    · rw [up_ne hik, up_ne hik, up_ne (by omega), up_ne (by omega), up_ne (by omega), up_ne (by omega), up_ne (by omega), up_ne (by omega)]
      exact r3 i (by omega)
  · exact qC_g (m := pM 24 σ) qc (fun j hj hj2 => lo j (by omega))
  · exact qD_g (m := pM 24 σ) qd (fun j hj hj2 => lo j (by omega))
  · exact qW_g (m := pM 24 σ) s2.1 qw (fun j hj hj2 => lo j (by omega))
  · exact qL_g (m := pM 24 σ) ql (fun j hj hj2 => lo j (by omega))
  · exact qO_g (m := pM 24 σ) qo (fun j hj hj2 => lo j (by omega))
  · exact qG_g (m := pM 24 σ) qg (fun j hj hj2 => lo j (by omega))
  · intro k x0 x1 x2
    rw [zs_ne x0, zs_ne x2, zs_ne x1]
  · intro j hj
    exact up_ne hj
  · intro k x0 x1
    rw [zs_ne x1, zs_ne x1, zs_ne x1, zs_ne x0]
  · intro j hj
    show upd (τ 0) 28 _ j = _
    exact up_ne hj
  · exact lo
theorem p_doit {N : Nat → Nat} {b d : Nat} {σ τ : zS} (h : tR N b σ τ) (hd : d < N 3) : ∃ (r : Int32) (σ1 τ1 : zS), f_X7_doDeed (nI d) σ = some (r, σ1) ∧ f_X8_perform (nI d) τ = some (0, τ1) ∧ tR N b σ1 τ1 ∧ fC σ σ1 ∧ fM τ τ1 ∧ pSd σ τ σ1 τ1 := by
  obtain ⟨hS, hA, h26, h27, h01, k, hk, k1, k2⟩ := h
  obtain ⟨r, σ1, τ1, g1, g2, g3, g4, hA1, hfC, hfM, hE, hD⟩ := p_deed hS hA hd (Or.inr h26)
  refine ⟨r, σ1, τ1, g1, g3, ⟨pSt_g hS (fC_g hfC) (fM_g hfM), hA1, (hfM.2.1 26 (by decide)).trans h26, ?_, ?_, k, hk, (hfC.2 5 (by decide)).trans k1, (hfM.2.1 28 (by decide)).trans k2⟩, hfC, hfM, hD⟩
  · rcases hE with ⟨e1, e2⟩ | ⟨e1, e2⟩
    · rw [e1, e2]; exact h27
    · rw [e1, e2, h26]
  · rcases hE with ⟨e1, e2⟩ | ⟨e1, e2⟩
    · rw [e1]; exact h01
    · exact Or.inr e1
/-- two loops side by side -/
theorem lp_2 {α β : Type} {b1 : α → Option (Bool × α)} {b2 : β → Option (Bool × β)} (I : Nat → α → β → Prop) (J : α → β → Prop) (M : Nat) (hs : ∀ i a b, i ≤ M → I i a b → (∃ a' b', b1 a = some (true, a') ∧ b2 b = some (true, b') ∧ i < M ∧ I (i + 1) a' b') ∨ (∃ a' b', b1 a = some (false, a') ∧ b2 b = some (false, b') ∧ J a' b')) : ∀ (n i : Nat) (a : α) (b : β), i ≤ M → I i a b → M - i < n → ∃ a' b', z_loop b1 n a = some a' ∧ z_loop b2 n b = some b' ∧ J a' b'
  | 0, i, a, b, _, _, h => absurd h (by omega)
  | n + 1, i, a, b, hi, hI, h => by
    rcases hs i a b hi hI with ⟨a', b', e1, e2, hlt, hI'⟩ | ⟨a', b', e1, e2, hJ⟩
    · obtain ⟨a2, b2', g1, g2, g3⟩ := lp_2 I J M hs n (i + 1) a' b' hlt hI' (by omega)
      refine ⟨a2, b2', ?_, ?_, g3⟩
      · rw [z_loop, e1]; exact g1
      · rw [z_loop, e2]; exact g2
    · exact ⟨a', b', by rw [z_loop, e1]; rfl, by rw [z_loop, e2]; rfl, hJ⟩
/-- one loop -/
theorem lp_1 {α : Type} {b1 : α → Option (Bool × α)} (I : Nat → α → Prop) (J : α → Prop) (M : Nat) (hs : ∀ i a, i ≤ M → I i a → (∃ a', b1 a = some (true, a') ∧ i < M ∧ I (i + 1) a') ∨ (∃ a', b1 a = some (false, a') ∧ J a')) : ∀ (n i : Nat) (a : α), i ≤ M → I i a → M - i < n → ∃ a', z_loop b1 n a = some a' ∧ J a'
  | 0, i, a, _, _, h => absurd h (by omega)
  | n + 1, i, a, hi, hI, h => by
    rcases hs i a hi hI with ⟨a', e1, hlt, hI'⟩ | ⟨a', e1, hJ⟩
    · obtain ⟨a2, g1, g3⟩ := lp_1 I J M hs n (i + 1) a' hlt hI' (by omega)
      exact ⟨a2, by rw [z_loop, e1]; exact g1, g3⟩
    · exact ⟨a', by rw [z_loop, e1]; rfl, hJ⟩
/-- how many below n -/
def cnt (f : Nat → Bool) : Nat → Nat
  | 0 => 0
  | n + 1 => cnt f n + (if f n = true then 1 else 0)
theorem cnt_le (f : Nat → Bool) : ∀ n, cnt f n ≤ n
  | 0 => Nat.le_refl _
  | n + 1 => by
    have := cnt_le f n
    unfold cnt
    split <;> omega
theorem cnt_mono {f g : Nat → Bool} (h : ∀ d, f d = true → g d = true) : ∀ n, cnt f n ≤ cnt g n
  | 0 => Nat.le_refl _
  | n + 1 => by
    have := cnt_mono h n
    unfold cnt
    by_cases hf : f n = true
    · rw [if_pos hf, if_pos (h n hf)]; omega
    · rw [if_neg hf]; split <;> omega
theorem cnt_one {f g : Nat → Bool} {i : Nat} (h : ∀ d, f d = true → g d = true) (hf : ¬ f i = true) (hg : g i = true) : ∀ n, i < n → cnt f n + 1 ≤ cnt g n
  | 0, hi => absurd hi (by omega)
  | n + 1, hi => by
    unfold cnt
    by_cases hin : i = n
    · subst hin
      have := cnt_mono h i
      rw [if_neg hf, if_pos hg]; omega
    · have := cnt_one h hf hg n (by omega)
      by_cases hf' : f n = true
      · rw [if_pos hf', if_pos (h n hf')]; omega
      · rw [if_neg hf']; split <;> omega
