theorem zg_T {α : Type} {d : Decidable True} (e : Option α) : @zg α True d e = e := by unfold zg; exact if_pos trivial
/-- what a deed leaves alone -/
def fC (σ σ' : zS) : Prop := (∀ k, k ≠ 0 → k ≠ 24 → k ≠ 27 → k ≠ 28 → k ≠ 30 → k ≠ 31 → k ≠ 32 → k ≠ 116 → σ' k = σ k) ∧ ∀ j, j ≠ 4 → σ' 24 j = σ 24 j
def fM (τ τ' : zS) : Prop := (∀ k, k ≠ 0 → k ≠ 1 → k ≠ 18 → τ' k = τ k) ∧ (∀ j, j ≠ 27 → τ' 0 j = τ 0 j) ∧ ∀ j, (j < 3 ∨ (27 ≤ j ∧ j < 31) ∨ (35 ≤ j ∧ j < 47) ∨ 71 ≤ j) → τ' 1 j = τ 1 j
theorem fC_rf (σ : zS) : fC σ σ := ⟨fun _ _ _ _ _ _ _ _ _ => rfl, fun _ _ => rfl⟩
theorem fM_rf (τ : zS) : fM τ τ := ⟨fun _ _ _ _ => rfl, fun _ _ => rfl, fun _ _ => rfl⟩
theorem fC_s {σ : zS} {k j : Nat} {v : Int32} (hk : k = 0 ∨ k = 27 ∨ k = 28 ∨ k = 30 ∨ k = 31 ∨ k = 32 ∨ k = 116) : fC σ (zs σ k j v) := ⟨fun q h0 h1 h2 h3 h4 h5 h6 h7 => zs_ne (by omega), fun q _ => by rw [zs_ne (by omega)]⟩
theorem fC_t {a b c : zS} (h1 : fC a b) (h2 : fC b c) : fC a c := ⟨fun q x0 x1 x2 x3 x4 x5 x6 x7 => (h2.1 q x0 x1 x2 x3 x4 x5 x6 x7).trans (h1.1 q x0 x1 x2 x3 x4 x5 x6 x7), fun j hj => (h2.2 j hj).trans (h1.2 j hj)⟩
theorem fM_t {a b c : zS} (h1 : fM a b) (h2 : fM b c) : fM a c := ⟨fun q x0 x1 x2 => (h2.1 q x0 x1 x2).trans (h1.1 q x0 x1 x2), fun j hj => (h2.2.1 j hj).trans (h1.2.1 j hj), fun j hj => (h2.2.2 j hj).trans (h1.2.2 j hj)⟩
theorem fM_1 {τ : zS} {i : Nat} {v : Int32} (hi : ¬ (i < 3 ∨ (27 ≤ i ∧ i < 31) ∨ (35 ≤ i ∧ i < 47) ∨ 71 ≤ i)) : fM τ (zs τ 1 i v) := ⟨fun q x0 x1 x2 => zs_ne (by omega), fun j _ => by rw [zs_ne (by omega)], fun j hj => by rw [zs_at]; exact up_ne (fun e => hi (e ▸ hj))⟩
theorem fM_18 {τ : zS} {i : Nat} {v : Int32} : fM τ (zs τ 18 i v) := ⟨fun q x0 x1 x2 => zs_ne (by omega), fun j _ => by rw [zs_ne (by omega)], fun j _ => by rw [zs_ne (by omega)]⟩
theorem fM_27 {τ : zS} {v : Int32} : fM τ (zs τ 0 27 v) := ⟨fun q x0 x1 x2 => zs_ne (by omega), fun j hj => by rw [zs_at]; exact up_ne hj, fun j _ => by rw [zs_ne (by omega)]⟩
def pEn (σ τ σ' τ' : zS) : Prop := (σ' 0 8 = σ 0 8 ∧ τ' 0 27 = τ 0 27) ∨ (σ' 0 8 = 1 ∧ τ' 0 27 = τ 0 26)
def pSd (σ τ σ' τ' : zS) : Prop := ∀ t, t < 12 → (σ' 116 t = σ 116 t ∧ τ' 18 t = τ 18 t ∧ (σ' 31 t = σ 31 t ∨ σ' 31 t = 0)) ∨ (σ' 116 t = 1 ∧ τ' 18 t = 1)
def pRes (N : Nat → Nat) (σ τ σ' τ' : zS) : Prop := qA N (pM 24 σ') (τ' 1) ∧ fC σ σ' ∧ fM τ τ' ∧ pEn σ τ σ' τ' ∧ pSd σ τ σ' τ'
theorem pRes_rf {N : Nat → Nat} {σ τ : zS} (h : qA N (pM 24 σ) (τ 1)) : pRes N σ τ σ τ := ⟨h, fC_rf σ, fM_rf τ, Or.inl ⟨rfl, rfl⟩, fun t _ => Or.inl ⟨rfl, rfl, Or.inl rfl⟩⟩
theorem p_bnd (w : Int32) : (if (-1000) < (if w < 1000 then w else 1000) then (if w < 1000 then w else 1000) else (-1000) : Int32) = (if (-1000) ≤ w then (if w ≤ 1000 then w else 1000) else (-1000)) ∧ -1000 ≤ (if (-1000) ≤ w then (if w ≤ 1000 then w else 1000) else (-1000) : Int32).toInt ∧ (if (-1000) ≤ w then (if w ≤ 1000 then w else 1000) else (-1000) : Int32).toInt ≤ 1000 := by
  have m1 : (-1000 : Int32).toInt = -1000 := by decide
  have m2 : (1000 : Int32).toInt = 1000 := by decide
  by_cases h1 : w.toInt < 1000
  · have g1 : w < 1000 := Int32.lt_iff_toInt_lt.mpr (by omega)
    have g2 : w ≤ 1000 := Int32.le_iff_toInt_le.mpr (by omega)
    rw [if_pos g1, if_pos g2]
    by_cases h2 : -1000 < w.toInt
    · have g3 : -1000 < w := Int32.lt_iff_toInt_lt.mpr (by omega)
      have g4 : -1000 ≤ w := Int32.le_iff_toInt_le.mpr (by omega)
      rw [if_pos g3, if_pos g4]
      exact ⟨rfl, by omega, by omega⟩
    · have g3 : ¬ -1000 < w := fun q => h2 (by have := Int32.lt_iff_toInt_lt.mp q; omega)
      rw [if_neg g3]
      by_cases h3 : w.toInt = -1000
      · have e : w = -1000 := Int32.toInt_inj.mp (by omega)
        subst e
        rw [if_pos (by decide)]
        exact ⟨rfl, by decide, by decide⟩
      · have g4 : ¬ -1000 ≤ w := fun q => by have := Int32.le_iff_toInt_le.mp q; omega
        rw [if_neg g4]
        exact ⟨rfl, by decide, by decide⟩
  · have g1 : ¬ w < 1000 := fun q => h1 (by have := Int32.lt_iff_toInt_lt.mp q; omega)
    have g4 : -1000 ≤ w := Int32.le_iff_toInt_le.mpr (by omega)
    rw [if_neg g1, if_pos (by decide), if_pos g4]
    by_cases h3 : w.toInt = 1000
    · have e : w = 1000 := Int32.toInt_inj.mp (by omega)
      subst e
      rw [if_pos (by decide)]
      exact ⟨rfl, by decide, by decide⟩
    · have g5 : ¬ w ≤ 1000 := fun q => by have := Int32.le_iff_toInt_le.mp q; omega
      rw [if_neg g5]
      exact ⟨rfl, by decide, by decide⟩
theorem p_bound (w lo hi : Int32) (τ : zS) : f_X8_bound w lo hi τ = some (if lo ≤ w then (if w ≤ hi then w else hi) else lo, τ) := by
  unfold f_X8_bound
  by_cases h1 : lo ≤ w
  · rw [if_pos h1, if_pos h1]
    by_cases h2 : w ≤ hi
    · rw [if_pos h2, if_pos h2]
    · rw [if_neg h2, if_neg h2]
  · rw [if_neg h1, if_neg h1]
theorem p_k0 {N : Nat → Nat} {σ τ : zS} {d : Nat} {x y : Int32} (hS : pSt N σ τ) (hA : qA N (pM 24 σ) (τ 1)) (hh : f_X8_holds (nI d) τ = some (1, τ)) (hd40 : d < 40) (e6 : τ 6 d = x) (e7 : τ 7 d = y) (e5 : τ 5 d = 0) {c : Nat} (hc : c < 8) (hx : x = nI c) : ∃ (σ1 τ1 : zS), f_X7_carryOut 0 x y σ = some (0, σ1) ∧ f_X8_perform (nI d) τ = some (0, τ1) ∧ pRes N σ τ σ1 τ1 := by
  obtain ⟨⟨s0, s1, s2, s3, s4, s5, s6⟩, hDo, hDe, hLe, hEv, hTi, hDa, hPc⟩ := id hS
  obtain ⟨qt, qr, qc, qd, qw, ql, qo, qg⟩ := id hA
  subst hx
  have h1 : σ 27 c = τ 1 (4 + c) := (qc c hc).1
  obtain ⟨b1, b2, b3⟩ := p_bnd (σ 27 c + y)
  have e3 : f_X7_isCounter (nI c) σ = some (1, σ) := by
    rcases p_ctr (nI c) σ τ with ⟨c', h1, h2, h3, -⟩ | ⟨-, h3⟩
    · exact h3
    · exfalso
      unfold f_X8_in at h3
      rw [if_neg (nI_pos (by omega)), if_neg (by
        rw [Int32.lt_iff_toInt_lt, nI_toInt (by omega)]
        have z7 : (7 : Int32).toInt = 7 := by decide
        omega)] at h3
      simp at h3
  refine ⟨zs σ 27 c (if (-1000) ≤ σ 27 c + y then (if σ 27 c + y ≤ 1000 then σ 27 c + y else 1000) else (-1000)), zs τ 1 (4 + c) (if (-1000) ≤ σ 27 c + y then (if σ 27 c + y ≤ 1000 then σ 27 c + y else 1000) else (-1000)), ?_, ?_, ?_, fC_s (by omega), fM_1 (by omega), Or.inl ⟨rfl, rfl⟩, fun t _ => Or.inl ⟨rfl, rfl, Or.inl rfl⟩⟩
  · unfold f_X7_carryOut
    rw [if_pos rfl]
    unfold f_X4_growCounter
    rw [e3, zb_some, if_neg n10, zg_n hc (by decide), zg_n hc (by decide), ix_n (by omega), zl_eq, b1, zb_some]
  · simp +decide only [f_X8_perform, hh, zb_some, if_neg n10, zg_n hd40 (show 40 ≤ 100000 by decide), ix_n (show d ≤ 100000 by omega), e5, e6, e7, if_false, if_true, zgM (b := 4) 4 rfl (show 4 + c < 192 by omega) (show 192 ≤ 100000 by decide), ixM (b := 4) 4 rfl (show 4 + c ≤ 100000 by omega), p_bound, ← h1, zl_eq]
  · exact ⟨qT_g qt (fun j hj => up_ne (by omega)), qR_g qr (fun j hj => up_ne (by omega)), qC_u qc ⟨b2, b3⟩ rfl, qD_g (N := N) qd (fun j hj hj2 => up_ne (by omega)), qW_g (N := N) s2.1 qw (fun j hj hj2 => up_ne (by omega)), qL_g (N := N) ql (fun j hj hj2 => up_ne (by omega)), qO_g (N := N) qo (fun j hj hj2 => up_ne (by omega)), qG_g (N := N) qg (fun j hj hj2 => up_ne (by omega))⟩
theorem p_k1 {N : Nat → Nat} {σ τ : zS} {d : Nat} {x y : Int32} (hS : pSt N σ τ) (hA : qA N (pM 24 σ) (τ 1)) (hh : f_X8_holds (nI d) τ = some (1, τ)) (hd40 : d < 40) (e6 : τ 6 d = x) (e7 : τ 7 d = y) (e5 : τ 5 d = 1) : ∃ (σ1 τ1 : zS), f_X7_carryOut 1 x y σ = some (0, σ1) ∧ f_X8_perform (nI d) τ = some (0, τ1) ∧ pRes N σ τ σ1 τ1 := by
  obtain ⟨⟨s0, s1, s2, s3, s4, s5, s6⟩, hDo, hDe, hLe, hEv, hTi, hDa, hPc⟩ := id hS
  obtain ⟨qt, qr, qc, qd, qw, ql, qo, qg⟩ := id hA
  rcases (p_there x (N 5) (by omega) σ τ).symm with ⟨t1, t2⟩ | ⟨t, ht, rfl, t1, t2⟩
  · refine ⟨σ, τ, ?_, ?_, pRes_rf hA⟩
    · unfold f_X7_carryOut
      rw [if_neg (by decide), if_pos rfl]
      unfold f_X7_startTimer
      rw [s5.2.1, t1, zb_some, if_pos rfl, zb_some]
    · simp +decide only [f_X8_perform, hh, zb_some, if_neg n10, zg_n hd40 (show 40 ≤ 100000 by decide), ix_n (show d ≤ 100000 by omega), e5, e6, e7, if_false, if_true, s5.2.2, t2]
  obtain ⟨⟨_, k, -, hk1, hk2, -, -, hk3, hk4⟩, -⟩ := hTi t ht
  have h12 : t < 12 := by have := s5.1; omega
  refine ⟨zs (zs σ 31 t (nI k)) 116 t 1, zs (zs τ 1 (47 + t) (nI k)) 18 t 1, ?_, ?_, ?_, fC_t (fC_s (by omega)) (fC_s (by omega)), fM_t (fM_1 (by omega)) fM_18, Or.inl ⟨rfl, rfl⟩, fun t' _ => ?_⟩
  · unfold f_X7_carryOut
    rw [if_neg (by decide), if_pos rfl]
    unfold f_X7_startTimer
    rw [s5.2.1, t1, zb_some, if_neg n10]
    simp only [zg_n h12 (show 12 ≤ 100000 by decide), ix_n (show t ≤ 100000 by omega), hk3, zl_eq, zb_some]
    rfl
  · simp +decide only [f_X8_perform, hh, zb_some, if_neg n10, zg_n hd40 (show 40 ≤ 100000 by decide), ix_n (show d ≤ 100000 by omega), e5, e6, e7, if_false, if_true, s5.2.2, t2, zg_n h12 (show 12 ≤ 100000 by decide), ix_n (show t ≤ 100000 by omega), hk4, zgM (b := 47) 47 rfl (show 47 + t < 192 by omega) (show 192 ≤ 100000 by decide), ixM (b := 47) 47 rfl (show 47 + t ≤ 100000 by omega), zl_eq]
    rfl
  · exact ⟨qT_g qt (fun j hj => up_ne (by omega)), qR_g qr (fun j hj => up_ne (by omega)), qC_g qc (fun j hj hj2 => up_ne (by omega)), qD_g (N := N) qd (fun j hj hj2 => up_ne (by omega)), qW_g (N := N) s2.1 qw (fun j hj hj2 => up_ne (by omega)), qL_u ht ql hk2 rfl, qO_g (N := N) qo (fun j hj hj2 => up_ne (by omega)), qG_g (N := N) qg (fun j hj hj2 => up_ne (by omega))⟩
  · by_cases htt : t' = t
    · subst htt
      exact Or.inr ⟨up_at, up_at⟩
    · refine Or.inl ⟨up_ne htt, up_ne htt, Or.inl (up_ne htt)⟩
theorem p_k2 {N : Nat → Nat} {σ τ : zS} {d : Nat} {x y : Int32} (hS : pSt N σ τ) (hA : qA N (pM 24 σ) (τ 1)) (hh : f_X8_holds (nI d) τ = some (1, τ)) (hd40 : d < 40) (e6 : τ 6 d = x) (e7 : τ 7 d = y) (e5 : τ 5 d = 2) : ∃ (σ1 τ1 : zS), f_X7_carryOut 2 x y σ = some (0, σ1) ∧ f_X8_perform (nI d) τ = some (0, τ1) ∧ pRes N σ τ σ1 τ1 := by
  obtain ⟨⟨s0, s1, s2, s3, s4, s5, s6⟩, hDo, hDe, hLe, hEv, hTi, hDa, hPc⟩ := id hS
  obtain ⟨qt, qr, qc, qd, qw, ql, qo, qg⟩ := id hA
  rcases (p_there x (N 5) (by omega) σ τ).symm with ⟨t1, t2⟩ | ⟨t, ht, rfl, t1, t2⟩
  · refine ⟨σ, τ, ?_, ?_, pRes_rf hA⟩
    · unfold f_X7_carryOut
      rw [if_neg (by decide), if_neg (by decide), if_pos rfl]
      unfold f_X7_stopTimer
      rw [s5.2.1, t1, zb_some, if_pos rfl, zb_some]
    · simp +decide only [f_X8_perform, hh, zb_some, if_neg n10, zg_n hd40 (show 40 ≤ 100000 by decide), ix_n (show d ≤ 100000 by omega), e5, e6, e7, if_false, if_true, s5.2.2, t2]
  have h12 : t < 12 := by have := s5.1; omega
  refine ⟨zs σ 31 t 0, zs τ 1 (47 + t) 0, ?_, ?_, ?_, fC_s (by omega), fM_1 (by omega), Or.inl ⟨rfl, rfl⟩, fun t' _ => ?_⟩
  · unfold f_X7_carryOut
    rw [if_neg (by decide), if_neg (by decide), if_pos rfl]
    unfold f_X7_stopTimer
    rw [s5.2.1, t1, zb_some, if_neg n10]
    simp only [zg_n h12 (show 12 ≤ 100000 by decide), ix_n (show t ≤ 100000 by omega), zl_eq, zb_some]
  · simp +decide only [f_X8_perform, hh, zb_some, if_neg n10, zg_n hd40 (show 40 ≤ 100000 by decide), ix_n (show d ≤ 100000 by omega), e5, e6, e7, if_false, if_true, s5.2.2, t2, zgM (b := 47) 47 rfl (show 47 + t < 192 by omega) (show 192 ≤ 100000 by decide), ixM (b := 47) 47 rfl (show 47 + t ≤ 100000 by omega), zl_eq]
  · exact ⟨qT_g qt (fun j hj => up_ne (by omega)), qR_g qr (fun j hj => up_ne (by omega)), qC_g qc (fun j hj hj2 => up_ne (by omega)), qD_g (N := N) qd (fun j hj hj2 => up_ne (by omega)), qW_g (N := N) s2.1 qw (fun j hj hj2 => up_ne (by omega)), qL_u (k := 0) ht ql (by omega) rfl, qO_g (N := N) qo (fun j hj hj2 => up_ne (by omega)), qG_g (N := N) qg (fun j hj hj2 => up_ne (by omega))⟩
  · refine Or.inl ⟨rfl, rfl, ?_⟩
    by_cases htt : t' = t
    · subst htt
      exact Or.inr up_at
    · exact Or.inl (up_ne htt)
theorem p_k3 {N : Nat → Nat} {σ τ : zS} {d : Nat} {x y : Int32} (hS : pSt N σ τ) (hA : qA N (pM 24 σ) (τ 1)) (hh : f_X8_holds (nI d) τ = some (1, τ)) (hd40 : d < 40) (e6 : τ 6 d = x) (e7 : τ 7 d = y) (e5 : τ 5 d = 3) : ∃ (σ1 τ1 : zS), f_X7_carryOut 3 x y σ = some (0, σ1) ∧ f_X8_perform (nI d) τ = some (0, τ1) ∧ pRes N σ τ σ1 τ1 := by
  obtain ⟨⟨s0, s1, s2, s3, s4, s5, s6⟩, hDo, hDe, hLe, hEv, hTi, hDa, hPc⟩ := id hS
  obtain ⟨qt, qr, qc, qd, qw, ql, qo, qg⟩ := id hA
  rcases (p_there x (N 6) (by omega) σ τ).symm with ⟨t1, t2⟩ | ⟨t, ht, rfl, t1, t2⟩
  · refine ⟨σ, τ, ?_, ?_, pRes_rf hA⟩
    · unfold f_X7_carryOut
      rw [if_neg (by decide), if_neg (by decide), if_neg (by decide), if_pos rfl]
      unfold f_X7_switchDaemon
      rw [s6.2.1, t1, zb_some, if_pos rfl, zb_some]
    · simp +decide only [f_X8_perform, hh, zb_some, if_neg n10, zg_n hd40 (show 40 ≤ 100000 by decide), ix_n (show d ≤ 100000 by omega), e5, e6, e7, if_false, if_true, s6.2.2, t2]
  have h12 : t < 12 := by have := s6.1; omega
  refine ⟨zs σ 32 t 1, zs τ 1 (59 + t) 1, ?_, ?_, ?_, fC_s (by omega), fM_1 (by omega), Or.inl ⟨rfl, rfl⟩, fun t' _ => Or.inl ⟨rfl, rfl, Or.inl rfl⟩⟩
  · unfold f_X7_carryOut
    rw [if_neg (by decide), if_neg (by decide), if_neg (by decide), if_pos rfl]
    unfold f_X7_switchDaemon
    rw [s6.2.1, t1, zb_some, if_neg n10]
    simp only [zg_n h12 (show 12 ≤ 100000 by decide), ix_n (show t ≤ 100000 by omega), zl_eq, zb_some]
    rfl
  · simp +decide only [f_X8_perform, hh, zb_some, if_neg n10, zg_n hd40 (show 40 ≤ 100000 by decide), ix_n (show d ≤ 100000 by omega), e5, e6, e7, if_false, if_true, s6.2.2, t2, zgM (b := 59) 59 rfl (show 59 + t < 192 by omega) (show 192 ≤ 100000 by decide), ixM (b := 59) 59 rfl (show 59 + t ≤ 100000 by omega), zl_eq]
  · exact ⟨qT_g qt (fun j hj => up_ne (by omega)), qR_g qr (fun j hj => up_ne (by omega)), qC_g qc (fun j hj hj2 => up_ne (by omega)), qD_g (N := N) qd (fun j hj hj2 => up_ne (by omega)), qW_g (N := N) s2.1 qw (fun j hj hj2 => up_ne (by omega)), qL_g (N := N) ql (fun j hj hj2 => up_ne (by omega)), qO_u ht qo (by decide) rfl, qG_g (N := N) qg (fun j hj hj2 => up_ne (by omega))⟩
theorem p_k4 {N : Nat → Nat} {σ τ : zS} {d : Nat} {x y : Int32} (hS : pSt N σ τ) (hA : qA N (pM 24 σ) (τ 1)) (hh : f_X8_holds (nI d) τ = some (1, τ)) (hd40 : d < 40) (e6 : τ 6 d = x) (e7 : τ 7 d = y) (e5 : τ 5 d = 4) : ∃ (σ1 τ1 : zS), f_X7_carryOut 4 x y σ = some (0, σ1) ∧ f_X8_perform (nI d) τ = some (0, τ1) ∧ pRes N σ τ σ1 τ1 := by
  obtain ⟨⟨s0, s1, s2, s3, s4, s5, s6⟩, hDo, hDe, hLe, hEv, hTi, hDa, hPc⟩ := id hS
  obtain ⟨qt, qr, qc, qd, qw, ql, qo, qg⟩ := id hA
  rcases (p_there x (N 6) (by omega) σ τ).symm with ⟨t1, t2⟩ | ⟨t, ht, rfl, t1, t2⟩
  · refine ⟨σ, τ, ?_, ?_, pRes_rf hA⟩
    · unfold f_X7_carryOut
      rw [if_neg (by decide), if_neg (by decide), if_neg (by decide), if_neg (by decide), if_pos rfl]
      unfold f_X7_switchDaemon
      rw [s6.2.1, t1, zb_some, if_pos rfl, zb_some]
    · simp +decide only [f_X8_perform, hh, zb_some, if_neg n10, zg_n hd40 (show 40 ≤ 100000 by decide), ix_n (show d ≤ 100000 by omega), e5, e6, e7, if_false, if_true, s6.2.2, t2]
  have h12 : t < 12 := by have := s6.1; omega
  refine ⟨zs σ 32 t 0, zs τ 1 (59 + t) 0, ?_, ?_, ?_, fC_s (by omega), fM_1 (by omega), Or.inl ⟨rfl, rfl⟩, fun t' _ => Or.inl ⟨rfl, rfl, Or.inl rfl⟩⟩
  · unfold f_X7_carryOut
    rw [if_neg (by decide), if_neg (by decide), if_neg (by decide), if_neg (by decide), if_pos rfl]
    unfold f_X7_switchDaemon
    rw [s6.2.1, t1, zb_some, if_neg n10]
    simp only [zg_n h12 (show 12 ≤ 100000 by decide), ix_n (show t ≤ 100000 by omega), zl_eq, zb_some]
    rfl
  · simp +decide only [f_X8_perform, hh, zb_some, if_neg n10, zg_n hd40 (show 40 ≤ 100000 by decide), ix_n (show d ≤ 100000 by omega), e5, e6, e7, if_false, if_true, s6.2.2, t2, zgM (b := 59) 59 rfl (show 59 + t < 192 by omega) (show 192 ≤ 100000 by decide), ixM (b := 59) 59 rfl (show 59 + t ≤ 100000 by omega), zl_eq]
  · exact ⟨qT_g qt (fun j hj => up_ne (by omega)), qR_g qr (fun j hj => up_ne (by omega)), qC_g qc (fun j hj hj2 => up_ne (by omega)), qD_g (N := N) qd (fun j hj hj2 => up_ne (by omega)), qW_g (N := N) s2.1 qw (fun j hj hj2 => up_ne (by omega)), qL_g (N := N) ql (fun j hj hj2 => up_ne (by omega)), qO_u ht qo (by decide) rfl, qG_g (N := N) qg (fun j hj hj2 => up_ne (by omega))⟩
theorem p_k5 {N : Nat → Nat} {σ τ : zS} {d : Nat} {x y : Int32} (hS : pSt N σ τ) (hA : qA N (pM 24 σ) (τ 1)) (hh : f_X8_holds (nI d) τ = some (1, τ)) (hd40 : d < 40) (e6 : τ 6 d = x) (e7 : τ 7 d = y) (e5 : τ 5 d = 5) : ∃ (σ1 τ1 : zS), f_X7_carryOut 5 x y σ = some (0, σ1) ∧ f_X8_perform (nI d) τ = some (0, τ1) ∧ pRes N σ τ σ1 τ1 := by
  obtain ⟨⟨s0, s1, s2, s3, s4, s5, s6⟩, hDo, hDe, hLe, hEv, hTi, hDa, hPc⟩ := id hS
  obtain ⟨qt, qr, qc, qd, qw, ql, qo, qg⟩ := id hA
  rcases (p_there x (N 1) (by omega) σ τ).symm with ⟨t1, t2⟩ | ⟨t, ht, rfl, t1, t2⟩
  · refine ⟨σ, τ, ?_, ?_, pRes_rf hA⟩
    · unfold f_X7_carryOut
      rw [if_neg (by decide), if_neg (by decide), if_neg (by decide), if_neg (by decide), if_neg (by decide), if_pos rfl]
      unfold f_X7_turnDoor
      rw [s1.2.1, t1, zb_some, if_pos rfl, zb_some]
    · simp +decide only [f_X8_perform, hh, zb_some, if_neg n10, zg_n hd40 (show 40 ≤ 100000 by decide), ix_n (show d ≤ 100000 by omega), e5, e6, e7, if_false, if_true, s1.2.2, t2]
  have h15 : t < 15 := by have := s1.1; omega
  rcases (qd t h15).1 ht with ⟨d1, d2⟩ | ⟨d1, d2⟩
  · have d1 : σ 28 t = 0 := d1
    refine ⟨zs σ 28 t 1, zs τ 1 (12 + t) 0, ?_, ?_, ?_, fC_s (by omega), fM_1 (by omega), Or.inl ⟨rfl, rfl⟩, fun t' _ => Or.inl ⟨rfl, rfl, Or.inl rfl⟩⟩
    · unfold f_X7_carryOut
      rw [if_neg (by decide), if_neg (by decide), if_neg (by decide), if_neg (by decide), if_neg (by decide), if_pos rfl]
      unfold f_X7_turnDoor
      rw [s1.2.1, t1, zb_some, if_neg n10]
      simp only [zg_n h15 (show 15 ≤ 100000 by decide), ix_n (show t ≤ 100000 by omega), if_pos d1, zl_eq, zb_some]
      rfl
    · simp +decide only [f_X8_perform, hh, zb_some, if_neg n10, zg_n hd40 (show 40 ≤ 100000 by decide), ix_n (show d ≤ 100000 by omega), e5, e6, e7, if_false, if_true, s1.2.2, t2, zgM (b := 12) 12 rfl (show 12 + t < 192 by omega) (show 192 ≤ 100000 by decide), ixM (b := 12) 12 rfl (show 12 + t ≤ 100000 by omega), d2, zl_eq]
      rfl
    · exact ⟨qT_g qt (fun j hj => up_ne (by omega)), qR_g qr (fun j hj => up_ne (by omega)), qC_g qc (fun j hj hj2 => up_ne (by omega)), qD_u ht qd (Or.inr ⟨rfl, rfl⟩) rfl, qW_g (N := N) s2.1 qw (fun j hj hj2 => up_ne (by omega)), qL_g (N := N) ql (fun j hj hj2 => up_ne (by omega)), qO_g (N := N) qo (fun j hj hj2 => up_ne (by omega)), qG_g (N := N) qg (fun j hj hj2 => up_ne (by omega))⟩
  · have d1 : σ 28 t = 1 := d1
    refine ⟨zs σ 28 t 0, zs τ 1 (12 + t) 1, ?_, ?_, ?_, fC_s (by omega), fM_1 (by omega), Or.inl ⟨rfl, rfl⟩, fun t' _ => Or.inl ⟨rfl, rfl, Or.inl rfl⟩⟩
    · unfold f_X7_carryOut
      rw [if_neg (by decide), if_neg (by decide), if_neg (by decide), if_neg (by decide), if_neg (by decide), if_pos rfl]
      unfold f_X7_turnDoor
      rw [s1.2.1, t1, zb_some, if_neg n10]
      simp only [zg_n h15 (show 15 ≤ 100000 by decide), ix_n (show t ≤ 100000 by omega), d1, if_neg n10, zl_eq, zb_some]
      rfl
    · simp +decide only [f_X8_perform, hh, zb_some, if_neg n10, zg_n hd40 (show 40 ≤ 100000 by decide), ix_n (show d ≤ 100000 by omega), e5, e6, e7, if_false, if_true, s1.2.2, t2, zgM (b := 12) 12 rfl (show 12 + t < 192 by omega) (show 192 ≤ 100000 by decide), ixM (b := 12) 12 rfl (show 12 + t ≤ 100000 by omega), d2, zl_eq]
      rfl
    · exact ⟨qT_g qt (fun j hj => up_ne (by omega)), qR_g qr (fun j hj => up_ne (by omega)), qC_g qc (fun j hj hj2 => up_ne (by omega)), qD_u ht qd (Or.inl ⟨rfl, rfl⟩) rfl, qW_g (N := N) s2.1 qw (fun j hj hj2 => up_ne (by omega)), qL_g (N := N) ql (fun j hj hj2 => up_ne (by omega)), qO_g (N := N) qo (fun j hj hj2 => up_ne (by omega)), qG_g (N := N) qg (fun j hj hj2 => up_ne (by omega))⟩
theorem p_k6 {N : Nat → Nat} {σ τ : zS} {d : Nat} {x y : Int32} (hS : pSt N σ τ) (hA : qA N (pM 24 σ) (τ 1)) (hh : f_X8_holds (nI d) τ = some (1, τ)) (hd40 : d < 40) (e6 : τ 6 d = x) (e7 : τ 7 d = y) (e5 : τ 5 d = 6) : ∃ (σ1 τ1 : zS), f_X7_carryOut 6 x y σ = some (0, σ1) ∧ f_X8_perform (nI d) τ = some (0, τ1) ∧ pRes N σ τ σ1 τ1 := by
  obtain ⟨⟨s0, s1, s2, s3, s4, s5, s6⟩, hDo, hDe, hLe, hEv, hTi, hDa, hPc⟩ := id hS
  obtain ⟨qt, qr, qc, qd, qw, ql, qo, qg⟩ := id hA
  rcases (p_there x (N 2) (by omega) σ τ).symm with ⟨t1, t2⟩ | ⟨w, hw, rfl, t1, t2⟩
  · refine ⟨σ, τ, ?_, ?_, pRes_rf hA⟩
    · unfold f_X7_carryOut
      rw [if_neg (by decide), if_neg (by decide), if_neg (by decide), if_neg (by decide), if_neg (by decide), if_neg (by decide), if_pos rfl]
      unfold f_X7_giveGoal
      rw [s2.2.1, t1, zb_some, if_pos rfl, zb_some]
    · simp +decide only [f_X8_perform, hh, zb_some, if_neg n10, zg_n hd40 (show 40 ≤ 100000 by decide), ix_n (show d ≤ 100000 by omega), e5, e6, e7, if_false, if_true, s2.2.2, t2]
  rcases (p_there y (N 0) (by omega) σ τ).symm with ⟨t3, t4⟩ | ⟨b, hb, rfl, t3, t4⟩
  · refine ⟨σ, τ, ?_, ?_, pRes_rf hA⟩
    · unfold f_X7_carryOut
      rw [if_neg (by decide), if_neg (by decide), if_neg (by decide), if_neg (by decide), if_neg (by decide), if_neg (by decide), if_pos rfl]
      unfold f_X7_giveGoal
      rw [s2.2.1, t1, zb_some, if_neg n10, s0.2.1, t3, zb_some, if_pos rfl, zb_some]
    · simp +decide only [f_X8_perform, hh, zb_some, if_neg n10, zg_n hd40 (show 40 ≤ 100000 by decide), ix_n (show d ≤ 100000 by omega), e5, e6, e7, if_false, if_true, s2.2.2, t2, s0.2.2, t4]
  have h4 : w < 4 := by have := s2.1; omega
  obtain ⟨⟨a, ha, h1, h2⟩, -⟩ := qw w hw
  have h1 : σ 29 w = nI a := h1
  by_cases hab : nI a = nI b
  · refine ⟨zs σ 30 w (-1), zs τ 1 (31 + w) (-1), ?_, ?_, ?_, fC_s (by omega), fM_1 (by omega), Or.inl ⟨rfl, rfl⟩, fun t' _ => Or.inl ⟨rfl, rfl, Or.inl rfl⟩⟩
    · unfold f_X7_carryOut
      rw [if_neg (by decide), if_neg (by decide), if_neg (by decide), if_neg (by decide), if_neg (by decide), if_neg (by decide), if_pos rfl]
      unfold f_X7_giveGoal
      rw [s2.2.1, t1, zb_some, if_neg n10, s0.2.1, t3, zb_some, if_neg n10]
      simp only [zg_n h4 (show 4 ≤ 100000 by decide), ix_n (show w ≤ 100000 by omega), h1, if_pos hab, zl_eq, zb_some]
    · simp +decide only [f_X8_perform, hh, zb_some, if_neg n10, zg_n hd40 (show 40 ≤ 100000 by decide), ix_n (show d ≤ 100000 by omega), e5, e6, e7, if_false, if_true, s2.2.2, t2, s0.2.2, t4, zgM (b := 27) 27 rfl (show 27 + w < 192 by omega) (show 192 ≤ 100000 by decide), ixM (b := 27) 27 rfl (show 27 + w ≤ 100000 by omega), h2, if_pos hab, zgM (b := 31) 31 rfl (show 31 + w < 192 by omega) (show 192 ≤ 100000 by decide), ixM (b := 31) 31 rfl (show 31 + w ≤ 100000 by omega), zl_eq]
    · exact ⟨qT_g qt (fun j hj => up_ne (by omega)), qR_g qr (fun j hj => up_ne (by omega)), qC_g qc (fun j hj hj2 => up_ne (by omega)), qD_g (N := N) qd (fun j hj hj2 => up_ne (by omega)), qW_u s2.1 qw (Or.inl rfl) rfl rfl hw, qL_g (N := N) ql (fun j hj hj2 => up_ne (by omega)), qO_g (N := N) qo (fun j hj hj2 => up_ne (by omega)), qG_g (N := N) qg (fun j hj hj2 => up_ne (by omega))⟩
  · refine ⟨zs σ 30 w (nI b), zs τ 1 (31 + w) (nI b), ?_, ?_, ?_, fC_s (by omega), fM_1 (by omega), Or.inl ⟨rfl, rfl⟩, fun t' _ => Or.inl ⟨rfl, rfl, Or.inl rfl⟩⟩
    · unfold f_X7_carryOut
      rw [if_neg (by decide), if_neg (by decide), if_neg (by decide), if_neg (by decide), if_neg (by decide), if_neg (by decide), if_pos rfl]
      unfold f_X7_giveGoal
      rw [s2.2.1, t1, zb_some, if_neg n10, s0.2.1, t3, zb_some, if_neg n10]
      simp only [zg_n h4 (show 4 ≤ 100000 by decide), ix_n (show w ≤ 100000 by omega), h1, if_neg hab, zl_eq, zb_some]
    · simp +decide only [f_X8_perform, hh, zb_some, if_neg n10, zg_n hd40 (show 40 ≤ 100000 by decide), ix_n (show d ≤ 100000 by omega), e5, e6, e7, if_false, if_true, s2.2.2, t2, s0.2.2, t4, zgM (b := 27) 27 rfl (show 27 + w < 192 by omega) (show 192 ≤ 100000 by decide), ixM (b := 27) 27 rfl (show 27 + w ≤ 100000 by omega), h2, if_neg hab, zgM (b := 31) 31 rfl (show 31 + w < 192 by omega) (show 192 ≤ 100000 by decide), ixM (b := 31) 31 rfl (show 31 + w ≤ 100000 by omega), zl_eq]
    · exact ⟨qT_g qt (fun j hj => up_ne (by omega)), qR_g qr (fun j hj => up_ne (by omega)), qC_g qc (fun j hj hj2 => up_ne (by omega)), qD_g (N := N) qd (fun j hj hj2 => up_ne (by omega)), qW_u s2.1 qw (Or.inr ⟨b, hb, rfl⟩) rfl rfl hw, qL_g (N := N) ql (fun j hj hj2 => up_ne (by omega)), qO_g (N := N) qo (fun j hj hj2 => up_ne (by omega)), qG_g (N := N) qg (fun j hj hj2 => up_ne (by omega))⟩
theorem p_k7 {N : Nat → Nat} {σ τ : zS} {d : Nat} {x y : Int32} (hS : pSt N σ τ) (hA : qA N (pM 24 σ) (τ 1)) (hh : f_X8_holds (nI d) τ = some (1, τ)) (hd40 : d < 40) (e6 : τ 6 d = x) (e7 : τ 7 d = y) (e5 : τ 5 d = 7) (hb : τ 0 26 = 0 ∨ τ 0 26 = 1) : ∃ (σ1 τ1 : zS), f_X7_carryOut 7 x y σ = some (0, σ1) ∧ f_X8_perform (nI d) τ = some (0, τ1) ∧ pRes N σ τ σ1 τ1 := by
  obtain ⟨⟨s0, s1, s2, s3, s4, s5, s6⟩, hDo, hDe, hLe, hEv, hTi, hDa, hPc⟩ := id hS
  obtain ⟨qt, qr, qc, qd, qw, ql, qo, qg⟩ := id hA
  refine ⟨zs σ 0 8 1, zs τ 0 27 (τ 0 26), ?_, ?_, hA, fC_s (by omega), fM_27, Or.inr ⟨rfl, rfl⟩, fun t' _ => Or.inl ⟨rfl, rfl, Or.inl rfl⟩⟩
  · unfold f_X7_carryOut
    rw [if_neg (by decide), if_neg (by decide), if_neg (by decide), if_neg (by decide), if_neg (by decide), if_neg (by decide), if_neg (by decide), if_pos rfl, zl_eq]
  · simp +decide only [f_X8_perform, hh, zb_some, if_neg n10, zg_n hd40 (show 40 ≤ 100000 by decide), ix_n (show d ≤ 100000 by omega), e5, e6, e7, if_false, if_true, zg_t hb, zl_eq]
theorem p_k8 {N : Nat → Nat} {σ τ : zS} {d : Nat} {x y : Int32} (hS : pSt N σ τ) (hA : qA N (pM 24 σ) (τ 1)) (hh : f_X8_holds (nI d) τ = some (1, τ)) (hd40 : d < 40) (e6 : τ 6 d = x) (e7 : τ 7 d = y) (e5 : τ 5 d = 8) (hy1 : 1 ≤ y.toInt) (hy2 : y.toInt ≤ 600) : ∃ (σ1 τ1 : zS), f_X7_carryOut 8 x y σ = some (0, σ1) ∧ f_X8_perform (nI d) τ = some (0, τ1) ∧ pRes N σ τ σ1 τ1 := by
  obtain ⟨⟨s0, s1, s2, s3, s4, s5, s6⟩, hDo, hDe, hLe, hEv, hTi, hDa, hPc⟩ := id hS
  obtain ⟨qt, qr, qc, qd, qw, ql, qo, qg⟩ := id hA
  obtain ⟨q, hq, rfl⟩ := n_range (x := y) (M := 600) (n := 600) (by decide) (by
    rw [Int32.lt_iff_toInt_lt]
    have z0 : (0 : Int32).toInt = 0 := by decide
    omega) (by
    rw [Int32.lt_iff_toInt_lt]
    have z0 : (600 : Int32).toInt = 600 := by decide
    omega)
  obtain ⟨⟨t, ht, a0, b0⟩, a1, a2, sk, hsk, a4, b4⟩ := id qt
  have a4' : σ 24 4 = nI sk := a4
  have e33 : ((3 : Int32).toNatClampNeg) = 3 := by decide
  have hz3 : z_in (3 : Int32) 192 := by decide
  have key : ∃ k, k ≤ 600 ∧ (if (600 : Int32) < nI sk + nI q then 600 else nI sk + nI q : Int32) = nI k ∧ (if (0 : Int32) ≤ nI sk + nI q then (if nI sk + nI q ≤ 600 then nI sk + nI q else 600) else 0 : Int32) = nI k := by
    rw [nI_add]
    by_cases h : sk + q ≤ 600
    · refine ⟨sk + q, h, ?_, ?_⟩
      · rw [if_neg (show ¬ 600 < nI (sk + q) from nI_nlt (a := 600) (b := sk + q) h (by decide))]
      · rw [if_pos (nI_pos' (by omega)), if_pos (show nI (sk + q) ≤ 600 from nI_le (b := 600) h (by decide))]
    · refine ⟨600, by omega, ?_, ?_⟩
      · rw [if_pos (show 600 < nI (sk + q) from nI_lt (a := 600) (by omega) (by omega))]
        rfl
      · rw [if_pos (nI_pos' (by omega)), if_neg (show ¬ nI (sk + q) ≤ 600 from nI_ge (a := 600) (b := sk + q) (by omega) (by omega))]
        rfl
  obtain ⟨k, hk, k1, k2⟩ := key
  refine ⟨zs σ 24 4 (nI k), zs τ 1 3 (nI k), ?_, ?_, ?_, ⟨fun j h0 h1 _ _ _ _ _ _ => zs_ne h1, fun j hj => by rw [zs_at]; exact up_ne hj⟩, fM_1 (by omega), Or.inl ⟨rfl, rfl⟩, fun t' _ => Or.inl ⟨rfl, rfl, Or.inl rfl⟩⟩
  · unfold f_X7_carryOut
    rw [if_neg (by decide), if_neg (by decide), if_neg (by decide), if_neg (by decide), if_neg (by decide), if_neg (by decide), if_neg (by decide), if_neg (by decide), if_pos rfl, zl_eq, a4', k1]
  · simp +decide only [f_X8_perform, hh, zb_some, if_neg n10, zg_n hd40 (show 40 ≤ 100000 by decide), ix_n (show d ≤ 100000 by omega), e5, e6, e7, if_false, if_true, zg_T, zg_t hz3, e33, p_bound, b4, k2, zl_eq]
  · exact ⟨⟨⟨t, ht, a0, b0⟩, a1, a2, k, hk, rfl, rfl⟩, qR_g qr (fun j hj => up_ne (by omega)), qC_g qc (fun j hj hj2 => up_ne (by omega)), qD_g (N := N) qd (fun j hj hj2 => up_ne (by omega)), qW_g (N := N) s2.1 qw (fun j hj hj2 => up_ne (by omega)), qL_g (N := N) ql (fun j hj hj2 => up_ne (by omega)), qO_g (N := N) qo (fun j hj hj2 => up_ne (by omega)), qG_g (N := N) qg (fun j hj hj2 => up_ne (by omega))⟩
/-- a deed is done: both sides alike -/
theorem p_deed {N : Nat → Nat} {σ τ : zS} {d : Nat} (hS : pSt N σ τ) (hA : qA N (pM 24 σ) (τ 1)) (hd : d < N 3) (hb : τ 0 26 = 0 ∨ τ 0 26 = 1) : ∃ (r : Int32) (σ1 τ1 : zS), f_X7_doDeed (nI d) σ = some (r, σ1) ∧ f_X8_holds (nI d) τ = some (r, τ) ∧ f_X8_perform (nI d) τ = some (0, τ1) ∧ (r = 0 ∨ r = 1) ∧ pRes N σ τ σ1 τ1 := by
  obtain ⟨⟨s0, s1, s2, s3, s4, s5, s6⟩, hDo, hDe, hLe, hEv, hTi, hDa, hPc⟩ := id hS
  obtain ⟨qt, qr, qc, qd, qw, ql, qo, qg⟩ := id hA
  have hd40 : d < 40 := by have := s3.1; omega
  obtain ⟨g5, g6, g7, g8, ⟨k, hk, hk1, hk0, hk8⟩, hcond⟩ := hDe d hd
  have g9 := hLe d hd40
  have hix : (nI d).toNatClampNeg = d := ix_n (by omega)
  -- the part behind the condition
  have key : f_X8_holds (nI d) τ = some (1, τ) → ∃ (σ1 τ1 : zS), f_X7_carryOut (σ 6 d) (σ 7 d) (σ 8 d) σ = some (0, σ1) ∧ f_X8_perform (nI d) τ = some (0, τ1) ∧ pRes N σ τ σ1 τ1 := by
    intro hh
    have e5 : τ 5 d = nI k := g5.symm.trans hk1
    rw [hk1]
    have h9 : k = 0 ∨ k = 1 ∨ k = 2 ∨ k = 3 ∨ k = 4 ∨ k = 5 ∨ k = 6 ∨ k = 7 ∨ k = 8 := by omega
    rcases h9 with rfl | rfl | rfl | rfl | rfl | rfl | rfl | rfl | rfl
    · obtain ⟨⟨c, hc, hx⟩, -⟩ := hk0 rfl
      exact p_k0 hS hA hh hd40 g6.symm g7.symm e5 hc hx
    · exact p_k1 hS hA hh hd40 g6.symm g7.symm e5
    · exact p_k2 hS hA hh hd40 g6.symm g7.symm e5
    · exact p_k3 hS hA hh hd40 g6.symm g7.symm e5
    · exact p_k4 hS hA hh hd40 g6.symm g7.symm e5
    · exact p_k5 hS hA hh hd40 g6.symm g7.symm e5
    · exact p_k6 hS hA hh hd40 g6.symm g7.symm e5
    · exact p_k7 hS hA hh hd40 g6.symm g7.symm e5 hb
    · exact p_k8 hS hA hh hd40 g6.symm g7.symm e5 (hk8 rfl).1 (hk8 rfl).2
  have fin : f_X8_holds (nI d) τ = some (1, τ) → ∀ v, ∃ (σ1 τ1 : zS), j_X7_doDeed_J38 (nI d) v σ = some (1, σ1) ∧ f_X8_perform (nI d) τ = some (0, τ1) ∧ pRes N σ τ σ1 τ1 := by
    intro hh v
    obtain ⟨σ1, τ1, h1, h2, h3⟩ := key hh
    refine ⟨σ1, τ1, ?_, h2, h3⟩
    unfold j_X7_doDeed_J38
    simp only [zg_n hd40 (show 40 ≤ 100000 by decide), hix, h1, zb_some]
  unfold f_X7_doDeed
  simp only [zg_n hd40 (show 40 ≤ 100000 by decide), hix]
  rcases hcond with hc | ⟨c, hc, hc2⟩
  · have hh : f_X8_holds (nI d) τ = some (1, τ) := by
      unfold f_X8_holds
      have hc8 : τ 8 d = -1 := g8.symm.trans hc
      simp only [zg_n hd40 (show 40 ≤ 100000 by decide), hix, hc8, if_true]
    obtain ⟨σ1, τ1, h1, h2, h3⟩ := fin hh (σ 9 d)
    exact ⟨1, σ1, τ1, by rw [if_pos hc]; exact h1, hh, h2, Or.inr rfl, h3⟩
  · have hn : ¬ σ 9 d = -1 := by rw [hc2]; exact n_neg1 (by omega)
    have hq : σ 27 c = τ 1 (4 + c) := (qc c hc).1
    have hn2 : ¬ nI c = -1 := n_neg1 (by omega)
    simp only [hc2, if_neg hn2, zg_n hc (show 8 ≤ 100000 by decide), ix_n (show c ≤ 100000 by omega)]
    have hv : f_X8_holds (nI d) τ = if τ 1 (4 + c) < τ 9 d then some (0, τ) else some (1, τ) := by
      unfold f_X8_holds
      have hc8 : τ 8 d = nI c := g8.symm.trans hc2
      simp only [hix, hc8, if_neg hn2, zg_n hd40 (show 40 ≤ 100000 by decide), zgM (b := 4) 4 rfl (show 4 + c < 192 by omega) (show 192 ≤ 100000 by decide), ixM (b := 4) 4 rfl (show 4 + c ≤ 100000 by omega)]
    by_cases hle : σ 10 d ≤ σ 27 c
    · have hnl : ¬ τ 1 (4 + c) < τ 9 d := by rw [← hq, ← g9]; exact Int32.not_lt.mpr hle
      rw [if_neg hnl] at hv
      obtain ⟨σ1, τ1, h1, h2, h3⟩ := fin hv (nI c)
      exact ⟨1, σ1, τ1, by rw [if_pos hle]; exact h1, hv, h2, Or.inr rfl, h3⟩
    · have hnl : τ 1 (4 + c) < τ 9 d := by rw [← hq, ← g9]; exact Int32.not_le.mp hle
      rw [if_pos hnl] at hv
      refine ⟨0, σ, τ, by rw [if_neg hle], hv, ?_, Or.inl rfl, pRes_rf hA⟩
      unfold f_X8_perform
      rw [hv, zb_some, if_pos rfl]
