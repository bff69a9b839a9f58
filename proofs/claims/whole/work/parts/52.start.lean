theorem l_nest : ∀ q ∈ z_nest, Cond.methodLinkNest q.1 q.2.1 q.2.2.1 q.2.2.2 ∈ tables_1 := by decide +kernel
set_option maxRecDepth 100000 in
set_option maxHeartbeats 4000000 in
theorem whole_of {R0 : zS → zS → Prop} (hA : SmAll R0) {p : Program} {e : Env} {s : State} {m : MethodId} {below : List Frame} {meth : Method} {c : Code} (l : Launch) {b L : Nat} {xs : Nat → Int32} (hL : L ≤ 2048) (C0 : lw_At p s m meth c b L xs) : W p l e room_1 s m #[Value.ref b] below meth c s.heap [] 0 0 (lw_Z below #[Value.ref b] s) (entryFrame m ([Value.ref b] : List Value).toArray 4) := by
  obtain ⟨hx, hb, hr, hml, hown, hts, hX, hbl, hlocks, hgv⟩ := id C0
  have htz : ∀ w ∈ z_TB, w.before #[Value.ref b] s = true := fun w hw => hts w (z_TB_in hw)
  have hN : z_N s := fun q hq => va_Nw.of rfl (hts _ (List.mem_append_right _ (l_nest q hq)))
  have hAO : yAO s := va_AO.of (hts (.arrayOver (.object "TurnClock$Moment")) (List.mem_append_right _ (by decide +kernel)))
  obtain ⟨cI, kI, pI, fI1, fI2, fI3⟩ := Cond.arrayClass_spec (htz _ wi_aI)
  obtain ⟨cZ, kZ, pZ, fZ1, fZ2, fZ3⟩ := Cond.arrayClass_spec (htz _ wi_aZ)
  obtain ⟨c0, iS0, hKn0⟩ := u_known (C := RX0) (T := TX0) (N := 3) (n := 3) htz inz_X0 (htz _ wi_X0_k)
  obtain ⟨c1, iS1, hKn1⟩ := u_known (C := RX1) (T := TX1) (N := 6) (n := 6) htz inz_X1 (htz _ wi_X1_k)
  obtain ⟨c2, iS2, hKn2⟩ := u_known (C := RX2) (T := TX2) (N := 6) (n := 6) htz inz_X2 (htz _ wi_X2_k)
  obtain ⟨c3, iS3, hKn3⟩ := u_known (C := RX3) (T := TX3) (N := 6) (n := 6) htz inz_X3 (htz _ wi_X3_k)
  obtain ⟨c4, iS4, hKn4⟩ := u_known (C := RX4) (T := TX4) (N := 15) (n := 15) htz inz_X4 (htz _ wi_X4_k)
  obtain ⟨c5, iS5, hKn5⟩ := u_known (C := RX5) (T := TX5) (N := 2) (n := 2) htz inz_X5 (htz _ wi_X5_k)
  obtain ⟨c6, iS6, hKn6⟩ := u_known (C := RX6) (T := TX6) (N := 4) (n := 4) htz inz_X6 (htz _ wi_X6_k)
  obtain ⟨c7, iS7, hKn7⟩ := u_known (C := RX7) (T := TX7) (N := 9) (n := 9) htz inz_X7 (htz _ wi_X7_k)
  obtain ⟨c8, iS8, hKn8⟩ := u_known (C := RX8) (T := TX8) (N := 32) (n := 32) htz inz_X8 (htz _ wi_X8_k)
  obtain ⟨D, hKc⟩ : ∃ D : va_G, ∀ (k : Nat) (q : vw_C), vwCl[k]? = some q → u_Kn s q.1 q.2.1 q.2.2 (D.1 k) (D.2 k) := by
    refine ⟨(fun k => match k with | 0 => c0 | 1 => c1 | 2 => c2 | 3 => c3 | 4 => c4 | 5 => c5 | 6 => c6 | 7 => c7 | _ => c8, fun k => match k with | 0 => iS0 | 1 => iS1 | 2 => iS2 | 3 => iS3 | 4 => iS4 | 5 => iS5 | 6 => iS6 | 7 => iS7 | _ => iS8), ?_⟩
    intro k q hq
    match k, hq with
    | 0, hq => cases hq; exact hKn0
    | 1, hq => cases hq; exact hKn1
    | 2, hq => cases hq; exact hKn2
    | 3, hq => cases hq; exact hKn3
    | 4, hq => cases hq; exact hKn4
    | 5, hq => cases hq; exact hKn5
    | 6, hq => cases hq; exact hKn6
    | 7, hq => cases hq; exact hKn7
    | 8, hq => cases hq; exact hKn8
    | k + 9, hq => simp [vwCl] at hq
  obtain ⟨cM, hM1, hM2⟩ : ∃ cM : ClassId, ArrOfT s cM (.object "TurnClock$Moment") ∧ va_RA s cM (.object "TurnClock$Moment") := by
    obtain ⟨comp, cM, kM, h1, h2, h3, h4, h5⟩ := Cond.arrayOver_spec hAO
    exact ⟨cM, fun n z => ⟨fun k h => (by cases h), kM, h3, comp, h4⟩, kM, comp, h3, h4, h1, h5⟩
  obtain ⟨cA, hcA⟩ : ∃ cA : Nat → ClassId, va_K D vwCl (z_ty cA) s := by
    refine ⟨fun k => match k with | 0 => cI | 1 => cZ | _ => cM, hKc, fun k q hk => ?_⟩
    match k, hk with
    | 0, hk => cases hk; exact ⟨fun n z => ⟨fun k h => (by cases h), kI, fI2, pI, fI3⟩, fI1⟩
    | 1, hk => cases hk; exact ⟨fun n z => ⟨fun k h => (by cases h), kZ, fZ2, pZ, fZ3⟩, fZ1⟩
    | 2, hk => cases hk; exact ⟨hM1, hM2⟩
    | k + 3, hk => simp [z_ty] at hk
  have hY : yX (p, l, e, room_1, s, m, #[Value.ref b], below, meth, c, cA, D, ([] : va_W), s.heap.size) code RL 4 room_1 ret false := ⟨hx, hb, hml, hown, htz, hcA, hN, hAO, rfl, hr, hlocks, Nat.le_refl _, fun h => by cases h⟩
  generalize hΓ : (p, l, e, room_1, s, m, #[Value.ref b], below, meth, c, cA, D, ([] : va_W), s.heap.size) = Γ at hY
  have key : yK Γ 4 0 0 (lw_Z below #[Value.ref b] s) 0 [some (.ref b), none, none, none] [] ([] ++ []) := by
    refine y_new (ci := 7) (fs := [.null, .null, .null, .null, .null, .null, .null, .null, .int 0]) hY tyX7 tyX7_ok vcz_X7 inz_X7 wi_cl_L_7 wi_X7_k wi_X7_n dL_law_0 wi_X7_d (by decide) (fun q1 => ?_)
    refine y_dup hY dL_law_3 rfl ?_
    refine y_callI hY i_X7 wi_L_X7 wi_X7_i wi_X7_n wi_X7_c wi_X7_y dL_law_4 (Nat.le_of_ble_eq_true rfl) (by decide) (by decide) (fun aC haC => ?_)
    subst haC
    refine y_astore_n hY dL_law_7 (lv' := [some (.ref b), some (.ref (aC 0)), none, none]) (by decide) rfl ?_
    refine y_new (ci := 8) (fs := [.null, .null, .int 0, .int 0, .int 0, .int 0, .null, .null, .int 0, .int 0, .null, .null, .null, .null, .null, .int 0, .null, .null, .null, .int 0, .null, .null, .null, .int 0, .null, .null, .int 0, .int 0, .int 0, .null, .null, .null]) hY tyX8 tyX8_ok vcz_X8 inz_X8 wi_cl_L_10 wi_X8_k wi_X8_n dL_law_8 wi_X8_d (by decide) (fun q2 => ?_)
    refine y_dup hY dL_law_11 rfl ?_
    refine y_callI hY i_X8 wi_L_X8 wi_X8_i wi_X8_n wi_X8_c wi_X8_y dL_law_12 (Nat.le_of_ble_eq_true rfl) (by decide) (by decide) (fun aM haM => ?_)
    subst haM
    refine y_astore_n hY dL_law_15 (lv' := [some (.ref b), some (.ref (aC 0)), some (.ref (aM 0)), none]) (by decide) rfl ?_
    refine y_iconst hY dL_law_16 ki_0 ?_
    refine y_istore_n hY dL_law_17 (lv' := [some (.ref b), some (.ref (aC 0)), some (.ref (aM 0)), some (.int 0)]) (by decide) rfl ?_
    subst hΓ
    intro ls H locs hl hP hD hS
    have hP0 : va_P D vwCl (k_X7 cA aC ++ k_X8 cA aM) H := y_P_mem (fun q hq => by
      simp only [List.append_nil, List.nil_append]
      exact hq) hP
    have hD0 : va_D (fun q => s.heap.size ≤ q) (k_X7 cA aC ++ k_X8 cA aM) := y_D_perm (by
      simp only [List.append_nil, List.nil_append]
      exact List.Perm.refl _) hD
    obtain ⟨hP1, hD1⟩ := k_X7_start hP0 hD0
    obtain ⟨hP2, -⟩ := k_X8_start (y_P_perm List.perm_append_comm hP1) (y_D_perm List.perm_append_comm (hD1 s0_C))
    have hDD : ∀ σ τ, va_D (fun q => s.heap.size ≤ q) (z_wd layC nC aC cA σ ++ z_wd layM nM aM cA τ) := by
      intro σ τ
      refine y_D_fst ?_ (hD1 σ)
      rw [List.map_append, List.map_append, k_X8_wd, z_wd_fst, z_wd_fst]
      congr 1
    refine W.widen (k := 600000) (n := 7302250) (Nat.le_of_ble_eq_true rfl) (Nat.le_of_ble_eq_true rfl) ?_
    exact law_loop (Γ := (p, l, e, room_1, s, m, #[Value.ref b], below, meth, c, cA, D, ([] : va_W), s.heap.size)) (aC := aC) (aM := aM) (b := b) (L := L) (xs := xs) ⟨hx, hb, hml, hown, htz, hcA, hN, hDD, rfl, hr, hlocks, rfl, hX, hbl, rfl⟩ hL hA (L + 1) 0 s0_C s0_M (Nat.zero_le _) (by omega) hA.1 ls H locs hl (y_P_perm List.perm_append_comm hP2) hS
  rw [lg_entry_eq]
  subst hΓ
  refine key _ s.heap [] (z_h_entry (vs := [.ref b]) (mL := 4) (by intro w hw; simp only [List.mem_cons, List.not_mem_nil, or_false] at hw; subst hw; rfl) (Nat.le_of_ble_eq_true rfl)) (fun k q h => by simp at h) ⟨fun i j p q h => by simp at h, fun k q h => by simp at h⟩ va_S.rf
