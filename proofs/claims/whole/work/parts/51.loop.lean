set_option maxRecDepth 100000 in
set_option maxHeartbeats 4000000 in
theorem law_loop {Γ : zG} {aC aM : Nat → Nat} {b L : Nat} {xs : Nat → Int32} {R : zS → zS → Prop} (hC : lX Γ aC aM b L xs) (hL : L ≤ 2048) (hA : SmAll R) :
    ∀ (n i : Nat) (σ τ : zS), i ≤ L → L + 1 ≤ i + n → R σ τ → lK Γ aC aM 18 [some (.ref b), some (.ref (aC 0)), some (.ref (aM 0)), some (.int (nI i))] [] σ τ := by
  obtain ⟨s_0, s_room, s_door, s_walker, s_deed, s_condition, s_event, s_timer, s_daemon, s_act, s_pace, s_turn, s_back, s_told, s_count, s_counter, s_left, s_is, s_walks, s_way, s_row, s_minutes⟩ := hA
  intro n
  induction n with
  | zero => intro i σ τ h1 h2; exact absurd h2 (by omega)
  | succ n ih =>
    intro i σ τ hi hin hR
    refine l_iload_n hC dL_law_18 rfl ?_
    refine l_aload_n hC dL_law_19 rfl ?_
    refine l_slen hC dL_law_20 ?_
    refine l_iconst hC dL_law_21 ki_4 ?_
    refine l_isub hC dL_law_22 ?_
    refine l_icmp_gt hC 763 dL_law_23 (by decide) (fun h => l_end hC dL_law_763 dL_law_764) (fun h => ?_)
    have hi4 := l_cond hL hi h
    have hnext : ∀ σ1 τ1, R σ1 τ1 → lK Γ aC aM 757 [some (.ref b), some (.ref (aC 0)), some (.ref (aM 0)), some (.int (nI i))] [] σ1 τ1 := by
      intro σ1 τ1 hR1
      refine l_iinc hC dL_law_757 (lv' := [some (.ref b), some (.ref (aC 0)), some (.ref (aM 0)), some (.int (nI i + 4))]) rfl (by decide) ki_4 rfl ?_
      refine l_goto hC 18 dL_law_760 (by decide) ?_
      have := ih (i + 4) σ1 τ1 hi4 (by omega) hR1
      rw [← nI_add] at this
      exact this
    refine l_aload_n hC dL_law_26 rfl ?_
    refine l_iload_n hC dL_law_27 rfl ?_
    refine l_sld hC (vp_in_nI (by omega) (by omega)) dL_law_28 ?_
    refine l_bipush hC dL_law_29 kb_31 ?_
    refine l_iand hC dL_law_31 ?_
    generalize xs (nI i).toNatClampNeg &&& 31 = v
    by_cases g0 : v = 0
    · exact l_tabIn hC 132 dL_law_32 0 g0 (by decide) (by decide) rfl (by decide) (l_case_room hC hL hi4 hR s_room hnext)
    by_cases g1 : v = 1
    · exact l_tabIn hC 145 dL_law_32 1 g1 (by decide) (by decide) rfl (by decide) (l_case_door hC hL hi4 hR (s_door _ _) hnext)
    by_cases g2 : v = 2
    · exact l_tabIn hC 178 dL_law_32 2 g2 (by decide) (by decide) rfl (by decide) (l_case_walker hC hL hi4 hR (s_walker _) hnext)
    by_cases g3 : v = 3
    · exact l_tabIn hC 201 dL_law_32 3 g3 (by decide) (by decide) rfl (by decide) (l_case_deed hC hL hi4 hR (s_deed _ _ _) hnext)
    by_cases g4 : v = 4
    · exact l_tabIn hC 244 dL_law_32 4 g4 (by decide) (by decide) rfl (by decide) (l_case_condition hC hL hi4 hR (s_condition _ _ _) hnext)
    by_cases g5 : v = 5
    · exact l_tabIn hC 287 dL_law_32 5 g5 (by decide) (by decide) rfl (by decide) (l_case_event hC hL hi4 hR (s_event _ _ _ (by split; exact Or.inl rfl; exact Or.inr rfl)) hnext)
    by_cases g6 : v = 6
    · exact l_tabIn hC 346 dL_law_32 6 g6 (by decide) (by decide) rfl (by decide) (l_case_timer hC hL hi4 hR (s_timer _ _ _ (by split; exact Or.inl rfl; exact Or.inr rfl)) hnext)
    by_cases g7 : v = 7
    · exact l_tabIn hC 405 dL_law_32 7 g7 (by decide) (by decide) rfl (by decide) (l_case_daemon hC hL hi4 hR (s_daemon _ _) hnext)
    by_cases g8 : v = 8
    · exact l_tabIn hC 438 dL_law_32 8 g8 (by decide) (by decide) rfl (by decide) (l_case_act hC hL hi4 hR (s_act _) hnext)
    by_cases g9 : v = 9
    · exact l_tabIn hC 461 dL_law_32 9 g9 (by decide) (by decide) rfl (by decide) (l_case_pace hC hL hi4 hR (s_pace _) hnext)
    by_cases g10 : v = 10
    · exact l_tabIn hC 484 dL_law_32 10 g10 (by decide) (by decide) rfl (by decide) (l_case_turn hC hL hi4 hR s_turn hnext)
    by_cases g11 : v = 11
    · exact l_tabIn hC 497 dL_law_32 11 g11 (by decide) (by decide) rfl (by decide) (l_case_back hC hL hi4 hR s_back hnext)
    by_cases g12 : v = 12
    · exact l_tabIn hC 510 dL_law_32 12 g12 (by decide) (by decide) rfl (by decide) (l_case_told hC hL hi4 hR (s_told _) hnext)
    by_cases g13 : v = 13
    · exact l_tabIn hC 533 dL_law_32 13 g13 (by decide) (by decide) rfl (by decide) (l_case_count hC hL hi4 hR (s_count _) hnext)
    by_cases g14 : v = 14
    · exact l_tabIn hC 556 dL_law_32 14 g14 (by decide) (by decide) rfl (by decide) (l_case_counter hC hL hi4 hR (s_counter _) hnext)
    by_cases g15 : v = 15
    · exact l_tabIn hC 579 dL_law_32 15 g15 (by decide) (by decide) rfl (by decide) (l_case_left hC hL hi4 hR (s_left _) hnext)
    by_cases g16 : v = 16
    · exact l_tabIn hC 602 dL_law_32 16 g16 (by decide) (by decide) rfl (by decide) (l_case_is hC hL hi4 hR (s_is _ _) hnext)
    by_cases g17 : v = 17
    · exact l_tabIn hC 635 dL_law_32 17 g17 (by decide) (by decide) rfl (by decide) (l_case_walks hC hL hi4 hR (s_walks _ _) hnext)
    by_cases g18 : v = 18
    · exact l_tabIn hC 668 dL_law_32 18 g18 (by decide) (by decide) rfl (by decide) (l_case_way hC hL hi4 hR (s_way _ _) hnext)
    by_cases g19 : v = 19
    · exact l_tabIn hC 701 dL_law_32 19 g19 (by decide) (by decide) rfl (by decide) (l_case_row hC hL hi4 hR (s_row _ _) hnext)
    by_cases g20 : v = 20
    · exact l_tabIn hC 734 dL_law_32 20 g20 (by decide) (by decide) rfl (by decide) (l_case_minutes hC hL hi4 hR (s_minutes _) hnext)
    refine l_tabOut hC 757 dL_law_32 (by have := And.intro (lv_neT g0 (a := 0) (by decide)) (And.intro (lv_neT g1 (a := 1) (by decide)) (And.intro (lv_neT g2 (a := 2) (by decide)) (And.intro (lv_neT g3 (a := 3) (by decide)) (And.intro (lv_neT g4 (a := 4) (by decide)) (And.intro (lv_neT g5 (a := 5) (by decide)) (And.intro (lv_neT g6 (a := 6) (by decide)) (And.intro (lv_neT g7 (a := 7) (by decide)) (And.intro (lv_neT g8 (a := 8) (by decide)) (And.intro (lv_neT g9 (a := 9) (by decide)) (And.intro (lv_neT g10 (a := 10) (by decide)) (And.intro (lv_neT g11 (a := 11) (by decide)) (And.intro (lv_neT g12 (a := 12) (by decide)) (And.intro (lv_neT g13 (a := 13) (by decide)) (And.intro (lv_neT g14 (a := 14) (by decide)) (And.intro (lv_neT g15 (a := 15) (by decide)) (And.intro (lv_neT g16 (a := 16) (by decide)) (And.intro (lv_neT g17 (a := 17) (by decide)) (And.intro (lv_neT g18 (a := 18) (by decide)) (And.intro (lv_neT g19 (a := 19) (by decide)) (lv_neT g20 (a := 20) (by decide))))))))))))))))))))); omega) (by decide) (hnext σ τ hR)
