set_option maxRecDepth 100000 in
set_option maxHeartbeats 4000000 in
theorem w_X8_door {Γ : zG} {ad : Nat → Nat} (hC : zX Γ layM nM ad cX8_door RX8 3 (zRm 2 43) (some .int)) (p1 : Int32) (p2 : Int32) (σ : zS) : zK Γ layM nM ad 3 (some .int) 0 [some (.ref (ad 0)), some (.int p1), some (.int p2)] [] σ (f_X8_door p1 p2 σ) some := by
  unfold f_X8_door
  refine z_iload_n hC dX8_door_0 rfl ?_
  refine z_aload_n hC dX8_door_1 rfl ?_
  refine z_geti hC wf_X8_82 dX8_door_2 ltM_0 layM_0 rfl ?_
  refine z_callSi hC [.int p1, .int (σ 0 4)] (c_X8_isOf p1 (σ 0 4)) yy_X8_isOf wl_X8_89 dX8_door_5 rfl rfl rfl (Nat.le_of_ble_eq_true rfl) (by decide) (fun r1 σ2 _ => ?_)
  refine z_if_eq hC 22 dX8_door_8 (by decide) (fun h3 => ?_) (fun h3 => ?_)
  · refine z_bipush hC dX8_door_22 kb_m2 ?_
    exact z_iret hC dX8_door_24
  · refine z_iload_n hC dX8_door_11 rfl ?_
    refine z_aload_n hC dX8_door_12 rfl ?_
    refine z_geti hC wf_X8_82 dX8_door_13 ltM_0 layM_0 rfl ?_
    refine z_callSi hC [.int p2, .int (σ2 0 4)] (c_X8_isOf p2 (σ2 0 4)) yy_X8_isOf wl_X8_89 dX8_door_16 rfl rfl rfl (Nat.le_of_ble_eq_true rfl) (by decide) (fun r4 σ5 _ => ?_)
    refine z_if_ne hC 25 dX8_door_19 (by decide) (fun h6 => ?_) (fun h6 => ?_)
    · refine z_iload_n hC dX8_door_25 rfl ?_
      refine z_iload_n hC dX8_door_26 rfl ?_
      refine z_icmp_ne hC 33 dX8_door_27 (by decide) (fun h7 => ?_) (fun h7 => ?_)
      · refine z_aload_n hC dX8_door_33 rfl ?_
        refine z_geti hC wf_X8_93 dX8_door_34 ltM_0 layM_0 rfl ?_
        refine z_bipush hC dX8_door_37 kb_15 ?_
        refine z_icmp_ne hC 45 dX8_door_39 (by decide) (fun h8 => ?_) (fun h8 => ?_)
        · refine z_aload_n hC dX8_door_45 rfl ?_
          refine z_getr hC wf_X8_20 dX8_door_46 ltM_0 layM_0 rfl ?_
          refine z_aload_n hC dX8_door_49 rfl ?_
          refine z_geti hC wf_X8_93 dX8_door_50 ltM_0 layM_0 rfl ?_
          refine z_iload_n hC dX8_door_53 rfl ?_
          refine z_iast hC dX8_door_54 ltM_3 layM_3 (fun h9 => ?_)
          refine z_let (fun σ10 _ => ?_)
          refine z_aload_n hC dX8_door_55 rfl ?_
          refine z_getr hC wf_X8_23 dX8_door_56 ltM_0 layM_0 rfl ?_
          refine z_aload_n hC dX8_door_59 rfl ?_
          refine z_geti hC wf_X8_93 dX8_door_60 ltM_0 layM_0 rfl ?_
          refine z_iload_n hC dX8_door_63 rfl ?_
          refine z_iast hC dX8_door_64 ltM_4 layM_4 (fun h11 => ?_)
          refine z_let (fun σ12 _ => ?_)
          refine z_aload_n hC dX8_door_65 rfl ?_
          refine z_getr hC wf_X8_7 dX8_door_66 ltM_0 layM_0 rfl ?_
          refine z_bipush hC dX8_door_69 kb_12 ?_
          refine z_aload_n hC dX8_door_71 rfl ?_
          refine z_geti hC wf_X8_93 dX8_door_72 ltM_0 layM_0 rfl ?_
          refine z_iadd hC dX8_door_75 ?_
          refine z_iconst hC dX8_door_76 ki_1 ?_
          refine z_iast hC dX8_door_77 ltM_1 layM_1 (fun h13 => ?_)
          refine z_let (fun σ14 _ => ?_)
          refine z_aload_n hC dX8_door_78 rfl ?_
          refine z_dup hC dX8_door_79 rfl ?_
          refine z_geti hC wf_X8_93 dX8_door_80 ltM_0 layM_0 rfl ?_
          refine z_iconst hC dX8_door_83 ki_1 ?_
          refine z_iadd hC dX8_door_84 ?_
          refine z_puti hC wp_X8_93 dX8_door_85 ltM_0 layM_0 rfl ?_
          refine z_let (fun σ15 _ => ?_)
          refine z_aload_n hC dX8_door_88 rfl ?_
          refine z_aload_n hC dX8_door_89 rfl ?_
          refine z_geti hC wf_X8_93 dX8_door_90 ltM_0 layM_0 rfl ?_
          refine z_iconst hC dX8_door_93 ki_1 ?_
          refine z_isub hC dX8_door_94 ?_
          refine z_callVi hC [.int ((σ15 0 5) - 1)] (c_X8_changed ((σ15 0 5) - 1)) yy_X8_changed wl_X8_85 dX8_door_95 ltM_0 layM_0 vcz_X8 rfl rfl rfl (Nat.le_of_ble_eq_true rfl) (by decide) (fun r16 σ17 _ => ?_)
          exact z_iret hC dX8_door_98
        · refine z_bipush hC dX8_door_42 kb_m5 ?_
          exact z_iret hC dX8_door_44
      · refine z_bipush hC dX8_door_30 kb_m3 ?_
        exact z_iret hC dX8_door_32
    · refine z_bipush hC dX8_door_22 kb_m2 ?_
      exact z_iret hC dX8_door_24
theorem c_X8_door (p1 : Int32) (p2 : Int32) : zM layM nM yX8_door cX8_door 3 (some .int) (zRm 2 43) (fun ad => [.ref (ad 0), .int p1, .int p2]) (f_X8_door p1 p2) := zM_of (own := RX8) (by decide) rfl (fun ad w hw => by simp only [List.mem_cons, List.not_mem_nil, or_false] at hw; (first | exact hw.elim | (rcases hw with rfl | rfl | rfl <;> rfl))) (fun ad => Nat.le_of_ble_eq_true rfl) (fun Γ ad hC σ => w_X8_door hC p1 p2 σ)
set_option maxRecDepth 100000 in
set_option maxHeartbeats 4000000 in
theorem w_X8_event {Γ : zG} {ad : Nat → Nat} (hC : zX Γ layM nM ad cX8_event RX8 4 (zRm 2 43) (some .int)) (p1 : Int32) (p2 : Int32) (p3 : Int32) (σ : zS) : zK Γ layM nM ad 4 (some .int) 0 [some (.ref (ad 0)), some (.int p1), some (.int p2), some (.int p3)] [] σ (f_X8_event p1 p2 p3 σ) some := by
  unfold f_X8_event
  refine z_iload_n hC dX8_event_0 rfl ?_
  refine z_aload_n hC dX8_event_1 rfl ?_
  refine z_geti hC wf_X8_99 dX8_event_2 ltM_0 layM_0 rfl ?_
  refine z_callSi hC [.int p1, .int (σ 0 9)] (c_X8_isOf p1 (σ 0 9)) yy_X8_isOf wl_X8_89 dX8_event_5 rfl rfl rfl (Nat.le_of_ble_eq_true rfl) (by decide) (fun r1 σ2 _ => ?_)
  refine z_if_ne hC 14 dX8_event_8 (by decide) (fun h3 => ?_) (fun h3 => ?_)
  · refine z_iload_n hC dX8_event_14 rfl ?_
    refine z_iconst hC dX8_event_15 ki_0 ?_
    refine z_sipush hC dX8_event_16 ks_1439 ?_
    refine z_callSi hC [.int p2, .int 0, .int 1439] (c_X8_in p2 0 1439) yy_X8_in wl_X8_78 dX8_event_19 rfl rfl rfl (Nat.le_of_ble_eq_true rfl) (by decide) (fun r4 σ5 _ => ?_)
    refine z_if_ne hC 28 dX8_event_22 (by decide) (fun h6 => ?_) (fun h6 => ?_)
    · refine z_aload_n hC dX8_event_28 rfl ?_
      refine z_geti hC wf_X8_102 dX8_event_29 ltM_0 layM_0 rfl ?_
      refine z_bipush hC dX8_event_32 kb_12 ?_
      refine z_icmp_ne hC 40 dX8_event_34 (by decide) (fun h7 => ?_) (fun h7 => ?_)
      · refine z_aload_n hC dX8_event_40 rfl ?_
        refine z_getr hC wf_X8_41 dX8_event_41 ltM_0 layM_0 rfl ?_
        refine z_aload_n hC dX8_event_44 rfl ?_
        refine z_geti hC wf_X8_102 dX8_event_45 ltM_0 layM_0 rfl ?_
        refine z_iload_n hC dX8_event_48 rfl ?_
        refine z_iast hC dX8_event_49 ltM_10 layM_10 (fun h8 => ?_)
        refine z_let (fun σ9 _ => ?_)
        refine z_aload_n hC dX8_event_50 rfl ?_
        refine z_getr hC wf_X8_44 dX8_event_51 ltM_0 layM_0 rfl ?_
        refine z_aload_n hC dX8_event_54 rfl ?_
        refine z_geti hC wf_X8_102 dX8_event_55 ltM_0 layM_0 rfl ?_
        refine z_iload_n hC dX8_event_58 rfl ?_
        refine z_iast hC dX8_event_59 ltM_11 layM_11 (fun h10 => ?_)
        refine z_let (fun σ11 _ => ?_)
        refine z_aload_n hC dX8_event_60 rfl ?_
        refine z_getr hC wf_X8_47 dX8_event_61 ltM_0 layM_0 rfl ?_
        refine z_aload_n hC dX8_event_64 rfl ?_
        refine z_geti hC wf_X8_102 dX8_event_65 ltM_0 layM_0 rfl ?_
        refine z_iload_n hC dX8_event_68 rfl ?_
        refine z_zast hC dX8_event_69 ltM_12 layM_12 (fun h12 => ?_)
        refine z_let (fun σ13 _ => ?_)
        refine z_aload_n hC dX8_event_70 rfl ?_
        refine z_getr hC wf_X8_7 dX8_event_71 ltM_0 layM_0 rfl ?_
        refine z_bipush hC dX8_event_74 kb_35 ?_
        refine z_aload_n hC dX8_event_76 rfl ?_
        refine z_geti hC wf_X8_102 dX8_event_77 ltM_0 layM_0 rfl ?_
        refine z_iadd hC dX8_event_80 ?_
        refine z_iconst hC dX8_event_81 ki_0 ?_
        refine z_iast hC dX8_event_82 ltM_1 layM_1 (fun h14 => ?_)
        refine z_let (fun σ15 _ => ?_)
        refine z_aload_n hC dX8_event_83 rfl ?_
        refine z_dup hC dX8_event_84 rfl ?_
        refine z_geti hC wf_X8_102 dX8_event_85 ltM_0 layM_0 rfl ?_
        refine z_iconst hC dX8_event_88 ki_1 ?_
        refine z_iadd hC dX8_event_89 ?_
        refine z_puti hC wp_X8_102 dX8_event_90 ltM_0 layM_0 rfl ?_
        refine z_let (fun σ16 _ => ?_)
        refine z_aload_n hC dX8_event_93 rfl ?_
        refine z_aload_n hC dX8_event_94 rfl ?_
        refine z_geti hC wf_X8_102 dX8_event_95 ltM_0 layM_0 rfl ?_
        refine z_iconst hC dX8_event_98 ki_1 ?_
        refine z_isub hC dX8_event_99 ?_
        refine z_callVi hC [.int ((σ16 0 15) - 1)] (c_X8_changed ((σ16 0 15) - 1)) yy_X8_changed wl_X8_85 dX8_event_100 ltM_0 layM_0 vcz_X8 rfl rfl rfl (Nat.le_of_ble_eq_true rfl) (by decide) (fun r17 σ18 _ => ?_)
        exact z_iret hC dX8_event_103
      · refine z_bipush hC dX8_event_37 kb_m5 ?_
        exact z_iret hC dX8_event_39
    · refine z_bipush hC dX8_event_25 kb_m3 ?_
      exact z_iret hC dX8_event_27
  · refine z_bipush hC dX8_event_11 kb_m2 ?_
    exact z_iret hC dX8_event_13
theorem c_X8_event (p1 : Int32) (p2 : Int32) (p3 : Int32) : zM layM nM yX8_event cX8_event 4 (some .int) (zRm 2 43) (fun ad => [.ref (ad 0), .int p1, .int p2, .int p3]) (f_X8_event p1 p2 p3) := zM_of (own := RX8) (by decide) rfl (fun ad w hw => by simp only [List.mem_cons, List.not_mem_nil, or_false] at hw; (first | exact hw.elim | (rcases hw with rfl | rfl | rfl | rfl <;> rfl))) (fun ad => Nat.le_of_ble_eq_true rfl) (fun Γ ad hC σ => w_X8_event hC p1 p2 p3 σ)
set_option maxRecDepth 100000 in
set_option maxHeartbeats 4000000 in
theorem w_X8_step {Γ : zG} {ad : Nat → Nat} (hC : zX Γ layM nM ad cX8_step RX8 3 (zRm 0 0) none) (p1 : Int32) (p2 : Int32) (σ : zS) : zK Γ layM nM ad 3 none 0 [some (.ref (ad 0)), some (.int p1), some (.int p2)] [] σ (f_X8_step p1 p2 σ) some := by
  unfold f_X8_step
  refine z_aload_n hC dX8_step_0 rfl ?_
  refine z_getr hC wf_X8_72 dX8_step_1 ltM_0 layM_0 rfl ?_
  refine z_iload_n hC dX8_step_4 rfl ?_
  refine z_iald hC dX8_step_5 ltM_20 layM_20 (fun h1 => ?_)
  refine z_iconst hC dX8_step_6 ki_m1 ?_
  refine z_icmp_eq hC 51 dX8_step_7 (by decide) (fun h2 => ?_) (fun h2 => ?_)
  · exact z_vret hC dX8_step_51
  · refine z_aload_n hC dX8_step_10 rfl ?_
    refine z_getr hC wf_X8_72 dX8_step_11 ltM_0 layM_0 rfl ?_
    refine z_iload_n hC dX8_step_14 rfl ?_
    refine z_iald hC dX8_step_15 ltM_20 layM_20 (fun h3 => ?_)
    refine z_iconst hC dX8_step_16 ki_m1 ?_
    refine z_icmp_eq hC 37 dX8_step_17 (by decide) (fun h4 => ?_) (fun h4 => ?_)
    · refine z_aload_n hC dX8_step_37 rfl ?_
      refine z_getr hC wf_X8_72 dX8_step_38 ltM_0 layM_0 rfl ?_
      refine z_iload_n hC dX8_step_41 rfl ?_
      refine z_aload_n hC dX8_step_42 rfl ?_
      refine z_getr hC wf_X8_72 dX8_step_43 ltM_0 layM_0 rfl ?_
      refine z_iload_n hC dX8_step_46 rfl ?_
      refine z_iald hC dX8_step_47 ltM_20 layM_20 (fun h5 => ?_)
      refine z_iconst hC dX8_step_48 ki_1 ?_
      refine z_iadd hC dX8_step_49 ?_
      refine z_iast hC dX8_step_50 ltM_20 layM_20 (fun h6 => ?_)
      refine z_let (fun σ7 _ => ?_)
      exact z_vret hC dX8_step_51
    · refine z_aload_n hC dX8_step_20 rfl ?_
      refine z_getr hC wf_X8_72 dX8_step_21 ltM_0 layM_0 rfl ?_
      refine z_iload_n hC dX8_step_24 rfl ?_
      refine z_iald hC dX8_step_25 ltM_20 layM_20 (fun h8 => ?_)
      refine z_aload_n hC dX8_step_26 rfl ?_
      refine z_getr hC wf_X8_72 dX8_step_27 ltM_0 layM_0 rfl ?_
      refine z_iload_n hC dX8_step_30 rfl ?_
      refine z_iald hC dX8_step_31 ltM_20 layM_20 (fun h9 => ?_)
      refine z_iconst hC dX8_step_32 ki_1 ?_
      refine z_iadd hC dX8_step_33 ?_
      refine z_icmp_le hC 51 dX8_step_34 (by decide) (fun h10 => ?_) (fun h10 => ?_)
      · exact z_vret hC dX8_step_51
      · refine z_aload_n hC dX8_step_37 rfl ?_
        refine z_getr hC wf_X8_72 dX8_step_38 ltM_0 layM_0 rfl ?_
        refine z_iload_n hC dX8_step_41 rfl ?_
        refine z_aload_n hC dX8_step_42 rfl ?_
        refine z_getr hC wf_X8_72 dX8_step_43 ltM_0 layM_0 rfl ?_
        refine z_iload_n hC dX8_step_46 rfl ?_
        refine z_iald hC dX8_step_47 ltM_20 layM_20 (fun h11 => ?_)
        refine z_iconst hC dX8_step_48 ki_1 ?_
        refine z_iadd hC dX8_step_49 ?_
        refine z_iast hC dX8_step_50 ltM_20 layM_20 (fun h12 => ?_)
        refine z_let (fun σ13 _ => ?_)
        exact z_vret hC dX8_step_51
theorem c_X8_step (p1 : Int32) (p2 : Int32) : zM layM nM yX8_step cX8_step 3 none (zRm 0 0) (fun ad => [.ref (ad 0), .int p1, .int p2]) (f_X8_step p1 p2) := zM_of (own := RX8) (by decide) rfl (fun ad w hw => by simp only [List.mem_cons, List.not_mem_nil, or_false] at hw; (first | exact hw.elim | (rcases hw with rfl | rfl | rfl <;> rfl))) (fun ad => Nat.le_of_ble_eq_true rfl) (fun Γ ad hC σ => w_X8_step hC p1 p2 σ)
set_option maxRecDepth 100000 in
set_option maxHeartbeats 4000000 in
theorem t_X8_findWays_L2 {Γ : zG} {ad : Nat → Nat} (hC : zX Γ layM nM ad cX8_findWays RX8 4 (zRm 1 22) none) (c1 : Int32) (a0 : Int32 × zS) (K : Bool × (Int32 × zS) → Option (Int32 × zS)) (hc : ∀ (x0 : Int32) (s' : zS), zZ Γ layM nM ad 4 none 2 [some (.ref (ad 0)), some (.int c1), some (.int x0), none] [] s' (K (true, (x0, s')))) (hx : ∀ (x0 : Int32) (s' : zS), zZ Γ layM nM ad 4 none 32 [some (.ref (ad 0)), some (.int c1), some (.int x0), none] [] s' (K (false, (x0, s')))) : zK Γ layM nM ad 4 none 2 [some (.ref (ad 0)), some (.int c1), some (.int a0.1), none] [] (a0.2) (b_X8_findWays_L2 c1 a0) K := by
  unfold b_X8_findWays_L2
  refine z_iload_n hC dX8_findWays_2 rfl ?_
  refine z_aload_n hC dX8_findWays_3 rfl ?_
  refine z_geti hC wf_X8_82 dX8_findWays_4 ltM_0 layM_0 rfl ?_
  refine z_icmp_ge hC 32 dX8_findWays_7 (by decide) (fun h1 => ?_) (fun h1 => ?_)
  · exact z_leaf (hx a0.1 a0.2)
  · refine z_aload_n hC dX8_findWays_10 rfl ?_
    refine z_getr hC wf_X8_72 dX8_findWays_11 ltM_0 layM_0 rfl ?_
    refine z_iload_n hC dX8_findWays_14 rfl ?_
    refine z_iload_n hC dX8_findWays_15 rfl ?_
    refine z_iload_n hC dX8_findWays_16 rfl ?_
    refine z_icmp_ne hC 24 dX8_findWays_17 (by decide) (fun h2 => ?_) (fun h2 => ?_)
    · refine z_iconst hC dX8_findWays_24 ki_m1 ?_
      refine z_iast hC dX8_findWays_25 ltM_20 layM_20 (fun h3 => ?_)
      refine z_let (fun σ4 _ => ?_)
      refine z_iinc hC dX8_findWays_26 (lv' := [some (.ref (ad 0)), some (.int c1), some (.int (a0.1 + 1)), none]) rfl (by decide) ki_1 rfl ?_
      refine z_goto hC 2 dX8_findWays_29 (by decide) ?_
      exact z_leaf (hc (a0.1 + 1) σ4)
    · refine z_iconst hC dX8_findWays_20 ki_0 ?_
      refine z_goto hC 25 dX8_findWays_21 (by decide) ?_
      refine z_iast hC dX8_findWays_25 ltM_20 layM_20 (fun h5 => ?_)
      refine z_let (fun σ6 _ => ?_)
      refine z_iinc hC dX8_findWays_26 (lv' := [some (.ref (ad 0)), some (.int c1), some (.int (a0.1 + 1)), none]) rfl (by decide) ki_1 rfl ?_
      refine z_goto hC 2 dX8_findWays_29 (by decide) ?_
      exact z_leaf (hc (a0.1 + 1) σ6)
set_option maxRecDepth 100000 in
set_option maxHeartbeats 4000000 in
theorem t_X8_findWays_L44 {Γ : zG} {ad : Nat → Nat} (hC : zX Γ layM nM ad cX8_findWays RX8 4 (zRm 1 22) none) (c1 : Int32) (c2 : Int32) (a0 : Int32 × zS) (K : Bool × (Int32 × zS) → Option (Int32 × zS)) (hc : ∀ (x0 : Int32) (s' : zS), zZ Γ layM nM ad 4 none 44 [some (.ref (ad 0)), some (.int c1), some (.int c2), some (.int x0)] [] s' (K (true, (x0, s')))) (hx : ∀ (x0 : Int32) (s' : zS), zZ Γ layM nM ad 4 none 103 [some (.ref (ad 0)), some (.int c1), some (.int c2), some (.int x0)] [] s' (K (false, (x0, s')))) : zK Γ layM nM ad 4 none 44 [some (.ref (ad 0)), some (.int c1), some (.int c2), some (.int a0.1)] [] (a0.2) (b_X8_findWays_L44 c1 c2 a0) K := by
  unfold b_X8_findWays_L44
  refine z_iload_n hC dX8_findWays_44 rfl ?_
  refine z_aload_n hC dX8_findWays_45 rfl ?_
  refine z_geti hC wf_X8_93 dX8_findWays_46 ltM_0 layM_0 rfl ?_
  refine z_icmp_ge hC 103 dX8_findWays_49 (by decide) (fun h9 => ?_) (fun h9 => ?_)
  · exact z_leaf (hx a0.1 a0.2)
  · refine z_aload_n hC dX8_findWays_52 rfl ?_
    refine z_getr hC wf_X8_7 dX8_findWays_53 ltM_0 layM_0 rfl ?_
    refine z_bipush hC dX8_findWays_56 kb_12 ?_
    refine z_iload_n hC dX8_findWays_58 rfl ?_
    refine z_iadd hC dX8_findWays_59 ?_
    refine z_iald hC dX8_findWays_60 ltM_1 layM_1 (fun h10 => ?_)
    refine z_iconst hC dX8_findWays_61 ki_1 ?_
    refine z_icmp_ne hC 97 dX8_findWays_62 (by decide) (fun h11 => ?_) (fun h11 => ?_)
    · refine z_iinc hC dX8_findWays_97 (lv' := [some (.ref (ad 0)), some (.int c1), some (.int c2), some (.int (a0.1 + 1))]) rfl (by decide) ki_1 rfl ?_
      refine z_goto hC 44 dX8_findWays_100 (by decide) ?_
      exact z_leaf (hc (a0.1 + 1) a0.2)
    · refine z_aload_n hC dX8_findWays_65 rfl ?_
      refine z_aload_n hC dX8_findWays_66 rfl ?_
      refine z_getr hC wf_X8_20 dX8_findWays_67 ltM_0 layM_0 rfl ?_
      refine z_iload_n hC dX8_findWays_70 rfl ?_
      refine z_iald hC dX8_findWays_71 ltM_3 layM_3 (fun h12 => ?_)
      refine z_aload_n hC dX8_findWays_72 rfl ?_
      refine z_getr hC wf_X8_23 dX8_findWays_73 ltM_0 layM_0 rfl ?_
      refine z_iload_n hC dX8_findWays_76 rfl ?_
      refine z_iald hC dX8_findWays_77 ltM_4 layM_4 (fun h13 => ?_)
      refine z_callVv hC [.int (a0.2 3 a0.1.toNatClampNeg), .int (a0.2 4 a0.1.toNatClampNeg)] (c_X8_step (a0.2 3 a0.1.toNatClampNeg) (a0.2 4 a0.1.toNatClampNeg)) yy_X8_step wl_X8_137 dX8_findWays_78 ltM_0 layM_0 vcz_X8 rfl rfl rfl (Nat.le_of_ble_eq_true rfl) (by decide) (fun r14 σ15 _ => ?_)
      refine z_aload_n hC dX8_findWays_81 rfl ?_
      refine z_aload_n hC dX8_findWays_82 rfl ?_
      refine z_getr hC wf_X8_23 dX8_findWays_83 ltM_0 layM_0 rfl ?_
      refine z_iload_n hC dX8_findWays_86 rfl ?_
      refine z_iald hC dX8_findWays_87 ltM_4 layM_4 (fun h16 => ?_)
      refine z_aload_n hC dX8_findWays_88 rfl ?_
      refine z_getr hC wf_X8_20 dX8_findWays_89 ltM_0 layM_0 rfl ?_
      refine z_iload_n hC dX8_findWays_92 rfl ?_
      refine z_iald hC dX8_findWays_93 ltM_3 layM_3 (fun h17 => ?_)
      refine z_callVv hC [.int (σ15 4 a0.1.toNatClampNeg), .int (σ15 3 a0.1.toNatClampNeg)] (c_X8_step (σ15 4 a0.1.toNatClampNeg) (σ15 3 a0.1.toNatClampNeg)) yy_X8_step wl_X8_137 dX8_findWays_94 ltM_0 layM_0 vcz_X8 rfl rfl rfl (Nat.le_of_ble_eq_true rfl) (by decide) (fun r18 σ19 _ => ?_)
      refine z_iinc hC dX8_findWays_97 (lv' := [some (.ref (ad 0)), some (.int c1), some (.int c2), some (.int (a0.1 + 1))]) rfl (by decide) ki_1 rfl ?_
      refine z_goto hC 44 dX8_findWays_100 (by decide) ?_
      exact z_leaf (hc (a0.1 + 1) σ19)
set_option maxRecDepth 100000 in
set_option maxHeartbeats 4000000 in
theorem t_X8_findWays_L34 {Γ : zG} {ad : Nat → Nat} (hC : zX Γ layM nM ad cX8_findWays RX8 4 (zRm 1 22) none) (c1 : Int32) (a0 : Int32 × zS) (K : Bool × (Int32 × zS) → Option (Int32 × zS)) (hc : ∀ (x0 : Int32) (s' : zS), zZ Γ layM nM ad 4 none 34 [some (.ref (ad 0)), some (.int c1), some (.int x0), none] [] s' (K (true, (x0, s')))) (hx : ∀ (x0 : Int32) (s' : zS), zZ Γ layM nM ad 4 none 109 [some (.ref (ad 0)), some (.int c1), some (.int x0), none] [] s' (K (false, (x0, s')))) : zK Γ layM nM ad 4 none 34 [some (.ref (ad 0)), some (.int c1), some (.int a0.1), none] [] (a0.2) (b_X8_findWays_L34 c1 a0) K := by
  unfold b_X8_findWays_L34
  refine z_iload_n hC dX8_findWays_34 rfl ?_
  refine z_aload_n hC dX8_findWays_35 rfl ?_
  refine z_geti hC wf_X8_82 dX8_findWays_36 ltM_0 layM_0 rfl ?_
  refine z_icmp_ge hC 109 dX8_findWays_39 (by decide) (fun h8 => ?_) (fun h8 => ?_)
  · exact z_leaf (hx a0.1 a0.2)
  · refine z_iconst hC dX8_findWays_42 ki_0 ?_
    refine z_istore_n hC dX8_findWays_43 (lv' := [some (.ref (ad 0)), some (.int c1), some (.int a0.1), some (.int 0)]) (by decide) rfl ?_
    refine z_lpb (lvf := fun z : Int32 × zS => [some (.ref (ad 0)), some (.int c1), some (.int a0.1), some (.int z.1)]) (sg := fun z => z.2) (x := 103) zfuel (0, a0.2) rfl rfl (fun z K hc hx => t_X8_findWays_L44 hC c1 a0.1 z K (fun x0 s' => hc (x0, s')) (fun x0 s' => hx (x0, s'))) (fun a20 => ?_)
    refine z_iinc hC dX8_findWays_103 (lv' := [some (.ref (ad 0)), some (.int c1), some (.int (a0.1 + 1)), some (.int a20.1)]) rfl (by decide) ki_1 rfl ?_
    refine z_goto hC 34 dX8_findWays_106 (by decide) ?_
    refine z_forget [3] (lv' := [some (.ref (ad 0)), some (.int c1), some (.int (a0.1 + 1)), none]) rfl ?_
    exact z_leaf (hc (a0.1 + 1) a20.2)
set_option maxRecDepth 100000 in
set_option maxHeartbeats 4000000 in
theorem w_X8_findWays {Γ : zG} {ad : Nat → Nat} (hC : zX Γ layM nM ad cX8_findWays RX8 4 (zRm 1 22) none) (p1 : Int32) (σ : zS) : zK Γ layM nM ad 4 none 0 [some (.ref (ad 0)), some (.int p1), none, none] [] σ (f_X8_findWays p1 σ) some := by
  unfold f_X8_findWays
  refine z_iconst hC dX8_findWays_0 ki_0 ?_
  refine z_istore_n hC dX8_findWays_1 (lv' := [some (.ref (ad 0)), some (.int p1), some (.int 0), none]) (by decide) rfl ?_
  refine z_lpb (lvf := fun z : Int32 × zS => [some (.ref (ad 0)), some (.int p1), some (.int z.1), none]) (sg := fun z => z.2) (x := 32) zfuel (0, σ) rfl rfl (fun z K hc hx => t_X8_findWays_L2 hC p1 z K (fun x0 s' => hc (x0, s')) (fun x0 s' => hx (x0, s'))) (fun a7 => ?_)
  refine z_iconst hC dX8_findWays_32 ki_0 ?_
  refine z_istore_n hC dX8_findWays_33 (lv' := [some (.ref (ad 0)), some (.int p1), some (.int 0), none]) (by decide) rfl ?_
  refine z_lpb (lvf := fun z : Int32 × zS => [some (.ref (ad 0)), some (.int p1), some (.int z.1), none]) (sg := fun z => z.2) (x := 109) zfuel (0, a7.2) rfl rfl (fun z K hc hx => t_X8_findWays_L34 hC p1 z K (fun x0 s' => hc (x0, s')) (fun x0 s' => hx (x0, s'))) (fun a21 => ?_)
  exact z_vret hC dX8_findWays_109
theorem c_X8_findWays (p1 : Int32) : zM layM nM yX8_findWays cX8_findWays 4 none (zRm 1 22) (fun ad => [.ref (ad 0), .int p1]) (f_X8_findWays p1) := zM_of (own := RX8) (by decide) rfl (fun ad w hw => by simp only [List.mem_cons, List.not_mem_nil, or_false] at hw; (first | exact hw.elim | (rcases hw with rfl | rfl <;> rfl))) (fun ad => Nat.le_of_ble_eq_true rfl) (fun Γ ad hC σ => w_X8_findWays hC p1 σ)
set_option maxRecDepth 100000 in
set_option maxHeartbeats 4000000 in
theorem w_X8_tell {Γ : zG} {ad : Nat → Nat} (hC : zX Γ layM nM ad cX8_tell RX8 3 (zRm 0 0) none) (p1 : Int32) (p2 : Int32) (σ : zS) : zK Γ layM nM ad 3 none 0 [some (.ref (ad 0)), some (.int p1), some (.int p2)] [] σ (f_X8_tell p1 p2 σ) some := by
  unfold f_X8_tell
  refine z_aload_n hC dX8_tell_0 rfl ?_
  refine z_dup hC dX8_tell_1 rfl ?_
  refine z_geti hC wf_X8_130 dX8_tell_2 ltM_0 layM_0 rfl ?_
  refine z_iconst hC dX8_tell_5 ki_1 ?_
  refine z_iadd hC dX8_tell_6 ?_
  refine z_puti hC wp_X8_130 dX8_tell_7 ltM_0 layM_0 rfl ?_
  refine z_let (fun σ1 _ => ?_)
  refine z_aload_n hC dX8_tell_10 rfl ?_
  refine z_getr hC wf_X8_7 dX8_tell_11 ltM_0 layM_0 rfl ?_
  refine z_bipush hC dX8_tell_14 kb_71 ?_
  refine z_iald hC dX8_tell_16 ltM_1 layM_1 (fun h2 => ?_)
  refine z_bipush hC dX8_tell_17 kb_60 ?_
  refine z_icmp_ge hC 71 dX8_tell_19 (by decide) (fun h3 => ?_) (fun h3 => ?_)
  · exact z_vret hC dX8_tell_71
  · refine z_aload_n hC dX8_tell_22 rfl ?_
    refine z_getr hC wf_X8_7 dX8_tell_23 ltM_0 layM_0 rfl ?_
    refine z_bipush hC dX8_tell_26 kb_72 ?_
    refine z_iconst hC dX8_tell_28 ki_2 ?_
    refine z_aload_n hC dX8_tell_29 rfl ?_
    refine z_getr hC wf_X8_7 dX8_tell_30 ltM_0 layM_0 rfl ?_
    refine z_bipush hC dX8_tell_33 kb_71 ?_
    refine z_iald hC dX8_tell_35 ltM_1 layM_1 (fun h4 => ?_)
    refine z_imul hC dX8_tell_36 ?_
    refine z_iadd hC dX8_tell_37 ?_
    refine z_iload_n hC dX8_tell_38 rfl ?_
    refine z_iast hC dX8_tell_39 ltM_1 layM_1 (fun h5 => ?_)
    refine z_let (fun σ6 _ => ?_)
    refine z_aload_n hC dX8_tell_40 rfl ?_
    refine z_getr hC wf_X8_7 dX8_tell_41 ltM_0 layM_0 rfl ?_
    refine z_bipush hC dX8_tell_44 kb_72 ?_
    refine z_iconst hC dX8_tell_46 ki_2 ?_
    refine z_aload_n hC dX8_tell_47 rfl ?_
    refine z_getr hC wf_X8_7 dX8_tell_48 ltM_0 layM_0 rfl ?_
    refine z_bipush hC dX8_tell_51 kb_71 ?_
    refine z_iald hC dX8_tell_53 ltM_1 layM_1 (fun h7 => ?_)
    refine z_imul hC dX8_tell_54 ?_
    refine z_iadd hC dX8_tell_55 ?_
    refine z_iconst hC dX8_tell_56 ki_1 ?_
    refine z_iadd hC dX8_tell_57 ?_
    refine z_iload_n hC dX8_tell_58 rfl ?_
    refine z_iast hC dX8_tell_59 ltM_1 layM_1 (fun h8 => ?_)
    refine z_let (fun σ9 _ => ?_)
    refine z_aload_n hC dX8_tell_60 rfl ?_
    refine z_getr hC wf_X8_7 dX8_tell_61 ltM_0 layM_0 rfl ?_
    refine z_bipush hC dX8_tell_64 kb_71 ?_
    refine z_dup2 hC dX8_tell_66 rfl rfl ?_
    refine z_iald hC dX8_tell_67 ltM_1 layM_1 (fun h10 => ?_)
    refine z_iconst hC dX8_tell_68 ki_1 ?_
    refine z_iadd hC dX8_tell_69 ?_
    refine z_iast hC dX8_tell_70 ltM_1 layM_1 (fun h11 => ?_)
    refine z_let (fun σ12 _ => ?_)
    exact z_vret hC dX8_tell_71
theorem c_X8_tell (p1 : Int32) (p2 : Int32) : zM layM nM yX8_tell cX8_tell 3 none (zRm 0 0) (fun ad => [.ref (ad 0), .int p1, .int p2]) (f_X8_tell p1 p2) := zM_of (own := RX8) (by decide) rfl (fun ad w hw => by simp only [List.mem_cons, List.not_mem_nil, or_false] at hw; (first | exact hw.elim | (rcases hw with rfl | rfl | rfl <;> rfl))) (fun ad => Nat.le_of_ble_eq_true rfl) (fun Γ ad hC σ => w_X8_tell hC p1 p2 σ)
set_option maxRecDepth 100000 in
set_option maxHeartbeats 4000000 in
theorem t_X8_goDaemons_L10 {Γ : zG} {ad : Nat → Nat} (hC : zX Γ layM nM ad cX8_goDaemons RX8 3 (zRm 3 66) none) (c1 : Int32) (a0 : Int32 × zS) (K : Bool × (Int32 × zS) → Option (Int32 × zS)) (hc : ∀ (x0 : Int32) (s' : zS), zZ Γ layM nM ad 3 none 10 [some (.ref (ad 0)), some (.int c1), some (.int x0)] [] s' (K (true, (x0, s')))) (hx : ∀ (x0 : Int32) (s' : zS), zZ Γ layM nM ad 3 none 70 [some (.ref (ad 0)), some (.int c1), some (.int x0)] [] s' (K (false, (x0, s')))) : zK Γ layM nM ad 3 none 10 [some (.ref (ad 0)), some (.int c1), some (.int a0.1)] [] (a0.2) (b_X8_goDaemons_L10 c1 a0) K := by
  unfold b_X8_goDaemons_L10
  refine z_iload_n hC dX8_goDaemons_10 rfl ?_
  refine z_aload_n hC dX8_goDaemons_11 rfl ?_
  refine z_geti hC wf_X8_108 dX8_goDaemons_12 ltM_0 layM_0 rfl ?_
  refine z_icmp_ge hC 70 dX8_goDaemons_15 (by decide) (fun h2 => ?_) (fun h2 => ?_)
  · exact z_leaf (hx a0.1 a0.2)
  · refine z_aload_n hC dX8_goDaemons_18 rfl ?_
    refine z_geti hC wf_X8_123 dX8_goDaemons_19 ltM_0 layM_0 rfl ?_
    refine z_if_ne hC 70 dX8_goDaemons_22 (by decide) (fun h3 => ?_) (fun h3 => ?_)
    · exact z_leaf (hx a0.1 a0.2)
    · refine z_aload_n hC dX8_goDaemons_25 rfl ?_
      refine z_getr hC wf_X8_63 dX8_goDaemons_26 ltM_0 layM_0 rfl ?_
      refine z_iload_n hC dX8_goDaemons_29 rfl ?_
      refine z_iald hC dX8_goDaemons_30 ltM_17 layM_17 (fun h4 => ?_)
      refine z_iload_n hC dX8_goDaemons_31 rfl ?_
      refine z_icmp_ne hC 64 dX8_goDaemons_32 (by decide) (fun h5 => ?_) (fun h5 => ?_)
      · refine z_iinc hC dX8_goDaemons_64 (lv' := [some (.ref (ad 0)), some (.int c1), some (.int (a0.1 + 1))]) rfl (by decide) ki_1 rfl ?_
        refine z_goto hC 10 dX8_goDaemons_67 (by decide) ?_
        exact z_leaf (hc (a0.1 + 1) a0.2)
      · refine z_aload_n hC dX8_goDaemons_35 rfl ?_
        refine z_getr hC wf_X8_7 dX8_goDaemons_36 ltM_0 layM_0 rfl ?_
        refine z_bipush hC dX8_goDaemons_39 kb_59 ?_
        refine z_iload_n hC dX8_goDaemons_41 rfl ?_
        refine z_iadd hC dX8_goDaemons_42 ?_
        refine z_iald hC dX8_goDaemons_43 ltM_1 layM_1 (fun h6 => ?_)
        refine z_iconst hC dX8_goDaemons_44 ki_1 ?_
        refine z_icmp_ne hC 64 dX8_goDaemons_45 (by decide) (fun h7 => ?_) (fun h7 => ?_)
        · refine z_iinc hC dX8_goDaemons_64 (lv' := [some (.ref (ad 0)), some (.int c1), some (.int (a0.1 + 1))]) rfl (by decide) ki_1 rfl ?_
          refine z_goto hC 10 dX8_goDaemons_67 (by decide) ?_
          exact z_leaf (hc (a0.1 + 1) a0.2)
        · refine z_aload_n hC dX8_goDaemons_48 rfl ?_
          refine z_iconst hC dX8_goDaemons_49 ki_2 ?_
          refine z_iload_n hC dX8_goDaemons_50 rfl ?_
          refine z_callVv hC [.int 2, .int a0.1] (c_X8_tell 2 a0.1) yy_X8_tell wl_X8_133 dX8_goDaemons_51 ltM_0 layM_0 vcz_X8 rfl rfl rfl (Nat.le_of_ble_eq_true rfl) (by decide) (fun r8 σ9 _ => ?_)
          refine z_aload_n hC dX8_goDaemons_54 rfl ?_
          refine z_aload_n hC dX8_goDaemons_55 rfl ?_
          refine z_getr hC wf_X8_60 dX8_goDaemons_56 ltM_0 layM_0 rfl ?_
          refine z_iload_n hC dX8_goDaemons_59 rfl ?_
          refine z_iald hC dX8_goDaemons_60 ltM_16 layM_16 (fun h10 => ?_)
          refine z_callVv hC [.int (σ9 16 a0.1.toNatClampNeg)] (c_X8_perform (σ9 16 a0.1.toNatClampNeg)) yy_X8_perform wl_X8_126 dX8_goDaemons_61 ltM_0 layM_0 vcz_X8 rfl rfl rfl (Nat.le_of_ble_eq_true rfl) (by decide) (fun r11 σ12 _ => ?_)
          refine z_iinc hC dX8_goDaemons_64 (lv' := [some (.ref (ad 0)), some (.int c1), some (.int (a0.1 + 1))]) rfl (by decide) ki_1 rfl ?_
          refine z_goto hC 10 dX8_goDaemons_67 (by decide) ?_
          exact z_leaf (hc (a0.1 + 1) σ12)
set_option maxRecDepth 100000 in
set_option maxHeartbeats 4000000 in
theorem t_X8_goDaemons_L2 {Γ : zG} {ad : Nat → Nat} (hC : zX Γ layM nM ad cX8_goDaemons RX8 3 (zRm 3 66) none) (a0 : Int32 × zS) (K : Bool × (Int32 × zS) → Option (Int32 × zS)) (hc : ∀ (x0 : Int32) (s' : zS), zZ Γ layM nM ad 3 none 2 [some (.ref (ad 0)), some (.int x0), none] [] s' (K (true, (x0, s')))) (hx : ∀ (x0 : Int32) (s' : zS), zZ Γ layM nM ad 3 none 76 [some (.ref (ad 0)), some (.int x0), none] [] s' (K (false, (x0, s')))) : zK Γ layM nM ad 3 none 2 [some (.ref (ad 0)), some (.int a0.1), none] [] (a0.2) (b_X8_goDaemons_L2 a0) K := by
  unfold b_X8_goDaemons_L2
  refine z_iload_n hC dX8_goDaemons_2 rfl ?_
  refine z_bipush hC dX8_goDaemons_3 kb_9 ?_
  refine z_icmp_gt hC 76 dX8_goDaemons_5 (by decide) (fun h1 => ?_) (fun h1 => ?_)
  · exact z_leaf (hx a0.1 a0.2)
  · refine z_iconst hC dX8_goDaemons_8 ki_0 ?_
    refine z_istore_n hC dX8_goDaemons_9 (lv' := [some (.ref (ad 0)), some (.int a0.1), some (.int 0)]) (by decide) rfl ?_
    refine z_lpb (lvf := fun z : Int32 × zS => [some (.ref (ad 0)), some (.int a0.1), some (.int z.1)]) (sg := fun z => z.2) (x := 70) zfuel (0, a0.2) rfl rfl (fun z K hc hx => t_X8_goDaemons_L10 hC a0.1 z K (fun x0 s' => hc (x0, s')) (fun x0 s' => hx (x0, s'))) (fun a13 => ?_)
    refine z_iinc hC dX8_goDaemons_70 (lv' := [some (.ref (ad 0)), some (.int (a0.1 + 1)), some (.int a13.1)]) rfl (by decide) ki_1 rfl ?_
    refine z_goto hC 2 dX8_goDaemons_73 (by decide) ?_
    refine z_forget [2] (lv' := [some (.ref (ad 0)), some (.int (a0.1 + 1)), none]) rfl ?_
    exact z_leaf (hc (a0.1 + 1) a13.2)
set_option maxRecDepth 100000 in
set_option maxHeartbeats 4000000 in
theorem w_X8_goDaemons {Γ : zG} {ad : Nat → Nat} (hC : zX Γ layM nM ad cX8_goDaemons RX8 3 (zRm 3 66) none) (σ : zS) : zK Γ layM nM ad 3 none 0 [some (.ref (ad 0)), none, none] [] σ (f_X8_goDaemons σ) some := by
  unfold f_X8_goDaemons
  refine z_iconst hC dX8_goDaemons_0 ki_0 ?_
  refine z_istore_n hC dX8_goDaemons_1 (lv' := [some (.ref (ad 0)), some (.int 0), none]) (by decide) rfl ?_
  refine z_lpb (lvf := fun z : Int32 × zS => [some (.ref (ad 0)), some (.int z.1), none]) (sg := fun z => z.2) (x := 76) zfuel (0, σ) rfl rfl (fun z K hc hx => t_X8_goDaemons_L2 hC z K (fun x0 s' => hc (x0, s')) (fun x0 s' => hx (x0, s'))) (fun a14 => ?_)
  exact z_vret hC dX8_goDaemons_76
theorem c_X8_goDaemons : zM layM nM yX8_goDaemons cX8_goDaemons 3 none (zRm 3 66) (fun ad => [.ref (ad 0)]) (f_X8_goDaemons) := zM_of (own := RX8) (by decide) rfl (fun ad w hw => by simp only [List.mem_cons, List.not_mem_nil, or_false] at hw; (first | exact hw.elim | (rcases hw with rfl <;> rfl))) (fun ad => Nat.le_of_ble_eq_true rfl) (fun Γ ad hC σ => w_X8_goDaemons hC σ)
set_option maxRecDepth 100000 in
set_option maxHeartbeats 4000000 in
theorem t_X8_goTime_L90 {Γ : zG} {ad : Nat → Nat} (hC : zX Γ layM nM ad cX8_goTime RX8 7 (zRm 3 66) none) (c1 : Int32) (c2 : Int32) (c3 : Int32) (c4 : Int32) (c5 : Int32) (a0 : Int32 × zS) (K : Bool × (Int32 × zS) → Option (Int32 × zS)) (hc : ∀ (x0 : Int32) (s' : zS), zZ Γ layM nM ad 7 none 90 [some (.ref (ad 0)), some (.int c1), some (.int c2), some (.int c3), some (.int c4), some (.int c5), some (.int x0)] [] s' (K (true, (x0, s')))) (hx : ∀ (x0 : Int32) (s' : zS), zZ Γ layM nM ad 7 none 180 [some (.ref (ad 0)), some (.int c1), some (.int c2), some (.int c3), some (.int c4), some (.int c5), some (.int x0)] [] s' (K (false, (x0, s')))) : zK Γ layM nM ad 7 none 90 [some (.ref (ad 0)), some (.int c1), some (.int c2), some (.int c3), some (.int c4), some (.int c5), some (.int a0.1)] [] (a0.2) (b_X8_goTime_L90 c1 c2 c3 c4 c5 a0) K := by
  unfold b_X8_goTime_L90
  refine z_iload hC dX8_goTime_90 rfl ?_
  refine z_aload_n hC dX8_goTime_92 rfl ?_
  refine z_geti hC wf_X8_102 dX8_goTime_93 ltM_0 layM_0 rfl ?_
  refine z_icmp_ge hC 180 dX8_goTime_96 (by decide) (fun h12 => ?_) (fun h12 => ?_)
  · exact z_leaf (hx a0.1 a0.2)
  · refine z_aload_n hC dX8_goTime_99 rfl ?_
    refine z_geti hC wf_X8_123 dX8_goTime_100 ltM_0 layM_0 rfl ?_
    refine z_if_ne hC 180 dX8_goTime_103 (by decide) (fun h13 => ?_) (fun h13 => ?_)
    · exact z_leaf (hx a0.1 a0.2)
    · refine z_aload_n hC dX8_goTime_106 rfl ?_
      refine z_getr hC wf_X8_44 dX8_goTime_107 ltM_0 layM_0 rfl ?_
      refine z_iload hC dX8_goTime_110 rfl ?_
      refine z_iald hC dX8_goTime_112 ltM_11 layM_11 (fun h14 => ?_)
      refine z_iload hC dX8_goTime_113 rfl ?_
      refine z_icmp_ne hC 174 dX8_goTime_115 (by decide) (fun h15 => ?_) (fun h15 => ?_)
      · refine z_iinc hC dX8_goTime_174 (lv' := [some (.ref (ad 0)), some (.int c1), some (.int c2), some (.int c3), some (.int c4), some (.int c5), some (.int (a0.1 + 1))]) rfl (by decide) ki_1 rfl ?_
        refine z_goto hC 90 dX8_goTime_177 (by decide) ?_
        exact z_leaf (hc (a0.1 + 1) a0.2)
      · refine z_aload_n hC dX8_goTime_118 rfl ?_
        refine z_getr hC wf_X8_7 dX8_goTime_119 ltM_0 layM_0 rfl ?_
        refine z_bipush hC dX8_goTime_122 kb_35 ?_
        refine z_iload hC dX8_goTime_124 rfl ?_
        refine z_iadd hC dX8_goTime_126 ?_
        refine z_iald hC dX8_goTime_127 ltM_1 layM_1 (fun h16 => ?_)
        refine z_if_ne hC 174 dX8_goTime_128 (by decide) (fun h17 => ?_) (fun h17 => ?_)
        · refine z_iinc hC dX8_goTime_174 (lv' := [some (.ref (ad 0)), some (.int c1), some (.int c2), some (.int c3), some (.int c4), some (.int c5), some (.int (a0.1 + 1))]) rfl (by decide) ki_1 rfl ?_
          refine z_goto hC 90 dX8_goTime_177 (by decide) ?_
          exact z_leaf (hc (a0.1 + 1) a0.2)
        · refine z_aload_n hC dX8_goTime_131 rfl ?_
          refine z_getr hC wf_X8_7 dX8_goTime_132 ltM_0 layM_0 rfl ?_
          refine z_bipush hC dX8_goTime_135 kb_35 ?_
          refine z_iload hC dX8_goTime_137 rfl ?_
          refine z_iadd hC dX8_goTime_139 ?_
          refine z_aload_n hC dX8_goTime_140 rfl ?_
          refine z_getr hC wf_X8_47 dX8_goTime_141 ltM_0 layM_0 rfl ?_
          refine z_iload hC dX8_goTime_144 rfl ?_
          refine z_zald hC dX8_goTime_146 ltM_12 layM_12 (fun h18 => ?_)
          refine z_if_eq hC 154 dX8_goTime_147 (by decide) (fun h19 => ?_) (fun h19 => ?_)
          · refine z_iconst hC dX8_goTime_154 ki_1 ?_
            refine z_iast hC dX8_goTime_155 ltM_1 layM_1 (fun h20 => ?_)
            refine z_let (fun σ21 _ => ?_)
            refine z_aload_n hC dX8_goTime_156 rfl ?_
            refine z_iconst hC dX8_goTime_157 ki_0 ?_
            refine z_iload hC dX8_goTime_158 rfl ?_
            refine z_callVv hC [.int 0, .int a0.1] (c_X8_tell 0 a0.1) yy_X8_tell wl_X8_133 dX8_goTime_160 ltM_0 layM_0 vcz_X8 rfl rfl rfl (Nat.le_of_ble_eq_true rfl) (by decide) (fun r22 σ23 _ => ?_)
            refine z_aload_n hC dX8_goTime_163 rfl ?_
            refine z_aload_n hC dX8_goTime_164 rfl ?_
            refine z_getr hC wf_X8_41 dX8_goTime_165 ltM_0 layM_0 rfl ?_
            refine z_iload hC dX8_goTime_168 rfl ?_
            refine z_iald hC dX8_goTime_170 ltM_10 layM_10 (fun h24 => ?_)
            refine z_callVv hC [.int (σ23 10 a0.1.toNatClampNeg)] (c_X8_perform (σ23 10 a0.1.toNatClampNeg)) yy_X8_perform wl_X8_126 dX8_goTime_171 ltM_0 layM_0 vcz_X8 rfl rfl rfl (Nat.le_of_ble_eq_true rfl) (by decide) (fun r25 σ26 _ => ?_)
            refine z_iinc hC dX8_goTime_174 (lv' := [some (.ref (ad 0)), some (.int c1), some (.int c2), some (.int c3), some (.int c4), some (.int c5), some (.int (a0.1 + 1))]) rfl (by decide) ki_1 rfl ?_
            refine z_goto hC 90 dX8_goTime_177 (by decide) ?_
            exact z_leaf (hc (a0.1 + 1) σ26)
          · refine z_iconst hC dX8_goTime_150 ki_0 ?_
            refine z_goto hC 155 dX8_goTime_151 (by decide) ?_
            refine z_iast hC dX8_goTime_155 ltM_1 layM_1 (fun h27 => ?_)
            refine z_let (fun σ28 _ => ?_)
            refine z_aload_n hC dX8_goTime_156 rfl ?_
            refine z_iconst hC dX8_goTime_157 ki_0 ?_
            refine z_iload hC dX8_goTime_158 rfl ?_
            refine z_callVv hC [.int 0, .int a0.1] (c_X8_tell 0 a0.1) yy_X8_tell wl_X8_133 dX8_goTime_160 ltM_0 layM_0 vcz_X8 rfl rfl rfl (Nat.le_of_ble_eq_true rfl) (by decide) (fun r29 σ30 _ => ?_)
            refine z_aload_n hC dX8_goTime_163 rfl ?_
            refine z_aload_n hC dX8_goTime_164 rfl ?_
            refine z_getr hC wf_X8_41 dX8_goTime_165 ltM_0 layM_0 rfl ?_
            refine z_iload hC dX8_goTime_168 rfl ?_
            refine z_iald hC dX8_goTime_170 ltM_10 layM_10 (fun h31 => ?_)
            refine z_callVv hC [.int (σ30 10 a0.1.toNatClampNeg)] (c_X8_perform (σ30 10 a0.1.toNatClampNeg)) yy_X8_perform wl_X8_126 dX8_goTime_171 ltM_0 layM_0 vcz_X8 rfl rfl rfl (Nat.le_of_ble_eq_true rfl) (by decide) (fun r32 σ33 _ => ?_)
            refine z_iinc hC dX8_goTime_174 (lv' := [some (.ref (ad 0)), some (.int c1), some (.int c2), some (.int c3), some (.int c4), some (.int c5), some (.int (a0.1 + 1))]) rfl (by decide) ki_1 rfl ?_
            refine z_goto hC 90 dX8_goTime_177 (by decide) ?_
            exact z_leaf (hc (a0.1 + 1) σ33)
set_option maxRecDepth 100000 in
set_option maxHeartbeats 4000000 in
theorem t_X8_goTime_L64 {Γ : zG} {ad : Nat → Nat} (hC : zX Γ layM nM ad cX8_goTime RX8 7 (zRm 3 66) none) (c1 : Int32) (c2 : Int32) (c3 : Int32) (a0 : Int32 × zS) (K : Bool × (Int32 × zS) → Option (Int32 × zS)) (hc : ∀ (x0 : Int32) (s' : zS), zZ Γ layM nM ad 7 none 64 [some (.ref (ad 0)), some (.int c1), some (.int c2), some (.int c3), some (.int x0), none, none] [] s' (K (true, (x0, s')))) (hx : ∀ (x0 : Int32) (s' : zS), zZ Γ layM nM ad 7 none 186 [some (.ref (ad 0)), some (.int c1), some (.int c2), some (.int c3), some (.int x0), none, none] [] s' (K (false, (x0, s')))) : zK Γ layM nM ad 7 none 64 [some (.ref (ad 0)), some (.int c1), some (.int c2), some (.int c3), some (.int a0.1), none, none] [] (a0.2) (b_X8_goTime_L64 c1 c2 c3 a0) K := by
  unfold b_X8_goTime_L64
  refine z_iload hC dX8_goTime_64 rfl ?_
  refine z_iload_n hC dX8_goTime_66 rfl ?_
  refine z_icmp_gt hC 186 dX8_goTime_67 (by decide) (fun h10 => ?_) (fun h10 => ?_)
  · exact z_leaf (hx a0.1 a0.2)
  · refine z_aload_n hC dX8_goTime_70 rfl ?_
    refine z_geti hC wf_X8_123 dX8_goTime_71 ltM_0 layM_0 rfl ?_
    refine z_if_ne hC 186 dX8_goTime_74 (by decide) (fun h11 => ?_) (fun h11 => ?_)
    · exact z_leaf (hx a0.1 a0.2)
    · refine z_iload_n hC dX8_goTime_77 rfl ?_
      refine z_iload hC dX8_goTime_78 rfl ?_
      refine z_iadd hC dX8_goTime_80 ?_
      refine z_sipush hC dX8_goTime_81 ks_1440 ?_
      refine z_irem hC dX8_goTime_84 (by decide) ?_
      refine z_istore hC dX8_goTime_85 (lv' := [some (.ref (ad 0)), some (.int c1), some (.int c2), some (.int c3), some (.int a0.1), some (.int ((c3 + a0.1) - (c3 + a0.1) / 1440 * 1440)), none]) (by decide) rfl ?_
      refine z_iconst hC dX8_goTime_87 ki_0 ?_
      refine z_istore hC dX8_goTime_88 (lv' := [some (.ref (ad 0)), some (.int c1), some (.int c2), some (.int c3), some (.int a0.1), some (.int ((c3 + a0.1) - (c3 + a0.1) / 1440 * 1440)), some (.int 0)]) (by decide) rfl ?_
      refine z_lpb (lvf := fun z : Int32 × zS => [some (.ref (ad 0)), some (.int c1), some (.int c2), some (.int c3), some (.int a0.1), some (.int ((c3 + a0.1) - (c3 + a0.1) / 1440 * 1440)), some (.int z.1)]) (sg := fun z => z.2) (x := 180) zfuel (0, a0.2) rfl rfl (fun z K hc hx => t_X8_goTime_L90 hC c1 c2 c3 a0.1 ((c3 + a0.1) - (c3 + a0.1) / 1440 * 1440) z K (fun x0 s' => hc (x0, s')) (fun x0 s' => hx (x0, s'))) (fun a34 => ?_)
      refine z_iinc hC dX8_goTime_180 (lv' := [some (.ref (ad 0)), some (.int c1), some (.int c2), some (.int c3), some (.int (a0.1 + 1)), some (.int ((c3 + a0.1) - (c3 + a0.1) / 1440 * 1440)), some (.int a34.1)]) rfl (by decide) ki_1 rfl ?_
      refine z_goto hC 64 dX8_goTime_183 (by decide) ?_
      refine z_forget [5, 6] (lv' := [some (.ref (ad 0)), some (.int c1), some (.int c2), some (.int c3), some (.int (a0.1 + 1)), none, none]) rfl ?_
      exact z_leaf (hc (a0.1 + 1) a34.2)
set_option maxRecDepth 100000 in
set_option maxHeartbeats 4000000 in
theorem w_X8_goTime {Γ : zG} {ad : Nat → Nat} (hC : zX Γ layM nM ad cX8_goTime RX8 7 (zRm 3 66) none) (σ : zS) : zK Γ layM nM ad 7 none 0 [some (.ref (ad 0)), none, none, none, none, none, none] [] σ (f_X8_goTime σ) some := by
  unfold f_X8_goTime
  refine z_aload_n hC dX8_goTime_0 rfl ?_
  refine z_geti hC wf_X8_16 dX8_goTime_1 ltM_0 layM_0 rfl ?_
  refine z_aload_n hC dX8_goTime_4 rfl ?_
  refine z_getr hC wf_X8_7 dX8_goTime_5 ltM_0 layM_0 rfl ?_
  refine z_iconst hC dX8_goTime_8 ki_3 ?_
  refine z_iald hC dX8_goTime_9 ltM_1 layM_1 (fun h1 => ?_)
  refine z_iadd hC dX8_goTime_10 ?_
  refine z_istore_n hC dX8_goTime_11 (lv' := [some (.ref (ad 0)), some (.int ((σ 0 3) + (σ 1 (3 : Int32).toNatClampNeg))), none, none, none, none, none]) (by decide) rfl ?_
  refine z_aload_n hC dX8_goTime_12 rfl ?_
  refine z_getr hC wf_X8_7 dX8_goTime_13 ltM_0 layM_0 rfl ?_
  refine z_iconst hC dX8_goTime_16 ki_1 ?_
  refine z_iald hC dX8_goTime_17 ltM_1 layM_1 (fun h2 => ?_)
  refine z_istore_n hC dX8_goTime_18 (lv' := [some (.ref (ad 0)), some (.int ((σ 0 3) + (σ 1 (3 : Int32).toNatClampNeg))), some (.int (σ 1 (1 : Int32).toNatClampNeg)), none, none, none, none]) (by decide) rfl ?_
  refine z_aload_n hC dX8_goTime_19 rfl ?_
  refine z_getr hC wf_X8_7 dX8_goTime_20 ltM_0 layM_0 rfl ?_
  refine z_iconst hC dX8_goTime_23 ki_0 ?_
  refine z_iald hC dX8_goTime_24 ltM_1 layM_1 (fun h3 => ?_)
  refine z_istore_n hC dX8_goTime_25 (lv' := [some (.ref (ad 0)), some (.int ((σ 0 3) + (σ 1 (3 : Int32).toNatClampNeg))), some (.int (σ 1 (1 : Int32).toNatClampNeg)), some (.int (σ 1 (0 : Int32).toNatClampNeg)), none, none, none]) (by decide) rfl ?_
  refine z_aload_n hC dX8_goTime_26 rfl ?_
  refine z_getr hC wf_X8_7 dX8_goTime_27 ltM_0 layM_0 rfl ?_
  refine z_iconst hC dX8_goTime_30 ki_3 ?_
  refine z_iconst hC dX8_goTime_31 ki_0 ?_
  refine z_iast hC dX8_goTime_32 ltM_1 layM_1 (fun h4 => ?_)
  refine z_let (fun σ5 _ => ?_)
  refine z_aload_n hC dX8_goTime_33 rfl ?_
  refine z_getr hC wf_X8_7 dX8_goTime_34 ltM_0 layM_0 rfl ?_
  refine z_iconst hC dX8_goTime_37 ki_0 ?_
  refine z_iload_n hC dX8_goTime_38 rfl ?_
  refine z_iload_n hC dX8_goTime_39 rfl ?_
  refine z_iadd hC dX8_goTime_40 ?_
  refine z_sipush hC dX8_goTime_41 ks_1440 ?_
  refine z_irem hC dX8_goTime_44 (by decide) ?_
  refine z_iast hC dX8_goTime_45 ltM_1 layM_1 (fun h6 => ?_)
  refine z_let (fun σ7 _ => ?_)
  refine z_aload_n hC dX8_goTime_46 rfl ?_
  refine z_getr hC wf_X8_7 dX8_goTime_47 ltM_0 layM_0 rfl ?_
  refine z_iconst hC dX8_goTime_50 ki_1 ?_
  refine z_iload_n hC dX8_goTime_51 rfl ?_
  refine z_iload_n hC dX8_goTime_52 rfl ?_
  refine z_iload_n hC dX8_goTime_53 rfl ?_
  refine z_iadd hC dX8_goTime_54 ?_
  refine z_sipush hC dX8_goTime_55 ks_1440 ?_
  refine z_idiv hC dX8_goTime_58 (by decide) ?_
  refine z_iadd hC dX8_goTime_59 ?_
  refine z_iast hC dX8_goTime_60 ltM_1 layM_1 (fun h8 => ?_)
  refine z_let (fun σ9 _ => ?_)
  refine z_iconst hC dX8_goTime_61 ki_1 ?_
  refine z_istore hC dX8_goTime_62 (lv' := [some (.ref (ad 0)), some (.int ((σ 0 3) + (σ 1 (3 : Int32).toNatClampNeg))), some (.int (σ 1 (1 : Int32).toNatClampNeg)), some (.int (σ 1 (0 : Int32).toNatClampNeg)), some (.int 1), none, none]) (by decide) rfl ?_
  refine z_lpb (lvf := fun z : Int32 × zS => [some (.ref (ad 0)), some (.int ((σ 0 3) + (σ 1 (3 : Int32).toNatClampNeg))), some (.int (σ 1 (1 : Int32).toNatClampNeg)), some (.int (σ 1 (0 : Int32).toNatClampNeg)), some (.int z.1), none, none]) (sg := fun z => z.2) (x := 186) zfuel (1, σ9) rfl rfl (fun z K hc hx => t_X8_goTime_L64 hC ((σ 0 3) + (σ 1 (3 : Int32).toNatClampNeg)) (σ 1 (1 : Int32).toNatClampNeg) (σ 1 (0 : Int32).toNatClampNeg) z K (fun x0 s' => hc (x0, s')) (fun x0 s' => hx (x0, s'))) (fun a35 => ?_)
  exact z_vret hC dX8_goTime_186
theorem c_X8_goTime : zM layM nM yX8_goTime cX8_goTime 7 none (zRm 3 66) (fun ad => [.ref (ad 0)]) (f_X8_goTime) := zM_of (own := RX8) (by decide) rfl (fun ad w hw => by simp only [List.mem_cons, List.not_mem_nil, or_false] at hw; (first | exact hw.elim | (rcases hw with rfl <;> rfl))) (fun ad => Nat.le_of_ble_eq_true rfl) (fun Γ ad hC σ => w_X8_goTime hC σ)
