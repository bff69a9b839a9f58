set_option maxRecDepth 100000 in
set_option maxHeartbeats 4000000 in
theorem w_X8_timer {Γ : zG} {ad : Nat → Nat} (hC : zX Γ layM nM ad cX8_timer RX8 4 (zRm 2 43) (some .int)) (p1 : Int32) (p2 : Int32) (p3 : Int32) (σ : zS) : zK Γ layM nM ad 4 (some .int) 0 [some (.ref (ad 0)), some (.int p1), some (.int p2), some (.int p3)] [] σ (f_X8_timer p1 p2 p3 σ) some := by
  unfold f_X8_timer
  refine z_iload_n hC dX8_timer_0 rfl ?_
  refine z_aload_n hC dX8_timer_1 rfl ?_
  refine z_geti hC wf_X8_99 dX8_timer_2 ltM_0 layM_0 rfl ?_
  refine z_callSi hC [.int p1, .int (σ 0 9)] (c_X8_isOf p1 (σ 0 9)) yy_X8_isOf wl_X8_89 dX8_timer_5 rfl rfl rfl (Nat.le_of_ble_eq_true rfl) (by decide) (fun r1 σ2 _ => ?_)
  refine z_if_ne hC 14 dX8_timer_8 (by decide) (fun h3 => ?_) (fun h3 => ?_)
  · refine z_iload_n hC dX8_timer_14 rfl ?_
    refine z_iconst hC dX8_timer_15 ki_1 ?_
    refine z_bipush hC dX8_timer_16 kb_50 ?_
    refine z_callSi hC [.int p2, .int 1, .int 50] (c_X8_in p2 1 50) yy_X8_in wl_X8_78 dX8_timer_18 rfl rfl rfl (Nat.le_of_ble_eq_true rfl) (by decide) (fun r4 σ5 _ => ?_)
    refine z_if_ne hC 27 dX8_timer_21 (by decide) (fun h6 => ?_) (fun h6 => ?_)
    · refine z_aload_n hC dX8_timer_27 rfl ?_
      refine z_geti hC wf_X8_105 dX8_timer_28 ltM_0 layM_0 rfl ?_
      refine z_bipush hC dX8_timer_31 kb_12 ?_
      refine z_icmp_ne hC 39 dX8_timer_33 (by decide) (fun h7 => ?_) (fun h7 => ?_)
      · refine z_aload_n hC dX8_timer_39 rfl ?_
        refine z_getr hC wf_X8_51 dX8_timer_40 ltM_0 layM_0 rfl ?_
        refine z_aload_n hC dX8_timer_43 rfl ?_
        refine z_geti hC wf_X8_105 dX8_timer_44 ltM_0 layM_0 rfl ?_
        refine z_iload_n hC dX8_timer_47 rfl ?_
        refine z_iast hC dX8_timer_48 ltM_13 layM_13 (fun h8 => ?_)
        refine z_let (fun σ9 _ => ?_)
        refine z_aload_n hC dX8_timer_49 rfl ?_
        refine z_getr hC wf_X8_54 dX8_timer_50 ltM_0 layM_0 rfl ?_
        refine z_aload_n hC dX8_timer_53 rfl ?_
        refine z_geti hC wf_X8_105 dX8_timer_54 ltM_0 layM_0 rfl ?_
        refine z_iload_n hC dX8_timer_57 rfl ?_
        refine z_iast hC dX8_timer_58 ltM_14 layM_14 (fun h10 => ?_)
        refine z_let (fun σ11 _ => ?_)
        refine z_aload_n hC dX8_timer_59 rfl ?_
        refine z_getr hC wf_X8_57 dX8_timer_60 ltM_0 layM_0 rfl ?_
        refine z_aload_n hC dX8_timer_63 rfl ?_
        refine z_geti hC wf_X8_105 dX8_timer_64 ltM_0 layM_0 rfl ?_
        refine z_iload_n hC dX8_timer_67 rfl ?_
        refine z_zast hC dX8_timer_68 ltM_15 layM_15 (fun h12 => ?_)
        refine z_let (fun σ13 _ => ?_)
        refine z_aload_n hC dX8_timer_69 rfl ?_
        refine z_getr hC wf_X8_7 dX8_timer_70 ltM_0 layM_0 rfl ?_
        refine z_bipush hC dX8_timer_73 kb_47 ?_
        refine z_aload_n hC dX8_timer_75 rfl ?_
        refine z_geti hC wf_X8_105 dX8_timer_76 ltM_0 layM_0 rfl ?_
        refine z_iadd hC dX8_timer_79 ?_
        refine z_iconst hC dX8_timer_80 ki_0 ?_
        refine z_iast hC dX8_timer_81 ltM_1 layM_1 (fun h14 => ?_)
        refine z_let (fun σ15 _ => ?_)
        refine z_aload_n hC dX8_timer_82 rfl ?_
        refine z_dup hC dX8_timer_83 rfl ?_
        refine z_geti hC wf_X8_105 dX8_timer_84 ltM_0 layM_0 rfl ?_
        refine z_iconst hC dX8_timer_87 ki_1 ?_
        refine z_iadd hC dX8_timer_88 ?_
        refine z_puti hC wp_X8_105 dX8_timer_89 ltM_0 layM_0 rfl ?_
        refine z_let (fun σ16 _ => ?_)
        refine z_aload_n hC dX8_timer_92 rfl ?_
        refine z_aload_n hC dX8_timer_93 rfl ?_
        refine z_geti hC wf_X8_105 dX8_timer_94 ltM_0 layM_0 rfl ?_
        refine z_iconst hC dX8_timer_97 ki_1 ?_
        refine z_isub hC dX8_timer_98 ?_
        refine z_callVi hC [.int ((σ16 0 19) - 1)] (c_X8_changed ((σ16 0 19) - 1)) yy_X8_changed wl_X8_85 dX8_timer_99 ltM_0 layM_0 vcz_X8 rfl rfl rfl (Nat.le_of_ble_eq_true rfl) (by decide) (fun r17 σ18 _ => ?_)
        exact z_iret hC dX8_timer_102
      · refine z_bipush hC dX8_timer_36 kb_m5 ?_
        exact z_iret hC dX8_timer_38
    · refine z_bipush hC dX8_timer_24 kb_m3 ?_
      exact z_iret hC dX8_timer_26
  · refine z_bipush hC dX8_timer_11 kb_m2 ?_
    exact z_iret hC dX8_timer_13
theorem c_X8_timer (p1 : Int32) (p2 : Int32) (p3 : Int32) : zM layM nM yX8_timer cX8_timer 4 (some .int) (zRm 2 43) (fun ad => [.ref (ad 0), .int p1, .int p2, .int p3]) (f_X8_timer p1 p2 p3) := zM_of (own := RX8) (by decide) rfl (fun ad w hw => by simp only [List.mem_cons, List.not_mem_nil, or_false] at hw; (first | exact hw.elim | (rcases hw with rfl | rfl | rfl | rfl <;> rfl))) (fun ad => Nat.le_of_ble_eq_true rfl) (fun Γ ad hC σ => w_X8_timer hC p1 p2 p3 σ)
set_option maxRecDepth 100000 in
set_option maxHeartbeats 4000000 in
theorem w_X8_told {Γ : zG} {ad : Nat → Nat} (hC : zX Γ layM nM ad cX8_told RX8 2 (zRm 0 0) (some .int)) (p1 : Int32) (σ : zS) : zK Γ layM nM ad 2 (some .int) 0 [some (.ref (ad 0)), some (.int p1)] [] σ (f_X8_told p1 σ) some := by
  unfold f_X8_told
  refine z_iload_n hC dX8_told_0 rfl ?_
  refine z_ite (fun h1 => ?_) (fun h1 => ?_)
  · refine z_tabIn hC 40 dX8_told_1 0 h1 (by decide) (by decide) rfl (by decide) ?_
    refine z_aload_n hC dX8_told_40 rfl ?_
    refine z_getr hC wf_X8_7 dX8_told_41 ltM_0 layM_0 rfl ?_
    refine z_iconst hC dX8_told_44 ki_0 ?_
    refine z_iald hC dX8_told_45 ltM_1 layM_1 (fun h2 => ?_)
    exact z_iret hC dX8_told_46
  refine z_ite (fun h3 => ?_) (fun h3 => ?_)
  · refine z_tabIn hC 47 dX8_told_1 1 h3 (by decide) (by decide) rfl (by decide) ?_
    refine z_aload_n hC dX8_told_47 rfl ?_
    refine z_getr hC wf_X8_7 dX8_told_48 ltM_0 layM_0 rfl ?_
    refine z_iconst hC dX8_told_51 ki_1 ?_
    refine z_iald hC dX8_told_52 ltM_1 layM_1 (fun h4 => ?_)
    exact z_iret hC dX8_told_53
  refine z_ite (fun h5 => ?_) (fun h5 => ?_)
  · refine z_tabIn hC 54 dX8_told_1 2 h5 (by decide) (by decide) rfl (by decide) ?_
    refine z_aload_n hC dX8_told_54 rfl ?_
    refine z_getr hC wf_X8_7 dX8_told_55 ltM_0 layM_0 rfl ?_
    refine z_iconst hC dX8_told_58 ki_2 ?_
    refine z_iald hC dX8_told_59 ltM_1 layM_1 (fun h6 => ?_)
    exact z_iret hC dX8_told_60
  refine z_ite (fun h7 => ?_) (fun h7 => ?_)
  · refine z_tabIn hC 61 dX8_told_1 3 h7 (by decide) (by decide) rfl (by decide) ?_
    refine z_aload_n hC dX8_told_61 rfl ?_
    refine z_geti hC wf_X8_16 dX8_told_62 ltM_0 layM_0 rfl ?_
    exact z_iret hC dX8_told_65
  refine z_ite (fun h8 => ?_) (fun h8 => ?_)
  · refine z_tabIn hC 66 dX8_told_1 4 h8 (by decide) (by decide) rfl (by decide) ?_
    refine z_aload_n hC dX8_told_66 rfl ?_
    refine z_getr hC wf_X8_7 dX8_told_67 ltM_0 layM_0 rfl ?_
    refine z_iconst hC dX8_told_70 ki_3 ?_
    refine z_iald hC dX8_told_71 ltM_1 layM_1 (fun h9 => ?_)
    exact z_iret hC dX8_told_72
  refine z_ite (fun h10 => ?_) (fun h10 => ?_)
  · refine z_tabIn hC 73 dX8_told_1 5 h10 (by decide) (by decide) rfl (by decide) ?_
    refine z_aload_n hC dX8_told_73 rfl ?_
    refine z_geti hC wf_X8_75 dX8_told_74 ltM_0 layM_0 rfl ?_
    exact z_iret hC dX8_told_77
  refine z_tabOut hC 78 dX8_told_1 (by have := And.intro (lv_neT h1 (a := 0) (by decide)) (And.intro (lv_neT h3 (a := 1) (by decide)) (And.intro (lv_neT h5 (a := 2) (by decide)) (And.intro (lv_neT h7 (a := 3) (by decide)) (And.intro (lv_neT h8 (a := 4) (by decide)) (lv_neT h10 (a := 5) (by decide)))))); omega) (by decide) ?_
  refine z_iload_n hC dX8_told_78 rfl ?_
  refine z_bipush hC dX8_told_79 kb_6 ?_
  refine z_icmp_ne hC 94 dX8_told_81 (by decide) (fun h11 => ?_) (fun h11 => ?_)
  · refine z_bipush hC dX8_told_94 kb_m3 ?_
    exact z_iret hC dX8_told_96
  · refine z_aload_n hC dX8_told_84 rfl ?_
    refine z_getr hC wf_X8_7 dX8_told_85 ltM_0 layM_0 rfl ?_
    refine z_bipush hC dX8_told_88 kb_71 ?_
    refine z_iald hC dX8_told_90 ltM_1 layM_1 (fun h12 => ?_)
    refine z_goto hC 96 dX8_told_91 (by decide) ?_
    exact z_iret hC dX8_told_96
theorem c_X8_told (p1 : Int32) : zM layM nM yX8_told cX8_told 2 (some .int) (zRm 0 0) (fun ad => [.ref (ad 0), .int p1]) (f_X8_told p1) := zM_of (own := RX8) (by decide) rfl (fun ad w hw => by simp only [List.mem_cons, List.not_mem_nil, or_false] at hw; (first | exact hw.elim | (rcases hw with rfl | rfl <;> rfl))) (fun ad => Nat.le_of_ble_eq_true rfl) (fun Γ ad hC σ => w_X8_told hC p1 σ)
set_option maxRecDepth 100000 in
set_option maxHeartbeats 4000000 in
theorem t_X8_turn_L48 {Γ : zG} {ad : Nat → Nat} (hC : zX Γ layM nM ad cX8_turn RX8 2 (zRm 4 92) (some .int)) (a0 : Int32 × zS) (K : Bool × (Int32 × zS) → Option (Int32 × zS)) (hc : ∀ (x0 : Int32) (s' : zS), zZ Γ layM nM ad 2 (some .int) 48 [some (.ref (ad 0)), some (.int x0)] [] s' (K (true, (x0, s')))) (hx : ∀ (x0 : Int32) (s' : zS), zZ Γ layM nM ad 2 (some .int) 82 [some (.ref (ad 0)), some (.int x0)] [] s' (K (false, (x0, s')))) : zK Γ layM nM ad 2 (some .int) 48 [some (.ref (ad 0)), some (.int a0.1)] [] (a0.2) (b_X8_turn_L48 a0) K := by
  unfold b_X8_turn_L48
  refine z_iload_n hC dX8_turn_48 rfl ?_
  refine z_sipush hC dX8_turn_49 ks_192 ?_
  refine z_icmp_ge hC 82 dX8_turn_52 (by decide) (fun h2 => ?_) (fun h2 => ?_)
  · exact z_leaf (hx a0.1 a0.2)
  · refine z_aload_n hC dX8_turn_55 rfl ?_
    refine z_getr hC wf_X8_13 dX8_turn_56 ltM_0 layM_0 rfl ?_
    refine z_sipush hC dX8_turn_59 ks_192 ?_
    refine z_aload_n hC dX8_turn_62 rfl ?_
    refine z_geti hC wf_X8_75 dX8_turn_63 ltM_0 layM_0 rfl ?_
    refine z_imul hC dX8_turn_66 ?_
    refine z_iload_n hC dX8_turn_67 rfl ?_
    refine z_iadd hC dX8_turn_68 ?_
    refine z_aload_n hC dX8_turn_69 rfl ?_
    refine z_getr hC wf_X8_7 dX8_turn_70 ltM_0 layM_0 rfl ?_
    refine z_iload_n hC dX8_turn_73 rfl ?_
    refine z_iald hC dX8_turn_74 ltM_1 layM_1 (fun h3 => ?_)
    refine z_iast hC dX8_turn_75 ltM_2 layM_2 (fun h4 => ?_)
    refine z_let (fun σ5 _ => ?_)
    refine z_iinc hC dX8_turn_76 (lv' := [some (.ref (ad 0)), some (.int (a0.1 + 1))]) rfl (by decide) ki_1 rfl ?_
    refine z_goto hC 48 dX8_turn_79 (by decide) ?_
    exact z_leaf (hc (a0.1 + 1) σ5)
set_option maxRecDepth 100000 in
set_option maxHeartbeats 4000000 in
theorem q_X8_turn_J46 {Γ : zG} {ad : Nat → Nat} (hC : zX Γ layM nM ad cX8_turn RX8 2 (zRm 4 92) (some .int)) (σ : zS) : zK Γ layM nM ad 2 (some .int) 46 [some (.ref (ad 0)), none] [] σ (j_X8_turn_J46 σ) some := by
  unfold j_X8_turn_J46
  refine z_iconst hC dX8_turn_46 ki_0 ?_
  refine z_istore_n hC dX8_turn_47 (lv' := [some (.ref (ad 0)), some (.int 0)]) (by decide) rfl ?_
  refine z_lpb (lvf := fun z : Int32 × zS => [some (.ref (ad 0)), some (.int z.1)]) (sg := fun z => z.2) (x := 82) zfuel (0, σ) rfl rfl (fun z K hc hx => t_X8_turn_L48 hC z K (fun x0 s' => hc (x0, s')) (fun x0 s' => hx (x0, s'))) (fun a6 => ?_)
  refine z_aload_n hC dX8_turn_82 rfl ?_
  refine z_dup hC dX8_turn_83 rfl ?_
  refine z_geti hC wf_X8_75 dX8_turn_84 ltM_0 layM_0 rfl ?_
  refine z_iconst hC dX8_turn_87 ki_1 ?_
  refine z_iadd hC dX8_turn_88 ?_
  refine z_puti hC wp_X8_75 dX8_turn_89 ltM_0 layM_0 rfl ?_
  refine z_let (fun σ7 _ => ?_)
  refine z_aload_n hC dX8_turn_92 rfl ?_
  refine z_iconst hC dX8_turn_93 ki_1 ?_
  refine z_putz hC wp_X8_119 (by decide) dX8_turn_94 ltM_0 layM_0 rfl ?_
  refine z_let (fun σ8 _ => ?_)
  refine z_aload_n hC dX8_turn_97 rfl ?_
  refine z_iconst hC dX8_turn_98 ki_0 ?_
  refine z_putz hC wp_X8_123 (by decide) dX8_turn_99 ltM_0 layM_0 rfl ?_
  refine z_let (fun σ9 _ => ?_)
  refine z_aload_n hC dX8_turn_102 rfl ?_
  refine z_iconst hC dX8_turn_103 ki_0 ?_
  refine z_puti hC wp_X8_130 dX8_turn_104 ltM_0 layM_0 rfl ?_
  refine z_let (fun σ10 _ => ?_)
  refine z_aload_n hC dX8_turn_107 rfl ?_
  refine z_getr hC wf_X8_7 dX8_turn_108 ltM_0 layM_0 rfl ?_
  refine z_bipush hC dX8_turn_111 kb_71 ?_
  refine z_iconst hC dX8_turn_113 ki_0 ?_
  refine z_iast hC dX8_turn_114 ltM_1 layM_1 (fun h11 => ?_)
  refine z_let (fun σ12 _ => ?_)
  refine z_aload_n hC dX8_turn_115 rfl ?_
  refine z_getr hC wf_X8_7 dX8_turn_116 ltM_0 layM_0 rfl ?_
  refine z_iconst hC dX8_turn_119 ki_2 ?_
  refine z_dup2 hC dX8_turn_120 rfl rfl ?_
  refine z_iald hC dX8_turn_121 ltM_1 layM_1 (fun h13 => ?_)
  refine z_iconst hC dX8_turn_122 ki_1 ?_
  refine z_iadd hC dX8_turn_123 ?_
  refine z_iast hC dX8_turn_124 ltM_1 layM_1 (fun h14 => ?_)
  refine z_let (fun σ15 _ => ?_)
  refine z_aload_n hC dX8_turn_125 rfl ?_
  refine z_callVv hC [] c_X8_goTime yy_X8_goTime wl_X8_146 dX8_turn_126 ltM_0 layM_0 vcz_X8 rfl rfl rfl (Nat.le_of_ble_eq_true rfl) (by decide) (fun r16 σ17 _ => ?_)
  refine z_aload_n hC dX8_turn_129 rfl ?_
  refine z_callVv hC [] c_X8_goTimers yy_X8_goTimers wl_X8_149 dX8_turn_130 ltM_0 layM_0 vcz_X8 rfl rfl rfl (Nat.le_of_ble_eq_true rfl) (by decide) (fun r18 σ19 _ => ?_)
  refine z_aload_n hC dX8_turn_133 rfl ?_
  refine z_callVv hC [] c_X8_goDaemons yy_X8_goDaemons wl_X8_152 dX8_turn_134 ltM_0 layM_0 vcz_X8 rfl rfl rfl (Nat.le_of_ble_eq_true rfl) (by decide) (fun r20 σ21 _ => ?_)
  refine z_aload_n hC dX8_turn_137 rfl ?_
  refine z_callVv hC [] c_X8_goWalkers yy_X8_goWalkers wl_X8_155 dX8_turn_138 ltM_0 layM_0 vcz_X8 rfl rfl rfl (Nat.le_of_ble_eq_true rfl) (by decide) (fun r22 σ23 _ => ?_)
  refine z_aload_n hC dX8_turn_141 rfl ?_
  refine z_iconst hC dX8_turn_142 ki_0 ?_
  refine z_putz hC wp_X8_119 (by decide) dX8_turn_143 ltM_0 layM_0 rfl ?_
  refine z_let (fun σ24 _ => ?_)
  refine z_aload_n hC dX8_turn_146 rfl ?_
  refine z_iconst hC dX8_turn_147 ki_0 ?_
  refine z_putz hC wp_X8_123 (by decide) dX8_turn_148 ltM_0 layM_0 rfl ?_
  refine z_let (fun σ25 _ => ?_)
  refine z_aload_n hC dX8_turn_151 rfl ?_
  refine z_geti hC wf_X8_130 dX8_turn_152 ltM_0 layM_0 rfl ?_
  exact z_iret hC dX8_turn_155
set_option maxRecDepth 100000 in
set_option maxHeartbeats 4000000 in
theorem t_X8_turn_L11 {Γ : zG} {ad : Nat → Nat} (hC : zX Γ layM nM ad cX8_turn RX8 2 (zRm 4 92) (some .int)) (a0 : Int32 × zS) (K : Bool × (Int32 × zS) → Option (Int32 × zS)) (hc : ∀ (x0 : Int32) (s' : zS), zZ Γ layM nM ad 2 (some .int) 11 [some (.ref (ad 0)), some (.int x0)] [] s' (K (true, (x0, s')))) (hx : ∀ (x0 : Int32) (s' : zS), zZ Γ layM nM ad 2 (some .int) 40 [some (.ref (ad 0)), some (.int x0)] [] s' (K (false, (x0, s')))) : zK Γ layM nM ad 2 (some .int) 11 [some (.ref (ad 0)), some (.int a0.1)] [] (a0.2) (b_X8_turn_L11 a0) K := by
  unfold b_X8_turn_L11
  refine z_iload_n hC dX8_turn_11 rfl ?_
  refine z_sipush hC dX8_turn_12 ks_1344 ?_
  refine z_icmp_ge hC 40 dX8_turn_15 (by decide) (fun h26 => ?_) (fun h26 => ?_)
  · exact z_leaf (hx a0.1 a0.2)
  · refine z_aload_n hC dX8_turn_18 rfl ?_
    refine z_getr hC wf_X8_13 dX8_turn_19 ltM_0 layM_0 rfl ?_
    refine z_iload_n hC dX8_turn_22 rfl ?_
    refine z_aload_n hC dX8_turn_23 rfl ?_
    refine z_getr hC wf_X8_13 dX8_turn_24 ltM_0 layM_0 rfl ?_
    refine z_iload_n hC dX8_turn_27 rfl ?_
    refine z_sipush hC dX8_turn_28 ks_192 ?_
    refine z_iadd hC dX8_turn_31 ?_
    refine z_iald hC dX8_turn_32 ltM_2 layM_2 (fun h27 => ?_)
    refine z_iast hC dX8_turn_33 ltM_2 layM_2 (fun h28 => ?_)
    refine z_let (fun σ29 _ => ?_)
    refine z_iinc hC dX8_turn_34 (lv' := [some (.ref (ad 0)), some (.int (a0.1 + 1))]) rfl (by decide) ki_1 rfl ?_
    refine z_goto hC 11 dX8_turn_37 (by decide) ?_
    exact z_leaf (hc (a0.1 + 1) σ29)
set_option maxRecDepth 100000 in
set_option maxHeartbeats 4000000 in
theorem w_X8_turn {Γ : zG} {ad : Nat → Nat} (hC : zX Γ layM nM ad cX8_turn RX8 2 (zRm 4 92) (some .int)) (σ : zS) : zK Γ layM nM ad 2 (some .int) 0 [some (.ref (ad 0)), none] [] σ (f_X8_turn σ) some := by
  unfold f_X8_turn
  refine z_aload_n hC dX8_turn_0 rfl ?_
  refine z_geti hC wf_X8_75 dX8_turn_1 ltM_0 layM_0 rfl ?_
  refine z_bipush hC dX8_turn_4 kb_8 ?_
  refine z_icmp_ne hC 46 dX8_turn_6 (by decide) (fun h1 => ?_) (fun h1 => ?_)
  · exact q_X8_turn_J46 hC σ
  · refine z_iconst hC dX8_turn_9 ki_0 ?_
    refine z_istore_n hC dX8_turn_10 (lv' := [some (.ref (ad 0)), some (.int 0)]) (by decide) rfl ?_
    refine z_lpb (lvf := fun z : Int32 × zS => [some (.ref (ad 0)), some (.int z.1)]) (sg := fun z => z.2) (x := 40) zfuel (0, σ) rfl rfl (fun z K hc hx => t_X8_turn_L11 hC z K (fun x0 s' => hc (x0, s')) (fun x0 s' => hx (x0, s'))) (fun a30 => ?_)
    refine z_aload_n hC dX8_turn_40 rfl ?_
    refine z_bipush hC dX8_turn_41 kb_7 ?_
    refine z_puti hC wp_X8_75 dX8_turn_43 ltM_0 layM_0 rfl ?_
    refine z_let (fun σ31 _ => ?_)
    refine z_forget [1] (lv' := [some (.ref (ad 0)), none]) rfl ?_
    exact q_X8_turn_J46 hC σ31
theorem c_X8_turn : zM layM nM yX8_turn cX8_turn 2 (some .int) (zRm 4 92) (fun ad => [.ref (ad 0)]) (f_X8_turn) := zM_of (own := RX8) (by decide) rfl (fun ad w hw => by simp only [List.mem_cons, List.not_mem_nil, or_false] at hw; (first | exact hw.elim | (rcases hw with rfl <;> rfl))) (fun ad => Nat.le_of_ble_eq_true rfl) (fun Γ ad hC σ => w_X8_turn hC σ)
set_option maxRecDepth 100000 in
set_option maxHeartbeats 4000000 in
theorem w_X8_walker {Γ : zG} {ad : Nat → Nat} (hC : zX Γ layM nM ad cX8_walker RX8 2 (zRm 2 43) (some .int)) (p1 : Int32) (σ : zS) : zK Γ layM nM ad 2 (some .int) 0 [some (.ref (ad 0)), some (.int p1)] [] σ (f_X8_walker p1 σ) some := by
  unfold f_X8_walker
  refine z_iload_n hC dX8_walker_0 rfl ?_
  refine z_aload_n hC dX8_walker_1 rfl ?_
  refine z_geti hC wf_X8_82 dX8_walker_2 ltM_0 layM_0 rfl ?_
  refine z_callSi hC [.int p1, .int (σ 0 4)] (c_X8_isOf p1 (σ 0 4)) yy_X8_isOf wl_X8_89 dX8_walker_5 rfl rfl rfl (Nat.le_of_ble_eq_true rfl) (by decide) (fun r1 σ2 _ => ?_)
  refine z_if_ne hC 14 dX8_walker_8 (by decide) (fun h3 => ?_) (fun h3 => ?_)
  · refine z_aload_n hC dX8_walker_14 rfl ?_
    refine z_geti hC wf_X8_96 dX8_walker_15 ltM_0 layM_0 rfl ?_
    refine z_iconst hC dX8_walker_18 ki_4 ?_
    refine z_icmp_ne hC 25 dX8_walker_19 (by decide) (fun h4 => ?_) (fun h4 => ?_)
    · refine z_aload_n hC dX8_walker_25 rfl ?_
      refine z_getr hC wf_X8_7 dX8_walker_26 ltM_0 layM_0 rfl ?_
      refine z_bipush hC dX8_walker_29 kb_27 ?_
      refine z_aload_n hC dX8_walker_31 rfl ?_
      refine z_geti hC wf_X8_96 dX8_walker_32 ltM_0 layM_0 rfl ?_
      refine z_iadd hC dX8_walker_35 ?_
      refine z_iload_n hC dX8_walker_36 rfl ?_
      refine z_iast hC dX8_walker_37 ltM_1 layM_1 (fun h5 => ?_)
      refine z_let (fun σ6 _ => ?_)
      refine z_aload_n hC dX8_walker_38 rfl ?_
      refine z_getr hC wf_X8_7 dX8_walker_39 ltM_0 layM_0 rfl ?_
      refine z_bipush hC dX8_walker_42 kb_31 ?_
      refine z_aload_n hC dX8_walker_44 rfl ?_
      refine z_geti hC wf_X8_96 dX8_walker_45 ltM_0 layM_0 rfl ?_
      refine z_iadd hC dX8_walker_48 ?_
      refine z_iconst hC dX8_walker_49 ki_m1 ?_
      refine z_iast hC dX8_walker_50 ltM_1 layM_1 (fun h7 => ?_)
      refine z_let (fun σ8 _ => ?_)
      refine z_aload_n hC dX8_walker_51 rfl ?_
      refine z_dup hC dX8_walker_52 rfl ?_
      refine z_geti hC wf_X8_96 dX8_walker_53 ltM_0 layM_0 rfl ?_
      refine z_iconst hC dX8_walker_56 ki_1 ?_
      refine z_iadd hC dX8_walker_57 ?_
      refine z_puti hC wp_X8_96 dX8_walker_58 ltM_0 layM_0 rfl ?_
      refine z_let (fun σ9 _ => ?_)
      refine z_aload_n hC dX8_walker_61 rfl ?_
      refine z_aload_n hC dX8_walker_62 rfl ?_
      refine z_geti hC wf_X8_96 dX8_walker_63 ltM_0 layM_0 rfl ?_
      refine z_iconst hC dX8_walker_66 ki_1 ?_
      refine z_isub hC dX8_walker_67 ?_
      refine z_callVi hC [.int ((σ9 0 8) - 1)] (c_X8_changed ((σ9 0 8) - 1)) yy_X8_changed wl_X8_85 dX8_walker_68 ltM_0 layM_0 vcz_X8 rfl rfl rfl (Nat.le_of_ble_eq_true rfl) (by decide) (fun r10 σ11 _ => ?_)
      exact z_iret hC dX8_walker_71
    · refine z_bipush hC dX8_walker_22 kb_m5 ?_
      exact z_iret hC dX8_walker_24
  · refine z_bipush hC dX8_walker_11 kb_m2 ?_
    exact z_iret hC dX8_walker_13
theorem c_X8_walker (p1 : Int32) : zM layM nM yX8_walker cX8_walker 2 (some .int) (zRm 2 43) (fun ad => [.ref (ad 0), .int p1]) (f_X8_walker p1) := zM_of (own := RX8) (by decide) rfl (fun ad w hw => by simp only [List.mem_cons, List.not_mem_nil, or_false] at hw; (first | exact hw.elim | (rcases hw with rfl | rfl <;> rfl))) (fun ad => Nat.le_of_ble_eq_true rfl) (fun Γ ad hC σ => w_X8_walker hC p1 σ)
set_option maxRecDepth 100000 in
set_option maxHeartbeats 4000000 in
theorem w_X8_walks {Γ : zG} {ad : Nat → Nat} (hC : zX Γ layM nM ad cX8_walks RX8 3 (zRm 2 43) (some .int)) (p1 : Int32) (p2 : Int32) (σ : zS) : zK Γ layM nM ad 3 (some .int) 0 [some (.ref (ad 0)), some (.int p1), some (.int p2)] [] σ (f_X8_walks p1 p2 σ) some := by
  unfold f_X8_walks
  refine z_iload_n hC dX8_walks_0 rfl ?_
  refine z_aload_n hC dX8_walks_1 rfl ?_
  refine z_geti hC wf_X8_96 dX8_walks_2 ltM_0 layM_0 rfl ?_
  refine z_callSi hC [.int p1, .int (σ 0 8)] (c_X8_isOf p1 (σ 0 8)) yy_X8_isOf wl_X8_89 dX8_walks_5 rfl rfl rfl (Nat.le_of_ble_eq_true rfl) (by decide) (fun r1 σ2 _ => ?_)
  refine z_if_ne hC 14 dX8_walks_8 (by decide) (fun h3 => ?_) (fun h3 => ?_)
  · refine z_iload_n hC dX8_walks_14 rfl ?_
    refine z_if_ne hC 30 dX8_walks_15 (by decide) (fun h4 => ?_) (fun h4 => ?_)
    · refine z_iload_n hC dX8_walks_30 rfl ?_
      refine z_iconst hC dX8_walks_31 ki_1 ?_
      refine z_icmp_ne hC 47 dX8_walks_32 (by decide) (fun h5 => ?_) (fun h5 => ?_)
      · refine z_bipush hC dX8_walks_47 kb_m3 ?_
        exact z_iret hC dX8_walks_49
      · refine z_aload_n hC dX8_walks_35 rfl ?_
        refine z_getr hC wf_X8_7 dX8_walks_36 ltM_0 layM_0 rfl ?_
        refine z_bipush hC dX8_walks_39 kb_31 ?_
        refine z_iload_n hC dX8_walks_41 rfl ?_
        refine z_iadd hC dX8_walks_42 ?_
        refine z_iald hC dX8_walks_43 ltM_1 layM_1 (fun h6 => ?_)
        refine z_goto hC 49 dX8_walks_44 (by decide) ?_
        exact z_iret hC dX8_walks_49
    · refine z_aload_n hC dX8_walks_18 rfl ?_
      refine z_getr hC wf_X8_7 dX8_walks_19 ltM_0 layM_0 rfl ?_
      refine z_bipush hC dX8_walks_22 kb_27 ?_
      refine z_iload_n hC dX8_walks_24 rfl ?_
      refine z_iadd hC dX8_walks_25 ?_
      refine z_iald hC dX8_walks_26 ltM_1 layM_1 (fun h7 => ?_)
      refine z_goto hC 49 dX8_walks_27 (by decide) ?_
      exact z_iret hC dX8_walks_49
  · refine z_bipush hC dX8_walks_11 kb_m2 ?_
    exact z_iret hC dX8_walks_13
theorem c_X8_walks (p1 : Int32) (p2 : Int32) : zM layM nM yX8_walks cX8_walks 3 (some .int) (zRm 2 43) (fun ad => [.ref (ad 0), .int p1, .int p2]) (f_X8_walks p1 p2) := zM_of (own := RX8) (by decide) rfl (fun ad w hw => by simp only [List.mem_cons, List.not_mem_nil, or_false] at hw; (first | exact hw.elim | (rcases hw with rfl | rfl | rfl <;> rfl))) (fun ad => Nat.le_of_ble_eq_true rfl) (fun Γ ad hC σ => w_X8_walks hC p1 p2 σ)
set_option maxRecDepth 100000 in
set_option maxHeartbeats 4000000 in
theorem w_X8_way {Γ : zG} {ad : Nat → Nat} (hC : zX Γ layM nM ad cX8_way RX8 3 (zRm 2 45) (some .int)) (p1 : Int32) (p2 : Int32) (σ : zS) : zK Γ layM nM ad 3 (some .int) 0 [some (.ref (ad 0)), some (.int p1), some (.int p2)] [] σ (f_X8_way p1 p2 σ) some := by
  unfold f_X8_way
  refine z_iload_n hC dX8_way_0 rfl ?_
  refine z_aload_n hC dX8_way_1 rfl ?_
  refine z_geti hC wf_X8_82 dX8_way_2 ltM_0 layM_0 rfl ?_
  refine z_callSi hC [.int p1, .int (σ 0 4)] (c_X8_isOf p1 (σ 0 4)) yy_X8_isOf wl_X8_89 dX8_way_5 rfl rfl rfl (Nat.le_of_ble_eq_true rfl) (by decide) (fun r1 σ2 _ => ?_)
  refine z_if_eq hC 22 dX8_way_8 (by decide) (fun h3 => ?_) (fun h3 => ?_)
  · refine z_bipush hC dX8_way_22 kb_m2 ?_
    exact z_iret hC dX8_way_24
  · refine z_iload_n hC dX8_way_11 rfl ?_
    refine z_aload_n hC dX8_way_12 rfl ?_
    refine z_geti hC wf_X8_82 dX8_way_13 ltM_0 layM_0 rfl ?_
    refine z_callSi hC [.int p2, .int (σ2 0 4)] (c_X8_isOf p2 (σ2 0 4)) yy_X8_isOf wl_X8_89 dX8_way_16 rfl rfl rfl (Nat.le_of_ble_eq_true rfl) (by decide) (fun r4 σ5 _ => ?_)
    refine z_if_ne hC 25 dX8_way_19 (by decide) (fun h6 => ?_) (fun h6 => ?_)
    · refine z_aload_n hC dX8_way_25 rfl ?_
      refine z_iload_n hC dX8_way_26 rfl ?_
      refine z_callVv hC [.int p2] (c_X8_findWays p2) yy_X8_findWays wl_X8_140 dX8_way_27 ltM_0 layM_0 vcz_X8 rfl rfl rfl (Nat.le_of_ble_eq_true rfl) (by decide) (fun r7 σ8 _ => ?_)
      refine z_aload_n hC dX8_way_30 rfl ?_
      refine z_getr hC wf_X8_72 dX8_way_31 ltM_0 layM_0 rfl ?_
      refine z_iload_n hC dX8_way_34 rfl ?_
      refine z_iald hC dX8_way_35 ltM_20 layM_20 (fun h9 => ?_)
      exact z_iret hC dX8_way_36
    · refine z_bipush hC dX8_way_22 kb_m2 ?_
      exact z_iret hC dX8_way_24
theorem c_X8_way (p1 : Int32) (p2 : Int32) : zM layM nM yX8_way cX8_way 3 (some .int) (zRm 2 45) (fun ad => [.ref (ad 0), .int p1, .int p2]) (f_X8_way p1 p2) := zM_of (own := RX8) (by decide) rfl (fun ad w hw => by simp only [List.mem_cons, List.not_mem_nil, or_false] at hw; (first | exact hw.elim | (rcases hw with rfl | rfl | rfl <;> rfl))) (fun ad => Nat.le_of_ble_eq_true rfl) (fun Γ ad hC σ => w_X8_way hC p1 p2 σ)
