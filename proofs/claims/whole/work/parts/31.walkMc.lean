set_option maxRecDepth 100000 in
set_option maxHeartbeats 4000000 in
theorem t_X8_goTimers_L2 {Γ : zG} {ad : Nat → Nat} (hC : zX Γ layM nM ad cX8_goTimers RX8 2 (zRm 3 66) none) (a0 : Int32 × zS) (K : Bool × (Int32 × zS) → Option (Int32 × zS)) (hc : ∀ (x0 : Int32) (s' : zS), zZ Γ layM nM ad 2 none 2 [some (.ref (ad 0)), some (.int x0)] [] s' (K (true, (x0, s')))) (hx : ∀ (x0 : Int32) (s' : zS), zZ Γ layM nM ad 2 none 46 [some (.ref (ad 0)), some (.int x0)] [] s' (K (false, (x0, s')))) : zK Γ layM nM ad 2 none 2 [some (.ref (ad 0)), some (.int a0.1)] [] (a0.2) (b_X8_goTimers_L2 a0) K := by
  unfold b_X8_goTimers_L2
  refine z_iload_n hC dX8_goTimers_2 rfl ?_
  refine z_aload_n hC dX8_goTimers_3 rfl ?_
  refine z_geti hC wf_X8_105 dX8_goTimers_4 ltM_0 layM_0 rfl ?_
  refine z_icmp_ge hC 46 dX8_goTimers_7 (by decide) (fun h1 => ?_) (fun h1 => ?_)
  · exact z_leaf (hx a0.1 a0.2)
  · refine z_aload_n hC dX8_goTimers_10 rfl ?_
    refine z_getr hC wf_X8_69 dX8_goTimers_11 ltM_0 layM_0 rfl ?_
    refine z_iload_n hC dX8_goTimers_14 rfl ?_
    refine z_aload_n hC dX8_goTimers_15 rfl ?_
    refine z_getr hC wf_X8_7 dX8_goTimers_16 ltM_0 layM_0 rfl ?_
    refine z_bipush hC dX8_goTimers_19 kb_47 ?_
    refine z_iload_n hC dX8_goTimers_21 rfl ?_
    refine z_iadd hC dX8_goTimers_22 ?_
    refine z_iald hC dX8_goTimers_23 ltM_1 layM_1 (fun h2 => ?_)
    refine z_if_le hC 31 dX8_goTimers_24 (by decide) (fun h3 => ?_) (fun h3 => ?_)
    · refine z_iconst hC dX8_goTimers_31 ki_0 ?_
      refine z_zast hC dX8_goTimers_32 ltM_19 layM_19 (fun h4 => ?_)
      refine z_let (fun σ5 _ => ?_)
      refine z_aload_n hC dX8_goTimers_33 rfl ?_
      refine z_getr hC wf_X8_66 dX8_goTimers_34 ltM_0 layM_0 rfl ?_
      refine z_iload_n hC dX8_goTimers_37 rfl ?_
      refine z_iconst hC dX8_goTimers_38 ki_0 ?_
      refine z_zast hC dX8_goTimers_39 ltM_18 layM_18 (fun h6 => ?_)
      refine z_let (fun σ7 _ => ?_)
      refine z_iinc hC dX8_goTimers_40 (lv' := [some (.ref (ad 0)), some (.int (a0.1 + 1))]) rfl (by decide) ki_1 rfl ?_
      refine z_goto hC 2 dX8_goTimers_43 (by decide) ?_
      exact z_leaf (hc (a0.1 + 1) σ7)
    · refine z_iconst hC dX8_goTimers_27 ki_1 ?_
      refine z_goto hC 32 dX8_goTimers_28 (by decide) ?_
      refine z_zast hC dX8_goTimers_32 ltM_19 layM_19 (fun h8 => ?_)
      refine z_let (fun σ9 _ => ?_)
      refine z_aload_n hC dX8_goTimers_33 rfl ?_
      refine z_getr hC wf_X8_66 dX8_goTimers_34 ltM_0 layM_0 rfl ?_
      refine z_iload_n hC dX8_goTimers_37 rfl ?_
      refine z_iconst hC dX8_goTimers_38 ki_0 ?_
      refine z_zast hC dX8_goTimers_39 ltM_18 layM_18 (fun h10 => ?_)
      refine z_let (fun σ11 _ => ?_)
      refine z_iinc hC dX8_goTimers_40 (lv' := [some (.ref (ad 0)), some (.int (a0.1 + 1))]) rfl (by decide) ki_1 rfl ?_
      refine z_goto hC 2 dX8_goTimers_43 (by decide) ?_
      exact z_leaf (hc (a0.1 + 1) σ11)
set_option maxRecDepth 100000 in
set_option maxHeartbeats 4000000 in
theorem t_X8_goTimers_L48 {Γ : zG} {ad : Nat → Nat} (hC : zX Γ layM nM ad cX8_goTimers RX8 2 (zRm 3 66) none) (a0 : Int32 × zS) (K : Bool × (Int32 × zS) → Option (Int32 × zS)) (hc : ∀ (x0 : Int32) (s' : zS), zZ Γ layM nM ad 2 none 48 [some (.ref (ad 0)), some (.int x0)] [] s' (K (true, (x0, s')))) (hx : ∀ (x0 : Int32) (s' : zS), zZ Γ layM nM ad 2 none 168 [some (.ref (ad 0)), some (.int x0)] [] s' (K (false, (x0, s')))) : zK Γ layM nM ad 2 none 48 [some (.ref (ad 0)), some (.int a0.1)] [] (a0.2) (b_X8_goTimers_L48 a0) K := by
  unfold b_X8_goTimers_L48
  refine z_iload_n hC dX8_goTimers_48 rfl ?_
  refine z_aload_n hC dX8_goTimers_49 rfl ?_
  refine z_geti hC wf_X8_105 dX8_goTimers_50 ltM_0 layM_0 rfl ?_
  refine z_icmp_ge hC 168 dX8_goTimers_53 (by decide) (fun h13 => ?_) (fun h13 => ?_)
  · exact z_leaf (hx a0.1 a0.2)
  · refine z_aload_n hC dX8_goTimers_56 rfl ?_
    refine z_geti hC wf_X8_123 dX8_goTimers_57 ltM_0 layM_0 rfl ?_
    refine z_if_ne hC 168 dX8_goTimers_60 (by decide) (fun h14 => ?_) (fun h14 => ?_)
    · exact z_leaf (hx a0.1 a0.2)
    · refine z_aload_n hC dX8_goTimers_63 rfl ?_
      refine z_getr hC wf_X8_69 dX8_goTimers_64 ltM_0 layM_0 rfl ?_
      refine z_iload_n hC dX8_goTimers_67 rfl ?_
      refine z_zald hC dX8_goTimers_68 ltM_19 layM_19 (fun h15 => ?_)
      refine z_if_eq hC 162 dX8_goTimers_69 (by decide) (fun h16 => ?_) (fun h16 => ?_)
      · refine z_iinc hC dX8_goTimers_162 (lv' := [some (.ref (ad 0)), some (.int (a0.1 + 1))]) rfl (by decide) ki_1 rfl ?_
        refine z_goto hC 48 dX8_goTimers_165 (by decide) ?_
        exact z_leaf (hc (a0.1 + 1) a0.2)
      · refine z_aload_n hC dX8_goTimers_72 rfl ?_
        refine z_getr hC wf_X8_66 dX8_goTimers_73 ltM_0 layM_0 rfl ?_
        refine z_iload_n hC dX8_goTimers_76 rfl ?_
        refine z_zald hC dX8_goTimers_77 ltM_18 layM_18 (fun h17 => ?_)
        refine z_if_ne hC 162 dX8_goTimers_78 (by decide) (fun h18 => ?_) (fun h18 => ?_)
        · refine z_iinc hC dX8_goTimers_162 (lv' := [some (.ref (ad 0)), some (.int (a0.1 + 1))]) rfl (by decide) ki_1 rfl ?_
          refine z_goto hC 48 dX8_goTimers_165 (by decide) ?_
          exact z_leaf (hc (a0.1 + 1) a0.2)
        · refine z_aload_n hC dX8_goTimers_81 rfl ?_
          refine z_getr hC wf_X8_7 dX8_goTimers_82 ltM_0 layM_0 rfl ?_
          refine z_bipush hC dX8_goTimers_85 kb_47 ?_
          refine z_iload_n hC dX8_goTimers_87 rfl ?_
          refine z_iadd hC dX8_goTimers_88 ?_
          refine z_iald hC dX8_goTimers_89 ltM_1 layM_1 (fun h19 => ?_)
          refine z_if_le hC 162 dX8_goTimers_90 (by decide) (fun h20 => ?_) (fun h20 => ?_)
          · refine z_iinc hC dX8_goTimers_162 (lv' := [some (.ref (ad 0)), some (.int (a0.1 + 1))]) rfl (by decide) ki_1 rfl ?_
            refine z_goto hC 48 dX8_goTimers_165 (by decide) ?_
            exact z_leaf (hc (a0.1 + 1) a0.2)
          · refine z_aload_n hC dX8_goTimers_93 rfl ?_
            refine z_getr hC wf_X8_7 dX8_goTimers_94 ltM_0 layM_0 rfl ?_
            refine z_bipush hC dX8_goTimers_97 kb_47 ?_
            refine z_iload_n hC dX8_goTimers_99 rfl ?_
            refine z_iadd hC dX8_goTimers_100 ?_
            refine z_dup2 hC dX8_goTimers_101 rfl rfl ?_
            refine z_iald hC dX8_goTimers_102 ltM_1 layM_1 (fun h21 => ?_)
            refine z_iconst hC dX8_goTimers_103 ki_1 ?_
            refine z_isub hC dX8_goTimers_104 ?_
            refine z_iast hC dX8_goTimers_105 ltM_1 layM_1 (fun h22 => ?_)
            refine z_let (fun σ23 _ => ?_)
            refine z_aload_n hC dX8_goTimers_106 rfl ?_
            refine z_getr hC wf_X8_7 dX8_goTimers_107 ltM_0 layM_0 rfl ?_
            refine z_bipush hC dX8_goTimers_110 kb_47 ?_
            refine z_iload_n hC dX8_goTimers_112 rfl ?_
            refine z_iadd hC dX8_goTimers_113 ?_
            refine z_iald hC dX8_goTimers_114 ltM_1 layM_1 (fun h24 => ?_)
            refine z_if_ne hC 162 dX8_goTimers_115 (by decide) (fun h25 => ?_) (fun h25 => ?_)
            · refine z_iinc hC dX8_goTimers_162 (lv' := [some (.ref (ad 0)), some (.int (a0.1 + 1))]) rfl (by decide) ki_1 rfl ?_
              refine z_goto hC 48 dX8_goTimers_165 (by decide) ?_
              exact z_leaf (hc (a0.1 + 1) σ23)
            · refine z_aload_n hC dX8_goTimers_118 rfl ?_
              refine z_getr hC wf_X8_7 dX8_goTimers_119 ltM_0 layM_0 rfl ?_
              refine z_bipush hC dX8_goTimers_122 kb_47 ?_
              refine z_iload_n hC dX8_goTimers_124 rfl ?_
              refine z_iadd hC dX8_goTimers_125 ?_
              refine z_aload_n hC dX8_goTimers_126 rfl ?_
              refine z_getr hC wf_X8_57 dX8_goTimers_127 ltM_0 layM_0 rfl ?_
              refine z_iload_n hC dX8_goTimers_130 rfl ?_
              refine z_zald hC dX8_goTimers_131 ltM_15 layM_15 (fun h26 => ?_)
              refine z_if_eq hC 144 dX8_goTimers_132 (by decide) (fun h27 => ?_) (fun h27 => ?_)
              · refine z_iconst hC dX8_goTimers_144 ki_0 ?_
                refine z_iast hC dX8_goTimers_145 ltM_1 layM_1 (fun h28 => ?_)
                refine z_let (fun σ29 _ => ?_)
                refine z_aload_n hC dX8_goTimers_146 rfl ?_
                refine z_iconst hC dX8_goTimers_147 ki_1 ?_
                refine z_iload_n hC dX8_goTimers_148 rfl ?_
                refine z_callVv hC [.int 1, .int a0.1] (c_X8_tell 1 a0.1) yy_X8_tell wl_X8_133 dX8_goTimers_149 ltM_0 layM_0 vcz_X8 rfl rfl rfl (Nat.le_of_ble_eq_true rfl) (by decide) (fun r30 σ31 _ => ?_)
                refine z_aload_n hC dX8_goTimers_152 rfl ?_
                refine z_aload_n hC dX8_goTimers_153 rfl ?_
                refine z_getr hC wf_X8_51 dX8_goTimers_154 ltM_0 layM_0 rfl ?_
                refine z_iload_n hC dX8_goTimers_157 rfl ?_
                refine z_iald hC dX8_goTimers_158 ltM_13 layM_13 (fun h32 => ?_)
                refine z_callVv hC [.int (σ31 13 a0.1.toNatClampNeg)] (c_X8_perform (σ31 13 a0.1.toNatClampNeg)) yy_X8_perform wl_X8_126 dX8_goTimers_159 ltM_0 layM_0 vcz_X8 rfl rfl rfl (Nat.le_of_ble_eq_true rfl) (by decide) (fun r33 σ34 _ => ?_)
                refine z_iinc hC dX8_goTimers_162 (lv' := [some (.ref (ad 0)), some (.int (a0.1 + 1))]) rfl (by decide) ki_1 rfl ?_
                refine z_goto hC 48 dX8_goTimers_165 (by decide) ?_
                exact z_leaf (hc (a0.1 + 1) σ34)
              · refine z_aload_n hC dX8_goTimers_135 rfl ?_
                refine z_getr hC wf_X8_54 dX8_goTimers_136 ltM_0 layM_0 rfl ?_
                refine z_iload_n hC dX8_goTimers_139 rfl ?_
                refine z_iald hC dX8_goTimers_140 ltM_14 layM_14 (fun h35 => ?_)
                refine z_goto hC 145 dX8_goTimers_141 (by decide) ?_
                refine z_iast hC dX8_goTimers_145 ltM_1 layM_1 (fun h36 => ?_)
                refine z_let (fun σ37 _ => ?_)
                refine z_aload_n hC dX8_goTimers_146 rfl ?_
                refine z_iconst hC dX8_goTimers_147 ki_1 ?_
                refine z_iload_n hC dX8_goTimers_148 rfl ?_
                refine z_callVv hC [.int 1, .int a0.1] (c_X8_tell 1 a0.1) yy_X8_tell wl_X8_133 dX8_goTimers_149 ltM_0 layM_0 vcz_X8 rfl rfl rfl (Nat.le_of_ble_eq_true rfl) (by decide) (fun r38 σ39 _ => ?_)
                refine z_aload_n hC dX8_goTimers_152 rfl ?_
                refine z_aload_n hC dX8_goTimers_153 rfl ?_
                refine z_getr hC wf_X8_51 dX8_goTimers_154 ltM_0 layM_0 rfl ?_
                refine z_iload_n hC dX8_goTimers_157 rfl ?_
                refine z_iald hC dX8_goTimers_158 ltM_13 layM_13 (fun h40 => ?_)
                refine z_callVv hC [.int (σ39 13 a0.1.toNatClampNeg)] (c_X8_perform (σ39 13 a0.1.toNatClampNeg)) yy_X8_perform wl_X8_126 dX8_goTimers_159 ltM_0 layM_0 vcz_X8 rfl rfl rfl (Nat.le_of_ble_eq_true rfl) (by decide) (fun r41 σ42 _ => ?_)
                refine z_iinc hC dX8_goTimers_162 (lv' := [some (.ref (ad 0)), some (.int (a0.1 + 1))]) rfl (by decide) ki_1 rfl ?_
                refine z_goto hC 48 dX8_goTimers_165 (by decide) ?_
                exact z_leaf (hc (a0.1 + 1) σ42)
set_option maxRecDepth 100000 in
set_option maxHeartbeats 4000000 in
theorem w_X8_goTimers {Γ : zG} {ad : Nat → Nat} (hC : zX Γ layM nM ad cX8_goTimers RX8 2 (zRm 3 66) none) (σ : zS) : zK Γ layM nM ad 2 none 0 [some (.ref (ad 0)), none] [] σ (f_X8_goTimers σ) some := by
  unfold f_X8_goTimers
  refine z_iconst hC dX8_goTimers_0 ki_0 ?_
  refine z_istore_n hC dX8_goTimers_1 (lv' := [some (.ref (ad 0)), some (.int 0)]) (by decide) rfl ?_
  refine z_lpb (lvf := fun z : Int32 × zS => [some (.ref (ad 0)), some (.int z.1)]) (sg := fun z => z.2) (x := 46) zfuel (0, σ) rfl rfl (fun z K hc hx => t_X8_goTimers_L2 hC z K (fun x0 s' => hc (x0, s')) (fun x0 s' => hx (x0, s'))) (fun a12 => ?_)
  refine z_iconst hC dX8_goTimers_46 ki_0 ?_
  refine z_istore_n hC dX8_goTimers_47 (lv' := [some (.ref (ad 0)), some (.int 0)]) (by decide) rfl ?_
  refine z_lpb (lvf := fun z : Int32 × zS => [some (.ref (ad 0)), some (.int z.1)]) (sg := fun z => z.2) (x := 168) zfuel (0, a12.2) rfl rfl (fun z K hc hx => t_X8_goTimers_L48 hC z K (fun x0 s' => hc (x0, s')) (fun x0 s' => hx (x0, s'))) (fun a43 => ?_)
  exact z_vret hC dX8_goTimers_168
theorem c_X8_goTimers : zM layM nM yX8_goTimers cX8_goTimers 2 none (zRm 3 66) (fun ad => [.ref (ad 0)]) (f_X8_goTimers) := zM_of (own := RX8) (by decide) rfl (fun ad w hw => by simp only [List.mem_cons, List.not_mem_nil, or_false] at hw; (first | exact hw.elim | (rcases hw with rfl <;> rfl))) (fun ad => Nat.le_of_ble_eq_true rfl) (fun Γ ad hC σ => w_X8_goTimers hC σ)
set_option maxRecDepth 100000 in
set_option maxHeartbeats 4000000 in
theorem q_X8_isJoined_J63 {Γ : zG} {ad : Nat → Nat} (hC : zX Γ layM nM ad cX8_isJoined RX8 6 (zRm 0 0) (some .boolean)) (v1 : Int32) (v2 : Int32) (v3 : Int32) (v4 : Int32) (s0 : Int32) (σ : zS) (K : Bool × (Int32 × Int32 × zS) → Option (Int32 × zS)) (hc : ∀ (x0 : Int32) (x1 : Int32) (s' : zS), zZ Γ layM nM ad 6 (some .boolean) 5 [some (.ref (ad 0)), some (.int v1), some (.int v2), some (.int x0), some (.int x1), none] [] s' (K (true, (x0, x1, s')))) (hx : ∀ (x0 : Int32) (x1 : Int32) (s' : zS), zZ Γ layM nM ad 6 (some .boolean) 100 [some (.ref (ad 0)), some (.int v1), some (.int v2), some (.int x0), some (.int x1), none] [] s' (K (false, (x0, x1, s')))) : zK Γ layM nM ad 6 (some .boolean) 63 [some (.ref (ad 0)), some (.int v1), some (.int v2), some (.int v3), some (.int v4), none] [.int s0] σ (j_X8_isJoined_J63 v1 v2 v3 v4 s0 σ) K := by
  unfold j_X8_isJoined_J63
  refine z_istore hC dX8_isJoined_63 (lv' := [some (.ref (ad 0)), some (.int v1), some (.int v2), some (.int v3), some (.int v4), some (.int s0)]) (by decide) rfl ?_
  refine z_iload_n hC dX8_isJoined_65 rfl ?_
  refine z_if_ne hC 88 dX8_isJoined_66 (by decide) (fun h6 => ?_) (fun h6 => ?_)
  · refine z_iconst hC dX8_isJoined_88 ki_1 ?_
    refine z_goto hC 93 dX8_isJoined_89 (by decide) ?_
    refine z_istore_n hC dX8_isJoined_93 (lv' := [some (.ref (ad 0)), some (.int v1), some (.int v2), some (.int 1), some (.int v4), some (.int s0)]) (by decide) rfl ?_
    refine z_iinc hC dX8_isJoined_94 (lv' := [some (.ref (ad 0)), some (.int v1), some (.int v2), some (.int 1), some (.int (v4 + 1)), some (.int s0)]) rfl (by decide) ki_1 rfl ?_
    refine z_goto hC 5 dX8_isJoined_97 (by decide) ?_
    refine z_forget [5] (lv' := [some (.ref (ad 0)), some (.int v1), some (.int v2), some (.int 1), some (.int (v4 + 1)), none]) rfl ?_
    exact z_leaf (hc 1 (v4 + 1) σ)
  · refine z_iload hC dX8_isJoined_69 rfl ?_
    refine z_if_eq hC 92 dX8_isJoined_71 (by decide) (fun h7 => ?_) (fun h7 => ?_)
    · refine z_iconst hC dX8_isJoined_92 ki_0 ?_
      refine z_istore_n hC dX8_isJoined_93 (lv' := [some (.ref (ad 0)), some (.int v1), some (.int v2), some (.int 0), some (.int v4), some (.int s0)]) (by decide) rfl ?_
      refine z_iinc hC dX8_isJoined_94 (lv' := [some (.ref (ad 0)), some (.int v1), some (.int v2), some (.int 0), some (.int (v4 + 1)), some (.int s0)]) rfl (by decide) ki_1 rfl ?_
      refine z_goto hC 5 dX8_isJoined_97 (by decide) ?_
      refine z_forget [5] (lv' := [some (.ref (ad 0)), some (.int v1), some (.int v2), some (.int 0), some (.int (v4 + 1)), none]) rfl ?_
      exact z_leaf (hc 0 (v4 + 1) σ)
    · refine z_aload_n hC dX8_isJoined_74 rfl ?_
      refine z_getr hC wf_X8_7 dX8_isJoined_75 ltM_0 layM_0 rfl ?_
      refine z_bipush hC dX8_isJoined_78 kb_12 ?_
      refine z_iload hC dX8_isJoined_80 rfl ?_
      refine z_iadd hC dX8_isJoined_82 ?_
      refine z_iald hC dX8_isJoined_83 ltM_1 layM_1 (fun h8 => ?_)
      refine z_iconst hC dX8_isJoined_84 ki_1 ?_
      refine z_icmp_ne hC 92 dX8_isJoined_85 (by decide) (fun h9 => ?_) (fun h9 => ?_)
      · refine z_iconst hC dX8_isJoined_92 ki_0 ?_
        refine z_istore_n hC dX8_isJoined_93 (lv' := [some (.ref (ad 0)), some (.int v1), some (.int v2), some (.int 0), some (.int v4), some (.int s0)]) (by decide) rfl ?_
        refine z_iinc hC dX8_isJoined_94 (lv' := [some (.ref (ad 0)), some (.int v1), some (.int v2), some (.int 0), some (.int (v4 + 1)), some (.int s0)]) rfl (by decide) ki_1 rfl ?_
        refine z_goto hC 5 dX8_isJoined_97 (by decide) ?_
        refine z_forget [5] (lv' := [some (.ref (ad 0)), some (.int v1), some (.int v2), some (.int 0), some (.int (v4 + 1)), none]) rfl ?_
        exact z_leaf (hc 0 (v4 + 1) σ)
      · refine z_iconst hC dX8_isJoined_88 ki_1 ?_
        refine z_goto hC 93 dX8_isJoined_89 (by decide) ?_
        refine z_istore_n hC dX8_isJoined_93 (lv' := [some (.ref (ad 0)), some (.int v1), some (.int v2), some (.int 1), some (.int v4), some (.int s0)]) (by decide) rfl ?_
        refine z_iinc hC dX8_isJoined_94 (lv' := [some (.ref (ad 0)), some (.int v1), some (.int v2), some (.int 1), some (.int (v4 + 1)), some (.int s0)]) rfl (by decide) ki_1 rfl ?_
        refine z_goto hC 5 dX8_isJoined_97 (by decide) ?_
        refine z_forget [5] (lv' := [some (.ref (ad 0)), some (.int v1), some (.int v2), some (.int 1), some (.int (v4 + 1)), none]) rfl ?_
        exact z_leaf (hc 1 (v4 + 1) σ)
set_option maxRecDepth 100000 in
set_option maxHeartbeats 4000000 in
theorem q_X8_isJoined_J62 {Γ : zG} {ad : Nat → Nat} (hC : zX Γ layM nM ad cX8_isJoined RX8 6 (zRm 0 0) (some .boolean)) (v1 : Int32) (v2 : Int32) (v3 : Int32) (v4 : Int32) (σ : zS) (K : Bool × (Int32 × Int32 × zS) → Option (Int32 × zS)) (hc : ∀ (x0 : Int32) (x1 : Int32) (s' : zS), zZ Γ layM nM ad 6 (some .boolean) 5 [some (.ref (ad 0)), some (.int v1), some (.int v2), some (.int x0), some (.int x1), none] [] s' (K (true, (x0, x1, s')))) (hx : ∀ (x0 : Int32) (x1 : Int32) (s' : zS), zZ Γ layM nM ad 6 (some .boolean) 100 [some (.ref (ad 0)), some (.int v1), some (.int v2), some (.int x0), some (.int x1), none] [] s' (K (false, (x0, x1, s')))) : zK Γ layM nM ad 6 (some .boolean) 62 [some (.ref (ad 0)), some (.int v1), some (.int v2), some (.int v3), some (.int v4), none] [] σ (j_X8_isJoined_J62 v1 v2 v3 v4 σ) K := by
  unfold j_X8_isJoined_J62
  refine z_iconst hC dX8_isJoined_62 ki_0 ?_
  exact q_X8_isJoined_J63 hC v1 v2 v3 v4 0 σ K hc hx
set_option maxRecDepth 100000 in
set_option maxHeartbeats 4000000 in
theorem q_X8_isJoined_J58 {Γ : zG} {ad : Nat → Nat} (hC : zX Γ layM nM ad cX8_isJoined RX8 6 (zRm 0 0) (some .boolean)) (v1 : Int32) (v2 : Int32) (v3 : Int32) (v4 : Int32) (σ : zS) (K : Bool × (Int32 × Int32 × zS) → Option (Int32 × zS)) (hc : ∀ (x0 : Int32) (x1 : Int32) (s' : zS), zZ Γ layM nM ad 6 (some .boolean) 5 [some (.ref (ad 0)), some (.int v1), some (.int v2), some (.int x0), some (.int x1), none] [] s' (K (true, (x0, x1, s')))) (hx : ∀ (x0 : Int32) (x1 : Int32) (s' : zS), zZ Γ layM nM ad 6 (some .boolean) 100 [some (.ref (ad 0)), some (.int v1), some (.int v2), some (.int x0), some (.int x1), none] [] s' (K (false, (x0, x1, s')))) : zK Γ layM nM ad 6 (some .boolean) 58 [some (.ref (ad 0)), some (.int v1), some (.int v2), some (.int v3), some (.int v4), none] [] σ (j_X8_isJoined_J58 v1 v2 v3 v4 σ) K := by
  unfold j_X8_isJoined_J58
  refine z_iconst hC dX8_isJoined_58 ki_1 ?_
  refine z_goto hC 63 dX8_isJoined_59 (by decide) ?_
  exact q_X8_isJoined_J63 hC v1 v2 v3 v4 1 σ K hc hx
set_option maxRecDepth 100000 in
set_option maxHeartbeats 4000000 in
theorem q_X8_isJoined_J36 {Γ : zG} {ad : Nat → Nat} (hC : zX Γ layM nM ad cX8_isJoined RX8 6 (zRm 0 0) (some .boolean)) (v1 : Int32) (v2 : Int32) (v3 : Int32) (v4 : Int32) (σ : zS) (K : Bool × (Int32 × Int32 × zS) → Option (Int32 × zS)) (hc : ∀ (x0 : Int32) (x1 : Int32) (s' : zS), zZ Γ layM nM ad 6 (some .boolean) 5 [some (.ref (ad 0)), some (.int v1), some (.int v2), some (.int x0), some (.int x1), none] [] s' (K (true, (x0, x1, s')))) (hx : ∀ (x0 : Int32) (x1 : Int32) (s' : zS), zZ Γ layM nM ad 6 (some .boolean) 100 [some (.ref (ad 0)), some (.int v1), some (.int v2), some (.int x0), some (.int x1), none] [] s' (K (false, (x0, x1, s')))) : zK Γ layM nM ad 6 (some .boolean) 36 [some (.ref (ad 0)), some (.int v1), some (.int v2), some (.int v3), some (.int v4), none] [] σ (j_X8_isJoined_J36 v1 v2 v3 v4 σ) K := by
  unfold j_X8_isJoined_J36
  refine z_aload_n hC dX8_isJoined_36 rfl ?_
  refine z_getr hC wf_X8_20 dX8_isJoined_37 ltM_0 layM_0 rfl ?_
  refine z_iload hC dX8_isJoined_40 rfl ?_
  refine z_iald hC dX8_isJoined_42 ltM_3 layM_3 (fun h4 => ?_)
  refine z_iload_n hC dX8_isJoined_43 rfl ?_
  refine z_icmp_ne hC 62 dX8_isJoined_44 (by decide) (fun h5 => ?_) (fun h5 => ?_)
  · exact q_X8_isJoined_J62 hC v1 v2 v3 v4 σ K hc hx
  · refine z_aload_n hC dX8_isJoined_47 rfl ?_
    refine z_getr hC wf_X8_23 dX8_isJoined_48 ltM_0 layM_0 rfl ?_
    refine z_iload hC dX8_isJoined_51 rfl ?_
    refine z_iald hC dX8_isJoined_53 ltM_4 layM_4 (fun h10 => ?_)
    refine z_iload_n hC dX8_isJoined_54 rfl ?_
    refine z_icmp_ne hC 62 dX8_isJoined_55 (by decide) (fun h11 => ?_) (fun h11 => ?_)
    · exact q_X8_isJoined_J62 hC v1 v2 v3 v4 σ K hc hx
    · exact q_X8_isJoined_J58 hC v1 v2 v3 v4 σ K hc hx
set_option maxRecDepth 100000 in
set_option maxHeartbeats 4000000 in
theorem t_X8_isJoined_L5 {Γ : zG} {ad : Nat → Nat} (hC : zX Γ layM nM ad cX8_isJoined RX8 6 (zRm 0 0) (some .boolean)) (c1 : Int32) (c2 : Int32) (a0 : Int32 × Int32 × zS) (K : Bool × (Int32 × Int32 × zS) → Option (Int32 × zS)) (hc : ∀ (x0 : Int32) (x1 : Int32) (s' : zS), zZ Γ layM nM ad 6 (some .boolean) 5 [some (.ref (ad 0)), some (.int c1), some (.int c2), some (.int x0), some (.int x1), none] [] s' (K (true, (x0, x1, s')))) (hx : ∀ (x0 : Int32) (x1 : Int32) (s' : zS), zZ Γ layM nM ad 6 (some .boolean) 100 [some (.ref (ad 0)), some (.int c1), some (.int c2), some (.int x0), some (.int x1), none] [] s' (K (false, (x0, x1, s')))) : zK Γ layM nM ad 6 (some .boolean) 5 [some (.ref (ad 0)), some (.int c1), some (.int c2), some (.int a0.1), some (.int a0.2.1), none] [] (a0.2.2) (b_X8_isJoined_L5 c1 c2 a0) K := by
  unfold b_X8_isJoined_L5
  refine z_iload hC dX8_isJoined_5 rfl ?_
  refine z_aload_n hC dX8_isJoined_7 rfl ?_
  refine z_geti hC wf_X8_93 dX8_isJoined_8 ltM_0 layM_0 rfl ?_
  refine z_icmp_ge hC 100 dX8_isJoined_11 (by decide) (fun h1 => ?_) (fun h1 => ?_)
  · exact z_leaf (hx a0.1 a0.2.1 a0.2.2)
  · refine z_aload_n hC dX8_isJoined_14 rfl ?_
    refine z_getr hC wf_X8_20 dX8_isJoined_15 ltM_0 layM_0 rfl ?_
    refine z_iload hC dX8_isJoined_18 rfl ?_
    refine z_iald hC dX8_isJoined_20 ltM_3 layM_3 (fun h2 => ?_)
    refine z_iload_n hC dX8_isJoined_21 rfl ?_
    refine z_icmp_ne hC 36 dX8_isJoined_22 (by decide) (fun h3 => ?_) (fun h3 => ?_)
    · exact q_X8_isJoined_J36 hC c1 c2 a0.1 a0.2.1 a0.2.2 K hc hx
    · refine z_aload_n hC dX8_isJoined_25 rfl ?_
      refine z_getr hC wf_X8_23 dX8_isJoined_26 ltM_0 layM_0 rfl ?_
      refine z_iload hC dX8_isJoined_29 rfl ?_
      refine z_iald hC dX8_isJoined_31 ltM_4 layM_4 (fun h12 => ?_)
      refine z_iload_n hC dX8_isJoined_32 rfl ?_
      refine z_icmp_eq hC 58 dX8_isJoined_33 (by decide) (fun h13 => ?_) (fun h13 => ?_)
      · exact q_X8_isJoined_J58 hC c1 c2 a0.1 a0.2.1 a0.2.2 K hc hx
      · exact q_X8_isJoined_J36 hC c1 c2 a0.1 a0.2.1 a0.2.2 K hc hx
set_option maxRecDepth 100000 in
set_option maxHeartbeats 4000000 in
theorem w_X8_isJoined {Γ : zG} {ad : Nat → Nat} (hC : zX Γ layM nM ad cX8_isJoined RX8 6 (zRm 0 0) (some .boolean)) (p1 : Int32) (p2 : Int32) (σ : zS) : zK Γ layM nM ad 6 (some .boolean) 0 [some (.ref (ad 0)), some (.int p1), some (.int p2), none, none, none] [] σ (f_X8_isJoined p1 p2 σ) some := by
  unfold f_X8_isJoined
  refine z_iconst hC dX8_isJoined_0 ki_0 ?_
  refine z_istore_n hC dX8_isJoined_1 (lv' := [some (.ref (ad 0)), some (.int p1), some (.int p2), some (.int 0), none, none]) (by decide) rfl ?_
  refine z_iconst hC dX8_isJoined_2 ki_0 ?_
  refine z_istore hC dX8_isJoined_3 (lv' := [some (.ref (ad 0)), some (.int p1), some (.int p2), some (.int 0), some (.int 0), none]) (by decide) rfl ?_
  refine z_lpb (lvf := fun z : Int32 × Int32 × zS => [some (.ref (ad 0)), some (.int p1), some (.int p2), some (.int z.1), some (.int z.2.1), none]) (sg := fun z => z.2.2) (x := 100) zfuel (0, 0, σ) rfl rfl (fun z K hc hx => t_X8_isJoined_L5 hC p1 p2 z K (fun x0 x1 s' => hc (x0, x1, s')) (fun x0 x1 s' => hx (x0, x1, s'))) (fun a14 => ?_)
  refine z_iload_n hC dX8_isJoined_100 rfl ?_
  refine z_chk (fun h15 => ?_)
  exact z_zret hC h15 dX8_isJoined_101
theorem c_X8_isJoined (p1 : Int32) (p2 : Int32) : zM layM nM yX8_isJoined cX8_isJoined 6 (some .boolean) (zRm 0 0) (fun ad => [.ref (ad 0), .int p1, .int p2]) (f_X8_isJoined p1 p2) := zM_of (own := RX8) (by decide) rfl (fun ad w hw => by simp only [List.mem_cons, List.not_mem_nil, or_false] at hw; (first | exact hw.elim | (rcases hw with rfl | rfl | rfl <;> rfl))) (fun ad => Nat.le_of_ble_eq_true rfl) (fun Γ ad hC σ => w_X8_isJoined hC p1 p2 σ)
set_option maxRecDepth 100000 in
set_option maxHeartbeats 4000000 in
theorem t_X8_goWalkers_L58 {Γ : zG} {ad : Nat → Nat} (hC : zX Γ layM nM ad cX8_goWalkers RX8 6 (zRm 2 45) none) (c1 : Int32) (c2 : Int32) (c3 : Int32) (a0 : Int32 × Int32 × zS) (K : Bool × (Int32 × Int32 × zS) → Option (Int32 × zS)) (hc : ∀ (x0 : Int32) (x1 : Int32) (s' : zS), zZ Γ layM nM ad 6 none 58 [some (.ref (ad 0)), some (.int c1), some (.int c2), some (.int c3), some (.int x0), some (.int x1)] [] s' (K (true, (x0, x1, s')))) (hx : ∀ (x0 : Int32) (x1 : Int32) (s' : zS), zZ Γ layM nM ad 6 none 120 [some (.ref (ad 0)), some (.int c1), some (.int c2), some (.int c3), some (.int x0), some (.int x1)] [] s' (K (false, (x0, x1, s')))) : zK Γ layM nM ad 6 none 58 [some (.ref (ad 0)), some (.int c1), some (.int c2), some (.int c3), some (.int a0.1), some (.int a0.2.1)] [] (a0.2.2) (b_X8_goWalkers_L58 c1 c2 c3 a0) K := by
  unfold b_X8_goWalkers_L58
  refine z_iload hC dX8_goWalkers_58 rfl ?_
  refine z_if_lt hC 120 dX8_goWalkers_60 (by decide) (fun h6 => ?_) (fun h6 => ?_)
  · exact z_leaf (hx a0.1 a0.2.1 a0.2.2)
  · refine z_iload_n hC dX8_goWalkers_63 rfl ?_
    refine z_iconst hC dX8_goWalkers_64 ki_m1 ?_
    refine z_icmp_eq hC 120 dX8_goWalkers_65 (by decide) (fun h7 => ?_) (fun h7 => ?_)
    · exact z_leaf (hx a0.1 a0.2.1 a0.2.2)
    · refine z_aload_n hC dX8_goWalkers_68 rfl ?_
      refine z_getr hC wf_X8_72 dX8_goWalkers_69 ltM_0 layM_0 rfl ?_
      refine z_iload_n hC dX8_goWalkers_72 rfl ?_
      refine z_iald hC dX8_goWalkers_73 ltM_20 layM_20 (fun h8 => ?_)
      refine z_if_le hC 110 dX8_goWalkers_74 (by decide) (fun h9 => ?_) (fun h9 => ?_)
      · refine z_iload hC dX8_goWalkers_110 rfl ?_
        refine z_istore hC dX8_goWalkers_112 (lv' := [some (.ref (ad 0)), some (.int c1), some (.int c2), some (.int c3), some (.int a0.1), some (.int a0.2.1)]) (by decide) rfl ?_
        refine z_iinc hC dX8_goWalkers_114 (lv' := [some (.ref (ad 0)), some (.int c1), some (.int c2), some (.int c3), some (.int a0.1), some (.int (a0.2.1 + (-1)))]) rfl (by decide) ki_m1 rfl ?_
        refine z_goto hC 58 dX8_goWalkers_117 (by decide) ?_
        exact z_leaf (hc a0.1 (a0.2.1 + (-1)) a0.2.2)
      · refine z_aload_n hC dX8_goWalkers_77 rfl ?_
        refine z_getr hC wf_X8_72 dX8_goWalkers_78 ltM_0 layM_0 rfl ?_
        refine z_iload hC dX8_goWalkers_81 rfl ?_
        refine z_iald hC dX8_goWalkers_83 ltM_20 layM_20 (fun h10 => ?_)
        refine z_aload_n hC dX8_goWalkers_84 rfl ?_
        refine z_getr hC wf_X8_72 dX8_goWalkers_85 ltM_0 layM_0 rfl ?_
        refine z_iload_n hC dX8_goWalkers_88 rfl ?_
        refine z_iald hC dX8_goWalkers_89 ltM_20 layM_20 (fun h11 => ?_)
        refine z_iconst hC dX8_goWalkers_90 ki_1 ?_
        refine z_isub hC dX8_goWalkers_91 ?_
        refine z_icmp_ne hC 110 dX8_goWalkers_92 (by decide) (fun h12 => ?_) (fun h12 => ?_)
        · refine z_iload hC dX8_goWalkers_110 rfl ?_
          refine z_istore hC dX8_goWalkers_112 (lv' := [some (.ref (ad 0)), some (.int c1), some (.int c2), some (.int c3), some (.int a0.1), some (.int a0.2.1)]) (by decide) rfl ?_
          refine z_iinc hC dX8_goWalkers_114 (lv' := [some (.ref (ad 0)), some (.int c1), some (.int c2), some (.int c3), some (.int a0.1), some (.int (a0.2.1 + (-1)))]) rfl (by decide) ki_m1 rfl ?_
          refine z_goto hC 58 dX8_goWalkers_117 (by decide) ?_
          exact z_leaf (hc a0.1 (a0.2.1 + (-1)) a0.2.2)
        · refine z_aload_n hC dX8_goWalkers_95 rfl ?_
          refine z_iload_n hC dX8_goWalkers_96 rfl ?_
          refine z_iload hC dX8_goWalkers_97 rfl ?_
          refine z_callVi hC [.int c3, .int a0.2.1] (c_X8_isJoined c3 a0.2.1) yy_X8_isJoined wl_X8_143 dX8_goWalkers_99 ltM_0 layM_0 vcz_X8 rfl rfl rfl (Nat.le_of_ble_eq_true rfl) (by decide) (fun r13 σ14 _ => ?_)
          refine z_if_eq hC 110 dX8_goWalkers_102 (by decide) (fun h15 => ?_) (fun h15 => ?_)
          · refine z_iload hC dX8_goWalkers_110 rfl ?_
            refine z_istore hC dX8_goWalkers_112 (lv' := [some (.ref (ad 0)), some (.int c1), some (.int c2), some (.int c3), some (.int a0.1), some (.int a0.2.1)]) (by decide) rfl ?_
            refine z_iinc hC dX8_goWalkers_114 (lv' := [some (.ref (ad 0)), some (.int c1), some (.int c2), some (.int c3), some (.int a0.1), some (.int (a0.2.1 + (-1)))]) rfl (by decide) ki_m1 rfl ?_
            refine z_goto hC 58 dX8_goWalkers_117 (by decide) ?_
            exact z_leaf (hc a0.1 (a0.2.1 + (-1)) σ14)
          · refine z_iload hC dX8_goWalkers_105 rfl ?_
            refine z_goto hC 112 dX8_goWalkers_107 (by decide) ?_
            refine z_istore hC dX8_goWalkers_112 (lv' := [some (.ref (ad 0)), some (.int c1), some (.int c2), some (.int c3), some (.int a0.2.1), some (.int a0.2.1)]) (by decide) rfl ?_
            refine z_iinc hC dX8_goWalkers_114 (lv' := [some (.ref (ad 0)), some (.int c1), some (.int c2), some (.int c3), some (.int a0.2.1), some (.int (a0.2.1 + (-1)))]) rfl (by decide) ki_m1 rfl ?_
            refine z_goto hC 58 dX8_goWalkers_117 (by decide) ?_
            exact z_leaf (hc a0.2.1 (a0.2.1 + (-1)) σ14)
set_option maxRecDepth 100000 in
set_option maxHeartbeats 4000000 in
theorem q_X8_goWalkers_J120 {Γ : zG} {ad : Nat → Nat} (hC : zX Γ layM nM ad cX8_goWalkers RX8 6 (zRm 2 45) none) (v1 : Int32) (v2 : Int32) (v3 : Int32) (v4 : Int32) (v5 : Int32) (σ : zS) (K : Bool × (Int32 × zS) → Option (Int32 × zS)) (hc : ∀ (x0 : Int32) (s' : zS), zZ Γ layM nM ad 6 none 2 [some (.ref (ad 0)), some (.int x0), none, none, none, none] [] s' (K (true, (x0, s')))) (hx : ∀ (x0 : Int32) (s' : zS), zZ Γ layM nM ad 6 none 169 [some (.ref (ad 0)), some (.int x0), none, none, none, none] [] s' (K (false, (x0, s')))) : zK Γ layM nM ad 6 none 120 [some (.ref (ad 0)), some (.int v1), some (.int v2), some (.int v3), some (.int v4), some (.int v5)] [] σ (j_X8_goWalkers_J120 v1 v2 v3 v4 v5 σ) K := by
  unfold j_X8_goWalkers_J120
  refine z_iload hC dX8_goWalkers_120 rfl ?_
  refine z_iconst hC dX8_goWalkers_122 ki_m1 ?_
  refine z_icmp_eq hC 163 dX8_goWalkers_123 (by decide) (fun h17 => ?_) (fun h17 => ?_)
  · refine z_iinc hC dX8_goWalkers_163 (lv' := [some (.ref (ad 0)), some (.int (v1 + 1)), some (.int v2), some (.int v3), some (.int v4), some (.int v5)]) rfl (by decide) ki_1 rfl ?_
    refine z_goto hC 2 dX8_goWalkers_166 (by decide) ?_
    refine z_forget [2, 3, 4, 5] (lv' := [some (.ref (ad 0)), some (.int (v1 + 1)), none, none, none, none]) rfl ?_
    exact z_leaf (hc (v1 + 1) σ)
  · refine z_aload_n hC dX8_goWalkers_126 rfl ?_
    refine z_getr hC wf_X8_7 dX8_goWalkers_127 ltM_0 layM_0 rfl ?_
    refine z_bipush hC dX8_goWalkers_130 kb_27 ?_
    refine z_iload_n hC dX8_goWalkers_132 rfl ?_
    refine z_iadd hC dX8_goWalkers_133 ?_
    refine z_iload hC dX8_goWalkers_134 rfl ?_
    refine z_iast hC dX8_goWalkers_136 ltM_1 layM_1 (fun h18 => ?_)
    refine z_let (fun σ19 _ => ?_)
    refine z_aload_n hC dX8_goWalkers_137 rfl ?_
    refine z_getr hC wf_X8_7 dX8_goWalkers_138 ltM_0 layM_0 rfl ?_
    refine z_bipush hC dX8_goWalkers_141 kb_31 ?_
    refine z_iload_n hC dX8_goWalkers_143 rfl ?_
    refine z_iadd hC dX8_goWalkers_144 ?_
    refine z_iload hC dX8_goWalkers_145 rfl ?_
    refine z_iload_n hC dX8_goWalkers_147 rfl ?_
    refine z_icmp_ne hC 155 dX8_goWalkers_148 (by decide) (fun h20 => ?_) (fun h20 => ?_)
    · refine z_iload_n hC dX8_goWalkers_155 rfl ?_
      refine z_iast hC dX8_goWalkers_156 ltM_1 layM_1 (fun h21 => ?_)
      refine z_let (fun σ22 _ => ?_)
      refine z_aload_n hC dX8_goWalkers_157 rfl ?_
      refine z_iconst hC dX8_goWalkers_158 ki_3 ?_
      refine z_iload_n hC dX8_goWalkers_159 rfl ?_
      refine z_callVv hC [.int 3, .int v1] (c_X8_tell 3 v1) yy_X8_tell wl_X8_133 dX8_goWalkers_160 ltM_0 layM_0 vcz_X8 rfl rfl rfl (Nat.le_of_ble_eq_true rfl) (by decide) (fun r23 σ24 _ => ?_)
      refine z_iinc hC dX8_goWalkers_163 (lv' := [some (.ref (ad 0)), some (.int (v1 + 1)), some (.int v2), some (.int v3), some (.int v4), some (.int v5)]) rfl (by decide) ki_1 rfl ?_
      refine z_goto hC 2 dX8_goWalkers_166 (by decide) ?_
      refine z_forget [2, 3, 4, 5] (lv' := [some (.ref (ad 0)), some (.int (v1 + 1)), none, none, none, none]) rfl ?_
      exact z_leaf (hc (v1 + 1) σ24)
    · refine z_iconst hC dX8_goWalkers_151 ki_m1 ?_
      refine z_goto hC 156 dX8_goWalkers_152 (by decide) ?_
      refine z_iast hC dX8_goWalkers_156 ltM_1 layM_1 (fun h25 => ?_)
      refine z_let (fun σ26 _ => ?_)
      refine z_aload_n hC dX8_goWalkers_157 rfl ?_
      refine z_iconst hC dX8_goWalkers_158 ki_3 ?_
      refine z_iload_n hC dX8_goWalkers_159 rfl ?_
      refine z_callVv hC [.int 3, .int v1] (c_X8_tell 3 v1) yy_X8_tell wl_X8_133 dX8_goWalkers_160 ltM_0 layM_0 vcz_X8 rfl rfl rfl (Nat.le_of_ble_eq_true rfl) (by decide) (fun r27 σ28 _ => ?_)
      refine z_iinc hC dX8_goWalkers_163 (lv' := [some (.ref (ad 0)), some (.int (v1 + 1)), some (.int v2), some (.int v3), some (.int v4), some (.int v5)]) rfl (by decide) ki_1 rfl ?_
      refine z_goto hC 2 dX8_goWalkers_166 (by decide) ?_
      refine z_forget [2, 3, 4, 5] (lv' := [some (.ref (ad 0)), some (.int (v1 + 1)), none, none, none, none]) rfl ?_
      exact z_leaf (hc (v1 + 1) σ28)
set_option maxRecDepth 100000 in
set_option maxHeartbeats 4000000 in
theorem q_X8_goWalkers_J50 {Γ : zG} {ad : Nat → Nat} (hC : zX Γ layM nM ad cX8_goWalkers RX8 6 (zRm 2 45) none) (v1 : Int32) (v2 : Int32) (v3 : Int32) (v4 : Int32) (σ : zS) (K : Bool × (Int32 × zS) → Option (Int32 × zS)) (hc : ∀ (x0 : Int32) (s' : zS), zZ Γ layM nM ad 6 none 2 [some (.ref (ad 0)), some (.int x0), none, none, none, none] [] s' (K (true, (x0, s')))) (hx : ∀ (x0 : Int32) (s' : zS), zZ Γ layM nM ad 6 none 169 [some (.ref (ad 0)), some (.int x0), none, none, none, none] [] s' (K (false, (x0, s')))) : zK Γ layM nM ad 6 none 50 [some (.ref (ad 0)), some (.int v1), some (.int v2), some (.int v3), some (.int v4), none] [] σ (j_X8_goWalkers_J50 v1 v2 v3 v4 σ) K := by
  unfold j_X8_goWalkers_J50
  refine z_aload_n hC dX8_goWalkers_50 rfl ?_
  refine z_geti hC wf_X8_82 dX8_goWalkers_51 ltM_0 layM_0 rfl ?_
  refine z_iconst hC dX8_goWalkers_54 ki_1 ?_
  refine z_isub hC dX8_goWalkers_55 ?_
  refine z_istore hC dX8_goWalkers_56 (lv' := [some (.ref (ad 0)), some (.int v1), some (.int v2), some (.int v3), some (.int v4), some (.int ((σ 0 4) - 1))]) (by decide) rfl ?_
  refine z_lpb (lvf := fun z : Int32 × Int32 × zS => [some (.ref (ad 0)), some (.int v1), some (.int v2), some (.int v3), some (.int z.1), some (.int z.2.1)]) (sg := fun z => z.2.2) (x := 120) zfuel (v4, (σ 0 4) - 1, σ) rfl rfl (fun z K hc hx => t_X8_goWalkers_L58 hC v1 v2 v3 z K (fun x0 x1 s' => hc (x0, x1, s')) (fun x0 x1 s' => hx (x0, x1, s'))) (fun a16 => ?_)
  exact q_X8_goWalkers_J120 hC v1 v2 v3 a16.1 a16.2.1 a16.2.2 K hc hx
set_option maxRecDepth 100000 in
set_option maxHeartbeats 4000000 in
theorem t_X8_goWalkers_L2 {Γ : zG} {ad : Nat → Nat} (hC : zX Γ layM nM ad cX8_goWalkers RX8 6 (zRm 2 45) none) (a0 : Int32 × zS) (K : Bool × (Int32 × zS) → Option (Int32 × zS)) (hc : ∀ (x0 : Int32) (s' : zS), zZ Γ layM nM ad 6 none 2 [some (.ref (ad 0)), some (.int x0), none, none, none, none] [] s' (K (true, (x0, s')))) (hx : ∀ (x0 : Int32) (s' : zS), zZ Γ layM nM ad 6 none 169 [some (.ref (ad 0)), some (.int x0), none, none, none, none] [] s' (K (false, (x0, s')))) : zK Γ layM nM ad 6 none 2 [some (.ref (ad 0)), some (.int a0.1), none, none, none, none] [] (a0.2) (b_X8_goWalkers_L2 a0) K := by
  unfold b_X8_goWalkers_L2
  refine z_iload_n hC dX8_goWalkers_2 rfl ?_
  refine z_aload_n hC dX8_goWalkers_3 rfl ?_
  refine z_geti hC wf_X8_96 dX8_goWalkers_4 ltM_0 layM_0 rfl ?_
  refine z_icmp_ge hC 169 dX8_goWalkers_7 (by decide) (fun h1 => ?_) (fun h1 => ?_)
  · exact z_leaf (hx a0.1 a0.2)
  · refine z_aload_n hC dX8_goWalkers_10 rfl ?_
    refine z_geti hC wf_X8_123 dX8_goWalkers_11 ltM_0 layM_0 rfl ?_
    refine z_if_ne hC 169 dX8_goWalkers_14 (by decide) (fun h2 => ?_) (fun h2 => ?_)
    · exact z_leaf (hx a0.1 a0.2)
    · refine z_aload_n hC dX8_goWalkers_17 rfl ?_
      refine z_getr hC wf_X8_7 dX8_goWalkers_18 ltM_0 layM_0 rfl ?_
      refine z_bipush hC dX8_goWalkers_21 kb_31 ?_
      refine z_iload_n hC dX8_goWalkers_23 rfl ?_
      refine z_iadd hC dX8_goWalkers_24 ?_
      refine z_iald hC dX8_goWalkers_25 ltM_1 layM_1 (fun h3 => ?_)
      refine z_istore_n hC dX8_goWalkers_26 (lv' := [some (.ref (ad 0)), some (.int a0.1), some (.int (a0.2 1 (31 + a0.1).toNatClampNeg)), none, none, none]) (by decide) rfl ?_
      refine z_aload_n hC dX8_goWalkers_27 rfl ?_
      refine z_getr hC wf_X8_7 dX8_goWalkers_28 ltM_0 layM_0 rfl ?_
      refine z_bipush hC dX8_goWalkers_31 kb_27 ?_
      refine z_iload_n hC dX8_goWalkers_33 rfl ?_
      refine z_iadd hC dX8_goWalkers_34 ?_
      refine z_iald hC dX8_goWalkers_35 ltM_1 layM_1 (fun h4 => ?_)
      refine z_istore_n hC dX8_goWalkers_36 (lv' := [some (.ref (ad 0)), some (.int a0.1), some (.int (a0.2 1 (31 + a0.1).toNatClampNeg)), some (.int (a0.2 1 (27 + a0.1).toNatClampNeg)), none, none]) (by decide) rfl ?_
      refine z_iconst hC dX8_goWalkers_37 ki_m1 ?_
      refine z_istore hC dX8_goWalkers_38 (lv' := [some (.ref (ad 0)), some (.int a0.1), some (.int (a0.2 1 (31 + a0.1).toNatClampNeg)), some (.int (a0.2 1 (27 + a0.1).toNatClampNeg)), some (.int (-1)), none]) (by decide) rfl ?_
      refine z_iload_n hC dX8_goWalkers_40 rfl ?_
      refine z_iconst hC dX8_goWalkers_41 ki_m1 ?_
      refine z_icmp_eq hC 50 dX8_goWalkers_42 (by decide) (fun h5 => ?_) (fun h5 => ?_)
      · exact q_X8_goWalkers_J50 hC a0.1 (a0.2 1 (31 + a0.1).toNatClampNeg) (a0.2 1 (27 + a0.1).toNatClampNeg) (-1) a0.2 K hc hx
      · refine z_aload_n hC dX8_goWalkers_45 rfl ?_
        refine z_iload_n hC dX8_goWalkers_46 rfl ?_
        refine z_callVv hC [.int (a0.2 1 (31 + a0.1).toNatClampNeg)] (c_X8_findWays (a0.2 1 (31 + a0.1).toNatClampNeg)) yy_X8_findWays wl_X8_140 dX8_goWalkers_47 ltM_0 layM_0 vcz_X8 rfl rfl rfl (Nat.le_of_ble_eq_true rfl) (by decide) (fun r29 σ30 _ => ?_)
        exact q_X8_goWalkers_J50 hC a0.1 (a0.2 1 (31 + a0.1).toNatClampNeg) (a0.2 1 (27 + a0.1).toNatClampNeg) (-1) σ30 K hc hx
set_option maxRecDepth 100000 in
set_option maxHeartbeats 4000000 in
theorem w_X8_goWalkers {Γ : zG} {ad : Nat → Nat} (hC : zX Γ layM nM ad cX8_goWalkers RX8 6 (zRm 2 45) none) (σ : zS) : zK Γ layM nM ad 6 none 0 [some (.ref (ad 0)), none, none, none, none, none] [] σ (f_X8_goWalkers σ) some := by
  unfold f_X8_goWalkers
  refine z_iconst hC dX8_goWalkers_0 ki_0 ?_
  refine z_istore_n hC dX8_goWalkers_1 (lv' := [some (.ref (ad 0)), some (.int 0), none, none, none, none]) (by decide) rfl ?_
  refine z_lpb (lvf := fun z : Int32 × zS => [some (.ref (ad 0)), some (.int z.1), none, none, none, none]) (sg := fun z => z.2) (x := 169) zfuel (0, σ) rfl rfl (fun z K hc hx => t_X8_goWalkers_L2 hC z K (fun x0 s' => hc (x0, s')) (fun x0 s' => hx (x0, s'))) (fun a31 => ?_)
  exact z_vret hC dX8_goWalkers_169
theorem c_X8_goWalkers : zM layM nM yX8_goWalkers cX8_goWalkers 6 none (zRm 2 45) (fun ad => [.ref (ad 0)]) (f_X8_goWalkers) := zM_of (own := RX8) (by decide) rfl (fun ad w hw => by simp only [List.mem_cons, List.not_mem_nil, or_false] at hw; (first | exact hw.elim | (rcases hw with rfl <;> rfl))) (fun ad => Nat.le_of_ble_eq_true rfl) (fun Γ ad hC σ => w_X8_goWalkers hC σ)
set_option maxRecDepth 100000 in
set_option maxHeartbeats 4000000 in
theorem q_X8_is_J40 {Γ : zG} {ad : Nat → Nat} (hC : zX Γ layM nM ad cX8_is RX8 3 (zRm 2 43) (some .int)) (v1 : Int32) (v2 : Int32) (s0 : Int32) (s1 : Int32) (σ : zS) : zK Γ layM nM ad 3 (some .int) 40 [some (.ref (ad 0)), some (.int v1), some (.int v2)] [.int s0, .int s1] σ (j_X8_is_J40 v1 v2 s0 s1 σ) some := by
  unfold j_X8_is_J40
  refine z_callSi hC [.int s1, .int s0] (c_X8_isOf s1 s0) yy_X8_isOf wl_X8_89 dX8_is_40 rfl rfl rfl (Nat.le_of_ble_eq_true rfl) (by decide) (fun r6 σ7 _ => ?_)
  refine z_if_ne hC 49 dX8_is_43 (by decide) (fun h8 => ?_) (fun h8 => ?_)
  · refine z_iload_n hC dX8_is_49 rfl ?_
    refine z_if_ne hC 65 dX8_is_50 (by decide) (fun h9 => ?_) (fun h9 => ?_)
    · refine z_iload_n hC dX8_is_65 rfl ?_
      refine z_iconst hC dX8_is_66 ki_1 ?_
      refine z_icmp_ne hC 82 dX8_is_67 (by decide) (fun h10 => ?_) (fun h10 => ?_)
      · refine z_iconst hC dX8_is_82 ki_1 ?_
        refine z_aload_n hC dX8_is_83 rfl ?_
        refine z_getr hC wf_X8_7 dX8_is_84 ltM_0 layM_0 rfl ?_
        refine z_bipush hC dX8_is_87 kb_35 ?_
        refine z_iload_n hC dX8_is_89 rfl ?_
        refine z_iadd hC dX8_is_90 ?_
        refine z_iald hC dX8_is_91 ltM_1 layM_1 (fun h11 => ?_)
        refine z_isub hC dX8_is_92 ?_
        exact z_iret hC dX8_is_93
      · refine z_aload_n hC dX8_is_70 rfl ?_
        refine z_getr hC wf_X8_7 dX8_is_71 ltM_0 layM_0 rfl ?_
        refine z_bipush hC dX8_is_74 kb_12 ?_
        refine z_iload_n hC dX8_is_76 rfl ?_
        refine z_iadd hC dX8_is_77 ?_
        refine z_iald hC dX8_is_78 ltM_1 layM_1 (fun h12 => ?_)
        refine z_goto hC 93 dX8_is_79 (by decide) ?_
        exact z_iret hC dX8_is_93
    · refine z_aload_n hC dX8_is_53 rfl ?_
      refine z_getr hC wf_X8_7 dX8_is_54 ltM_0 layM_0 rfl ?_
      refine z_bipush hC dX8_is_57 kb_59 ?_
      refine z_iload_n hC dX8_is_59 rfl ?_
      refine z_iadd hC dX8_is_60 ?_
      refine z_iald hC dX8_is_61 ltM_1 layM_1 (fun h13 => ?_)
      refine z_goto hC 93 dX8_is_62 (by decide) ?_
      exact z_iret hC dX8_is_93
  · refine z_bipush hC dX8_is_46 kb_m2 ?_
    exact z_iret hC dX8_is_48
set_option maxRecDepth 100000 in
set_option maxHeartbeats 4000000 in
theorem w_X8_is {Γ : zG} {ad : Nat → Nat} (hC : zX Γ layM nM ad cX8_is RX8 3 (zRm 2 43) (some .int)) (p1 : Int32) (p2 : Int32) (σ : zS) : zK Γ layM nM ad 3 (some .int) 0 [some (.ref (ad 0)), some (.int p1), some (.int p2)] [] σ (f_X8_is p1 p2 σ) some := by
  unfold f_X8_is
  refine z_iload_n hC dX8_is_0 rfl ?_
  refine z_iconst hC dX8_is_1 ki_0 ?_
  refine z_iconst hC dX8_is_2 ki_2 ?_
  refine z_callSi hC [.int p1, .int 0, .int 2] (c_X8_in p1 0 2) yy_X8_in wl_X8_78 dX8_is_3 rfl rfl rfl (Nat.le_of_ble_eq_true rfl) (by decide) (fun r1 σ2 _ => ?_)
  refine z_if_ne hC 12 dX8_is_6 (by decide) (fun h3 => ?_) (fun h3 => ?_)
  · refine z_iload_n hC dX8_is_12 rfl ?_
    refine z_iload_n hC dX8_is_13 rfl ?_
    refine z_if_ne hC 24 dX8_is_14 (by decide) (fun h4 => ?_) (fun h4 => ?_)
    · refine z_iload_n hC dX8_is_24 rfl ?_
      refine z_iconst hC dX8_is_25 ki_1 ?_
      refine z_icmp_ne hC 36 dX8_is_26 (by decide) (fun h5 => ?_) (fun h5 => ?_)
      · refine z_aload_n hC dX8_is_36 rfl ?_
        refine z_geti hC wf_X8_102 dX8_is_37 ltM_0 layM_0 rfl ?_
        exact q_X8_is_J40 hC p1 p2 (σ2 0 15) p2 σ2
      · refine z_aload_n hC dX8_is_29 rfl ?_
        refine z_geti hC wf_X8_93 dX8_is_30 ltM_0 layM_0 rfl ?_
        refine z_goto hC 40 dX8_is_33 (by decide) ?_
        exact q_X8_is_J40 hC p1 p2 (σ2 0 5) p2 σ2
    · refine z_aload_n hC dX8_is_17 rfl ?_
      refine z_geti hC wf_X8_108 dX8_is_18 ltM_0 layM_0 rfl ?_
      refine z_goto hC 40 dX8_is_21 (by decide) ?_
      exact q_X8_is_J40 hC p1 p2 (σ2 0 23) p2 σ2
  · refine z_bipush hC dX8_is_9 kb_m3 ?_
    exact z_iret hC dX8_is_11
theorem c_X8_is (p1 : Int32) (p2 : Int32) : zM layM nM yX8_is cX8_is 3 (some .int) (zRm 2 43) (fun ad => [.ref (ad 0), .int p1, .int p2]) (f_X8_is p1 p2) := zM_of (own := RX8) (by decide) rfl (fun ad w hw => by simp only [List.mem_cons, List.not_mem_nil, or_false] at hw; (first | exact hw.elim | (rcases hw with rfl | rfl | rfl <;> rfl))) (fun ad => Nat.le_of_ble_eq_true rfl) (fun Γ ad hC σ => w_X8_is hC p1 p2 σ)
set_option maxRecDepth 100000 in
set_option maxHeartbeats 4000000 in
theorem w_X8_left {Γ : zG} {ad : Nat → Nat} (hC : zX Γ layM nM ad cX8_left RX8 2 (zRm 2 43) (some .int)) (p1 : Int32) (σ : zS) : zK Γ layM nM ad 2 (some .int) 0 [some (.ref (ad 0)), some (.int p1)] [] σ (f_X8_left p1 σ) some := by
  unfold f_X8_left
  refine z_iload_n hC dX8_left_0 rfl ?_
  refine z_aload_n hC dX8_left_1 rfl ?_
  refine z_geti hC wf_X8_105 dX8_left_2 ltM_0 layM_0 rfl ?_
  refine z_callSi hC [.int p1, .int (σ 0 19)] (c_X8_isOf p1 (σ 0 19)) yy_X8_isOf wl_X8_89 dX8_left_5 rfl rfl rfl (Nat.le_of_ble_eq_true rfl) (by decide) (fun r1 σ2 _ => ?_)
  refine z_if_eq hC 23 dX8_left_8 (by decide) (fun h3 => ?_) (fun h3 => ?_)
  · refine z_bipush hC dX8_left_23 kb_m2 ?_
    exact z_iret hC dX8_left_25
  · refine z_aload_n hC dX8_left_11 rfl ?_
    refine z_getr hC wf_X8_7 dX8_left_12 ltM_0 layM_0 rfl ?_
    refine z_bipush hC dX8_left_15 kb_47 ?_
    refine z_iload_n hC dX8_left_17 rfl ?_
    refine z_iadd hC dX8_left_18 ?_
    refine z_iald hC dX8_left_19 ltM_1 layM_1 (fun h4 => ?_)
    refine z_goto hC 25 dX8_left_20 (by decide) ?_
    exact z_iret hC dX8_left_25
theorem c_X8_left (p1 : Int32) : zM layM nM yX8_left cX8_left 2 (some .int) (zRm 2 43) (fun ad => [.ref (ad 0), .int p1]) (f_X8_left p1) := zM_of (own := RX8) (by decide) rfl (fun ad w hw => by simp only [List.mem_cons, List.not_mem_nil, or_false] at hw; (first | exact hw.elim | (rcases hw with rfl | rfl <;> rfl))) (fun ad => Nat.le_of_ble_eq_true rfl) (fun Γ ad hC σ => w_X8_left hC p1 σ)
set_option maxRecDepth 100000 in
set_option maxHeartbeats 4000000 in
theorem w_X8_minutes {Γ : zG} {ad : Nat → Nat} (hC : zX Γ layM nM ad cX8_minutes RX8 3 (zRm 2 43) (some .int)) (p1 : Int32) (σ : zS) : zK Γ layM nM ad 3 (some .int) 0 [some (.ref (ad 0)), some (.int p1), none] [] σ (f_X8_minutes p1 σ) some := by
  unfold f_X8_minutes
  refine z_iload_n hC dX8_minutes_0 rfl ?_
  refine z_aload_n hC dX8_minutes_1 rfl ?_
  refine z_geti hC wf_X8_102 dX8_minutes_2 ltM_0 layM_0 rfl ?_
  refine z_callSi hC [.int p1, .int (σ 0 15)] (c_X8_isOf p1 (σ 0 15)) yy_X8_isOf wl_X8_89 dX8_minutes_5 rfl rfl rfl (Nat.le_of_ble_eq_true rfl) (by decide) (fun r1 σ2 _ => ?_)
  refine z_if_ne hC 14 dX8_minutes_8 (by decide) (fun h3 => ?_) (fun h3 => ?_)
  · refine z_aload_n hC dX8_minutes_14 rfl ?_
    refine z_getr hC wf_X8_44 dX8_minutes_15 ltM_0 layM_0 rfl ?_
    refine z_iload_n hC dX8_minutes_18 rfl ?_
    refine z_iald hC dX8_minutes_19 ltM_11 layM_11 (fun h4 => ?_)
    refine z_aload_n hC dX8_minutes_20 rfl ?_
    refine z_getr hC wf_X8_7 dX8_minutes_21 ltM_0 layM_0 rfl ?_
    refine z_iconst hC dX8_minutes_24 ki_0 ?_
    refine z_iald hC dX8_minutes_25 ltM_1 layM_1 (fun h5 => ?_)
    refine z_isub hC dX8_minutes_26 ?_
    refine z_sipush hC dX8_minutes_27 ks_1440 ?_
    refine z_iadd hC dX8_minutes_30 ?_
    refine z_sipush hC dX8_minutes_31 ks_1440 ?_
    refine z_irem hC dX8_minutes_34 (by decide) ?_
    refine z_istore_n hC dX8_minutes_35 (lv' := [some (.ref (ad 0)), some (.int p1), some (.int ((((σ2 11 p1.toNatClampNeg) - (σ2 1 (0 : Int32).toNatClampNeg)) + 1440) - (((σ2 11 p1.toNatClampNeg) - (σ2 1 (0 : Int32).toNatClampNeg)) + 1440) / 1440 * 1440))]) (by decide) rfl ?_
    refine z_aload_n hC dX8_minutes_36 rfl ?_
    refine z_getr hC wf_X8_7 dX8_minutes_37 ltM_0 layM_0 rfl ?_
    refine z_bipush hC dX8_minutes_40 kb_35 ?_
    refine z_iload_n hC dX8_minutes_42 rfl ?_
    refine z_iadd hC dX8_minutes_43 ?_
    refine z_iald hC dX8_minutes_44 ltM_1 layM_1 (fun h6 => ?_)
    refine z_iconst hC dX8_minutes_45 ki_1 ?_
    refine z_icmp_ne hC 53 dX8_minutes_46 (by decide) (fun h7 => ?_) (fun h7 => ?_)
    · refine z_iload_n hC dX8_minutes_53 rfl ?_
      refine z_if_ne hC 63 dX8_minutes_54 (by decide) (fun h8 => ?_) (fun h8 => ?_)
      · refine z_iload_n hC dX8_minutes_63 rfl ?_
        exact z_iret hC dX8_minutes_64
      · refine z_sipush hC dX8_minutes_57 ks_1440 ?_
        refine z_goto hC 64 dX8_minutes_60 (by decide) ?_
        exact z_iret hC dX8_minutes_64
    · refine z_iconst hC dX8_minutes_49 ki_m1 ?_
      refine z_goto hC 64 dX8_minutes_50 (by decide) ?_
      exact z_iret hC dX8_minutes_64
  · refine z_bipush hC dX8_minutes_11 kb_m2 ?_
    exact z_iret hC dX8_minutes_13
theorem c_X8_minutes (p1 : Int32) : zM layM nM yX8_minutes cX8_minutes 3 (some .int) (zRm 2 43) (fun ad => [.ref (ad 0), .int p1]) (f_X8_minutes p1) := zM_of (own := RX8) (by decide) rfl (fun ad w hw => by simp only [List.mem_cons, List.not_mem_nil, or_false] at hw; (first | exact hw.elim | (rcases hw with rfl | rfl <;> rfl))) (fun ad => Nat.le_of_ble_eq_true rfl) (fun Γ ad hC σ => w_X8_minutes hC p1 σ)
set_option maxRecDepth 100000 in
set_option maxHeartbeats 4000000 in
theorem w_X8_pace {Γ : zG} {ad : Nat → Nat} (hC : zX Γ layM nM ad cX8_pace RX8 3 (zRm 1 22) (some .int)) (p1 : Int32) (σ : zS) : zK Γ layM nM ad 3 (some .int) 0 [some (.ref (ad 0)), some (.int p1), none] [] σ (f_X8_pace p1 σ) some := by
  unfold f_X8_pace
  refine z_iload_n hC dX8_pace_0 rfl ?_
  refine z_iconst hC dX8_pace_1 ki_1 ?_
  refine z_bipush hC dX8_pace_2 kb_60 ?_
  refine z_callSi hC [.int p1, .int 1, .int 60] (c_X8_in p1 1 60) yy_X8_in wl_X8_78 dX8_pace_4 rfl rfl rfl (Nat.le_of_ble_eq_true rfl) (by decide) (fun r1 σ2 _ => ?_)
  refine z_if_ne hC 13 dX8_pace_7 (by decide) (fun h3 => ?_) (fun h3 => ?_)
  · refine z_aload_n hC dX8_pace_13 rfl ?_
    refine z_geti hC wf_X8_16 dX8_pace_14 ltM_0 layM_0 rfl ?_
    refine z_istore_n hC dX8_pace_17 (lv' := [some (.ref (ad 0)), some (.int p1), some (.int (σ2 0 3))]) (by decide) rfl ?_
    refine z_aload_n hC dX8_pace_18 rfl ?_
    refine z_iload_n hC dX8_pace_19 rfl ?_
    refine z_puti hC wp_X8_16 dX8_pace_20 ltM_0 layM_0 rfl ?_
    refine z_let (fun σ4 _ => ?_)
    refine z_aload_n hC dX8_pace_23 rfl ?_
    refine z_iload_n hC dX8_pace_24 rfl ?_
    refine z_callVi hC [.int (σ2 0 3)] (c_X8_changed (σ2 0 3)) yy_X8_changed wl_X8_85 dX8_pace_25 ltM_0 layM_0 vcz_X8 rfl rfl rfl (Nat.le_of_ble_eq_true rfl) (by decide) (fun r5 σ6 _ => ?_)
    exact z_iret hC dX8_pace_28
  · refine z_bipush hC dX8_pace_10 kb_m3 ?_
    exact z_iret hC dX8_pace_12
theorem c_X8_pace (p1 : Int32) : zM layM nM yX8_pace cX8_pace 3 (some .int) (zRm 1 22) (fun ad => [.ref (ad 0), .int p1]) (f_X8_pace p1) := zM_of (own := RX8) (by decide) rfl (fun ad w hw => by simp only [List.mem_cons, List.not_mem_nil, or_false] at hw; (first | exact hw.elim | (rcases hw with rfl | rfl <;> rfl))) (fun ad => Nat.le_of_ble_eq_true rfl) (fun Γ ad hC σ => w_X8_pace hC p1 σ)
set_option maxRecDepth 100000 in
set_option maxHeartbeats 4000000 in
theorem w_X8_room {Γ : zG} {ad : Nat → Nat} (hC : zX Γ layM nM ad cX8_room RX8 1 (zRm 1 21) (some .int)) (σ : zS) : zK Γ layM nM ad 1 (some .int) 0 [some (.ref (ad 0))] [] σ (f_X8_room σ) some := by
  unfold f_X8_room
  refine z_aload_n hC dX8_room_0 rfl ?_
  refine z_geti hC wf_X8_82 dX8_room_1 ltM_0 layM_0 rfl ?_
  refine z_bipush hC dX8_room_4 kb_10 ?_
  refine z_icmp_ne hC 12 dX8_room_6 (by decide) (fun h1 => ?_) (fun h1 => ?_)
  · refine z_aload_n hC dX8_room_12 rfl ?_
    refine z_dup hC dX8_room_13 rfl ?_
    refine z_geti hC wf_X8_82 dX8_room_14 ltM_0 layM_0 rfl ?_
    refine z_iconst hC dX8_room_17 ki_1 ?_
    refine z_iadd hC dX8_room_18 ?_
    refine z_puti hC wp_X8_82 dX8_room_19 ltM_0 layM_0 rfl ?_
    refine z_let (fun σ2 _ => ?_)
    refine z_aload_n hC dX8_room_22 rfl ?_
    refine z_aload_n hC dX8_room_23 rfl ?_
    refine z_geti hC wf_X8_82 dX8_room_24 ltM_0 layM_0 rfl ?_
    refine z_iconst hC dX8_room_27 ki_1 ?_
    refine z_isub hC dX8_room_28 ?_
    refine z_callVi hC [.int ((σ2 0 4) - 1)] (c_X8_changed ((σ2 0 4) - 1)) yy_X8_changed wl_X8_85 dX8_room_29 ltM_0 layM_0 vcz_X8 rfl rfl rfl (Nat.le_of_ble_eq_true rfl) (by decide) (fun r3 σ4 _ => ?_)
    exact z_iret hC dX8_room_32
  · refine z_bipush hC dX8_room_9 kb_m5 ?_
    exact z_iret hC dX8_room_11
theorem c_X8_room : zM layM nM yX8_room cX8_room 1 (some .int) (zRm 1 21) (fun ad => [.ref (ad 0)]) (f_X8_room) := zM_of (own := RX8) (by decide) rfl (fun ad w hw => by simp only [List.mem_cons, List.not_mem_nil, or_false] at hw; (first | exact hw.elim | (rcases hw with rfl <;> rfl))) (fun ad => Nat.le_of_ble_eq_true rfl) (fun Γ ad hC σ => w_X8_room hC σ)
set_option maxRecDepth 100000 in
set_option maxHeartbeats 4000000 in
theorem w_X8_row {Γ : zG} {ad : Nat → Nat} (hC : zX Γ layM nM ad cX8_row RX8 3 (zRm 2 43) (some .int)) (p1 : Int32) (p2 : Int32) (σ : zS) : zK Γ layM nM ad 3 (some .int) 0 [some (.ref (ad 0)), some (.int p1), some (.int p2)] [] σ (f_X8_row p1 p2 σ) some := by
  unfold f_X8_row
  refine z_iload_n hC dX8_row_0 rfl ?_
  refine z_iconst hC dX8_row_1 ki_0 ?_
  refine z_iconst hC dX8_row_2 ki_1 ?_
  refine z_callSi hC [.int p2, .int 0, .int 1] (c_X8_in p2 0 1) yy_X8_in wl_X8_78 dX8_row_3 rfl rfl rfl (Nat.le_of_ble_eq_true rfl) (by decide) (fun r1 σ2 _ => ?_)
  refine z_if_ne hC 12 dX8_row_6 (by decide) (fun h3 => ?_) (fun h3 => ?_)
  · refine z_iload_n hC dX8_row_12 rfl ?_
    refine z_aload_n hC dX8_row_13 rfl ?_
    refine z_getr hC wf_X8_7 dX8_row_14 ltM_0 layM_0 rfl ?_
    refine z_bipush hC dX8_row_17 kb_71 ?_
    refine z_iald hC dX8_row_19 ltM_1 layM_1 (fun h4 => ?_)
    refine z_callSi hC [.int p1, .int (σ2 1 (71 : Int32).toNatClampNeg)] (c_X8_isOf p1 (σ2 1 (71 : Int32).toNatClampNeg)) yy_X8_isOf wl_X8_89 dX8_row_20 rfl rfl rfl (Nat.le_of_ble_eq_true rfl) (by decide) (fun r5 σ6 _ => ?_)
    refine z_if_eq hC 42 dX8_row_23 (by decide) (fun h7 => ?_) (fun h7 => ?_)
    · refine z_iconst hC dX8_row_42 ki_m1 ?_
      exact z_iret hC dX8_row_43
    · refine z_aload_n hC dX8_row_26 rfl ?_
      refine z_getr hC wf_X8_7 dX8_row_27 ltM_0 layM_0 rfl ?_
      refine z_bipush hC dX8_row_30 kb_72 ?_
      refine z_iconst hC dX8_row_32 ki_2 ?_
      refine z_iload_n hC dX8_row_33 rfl ?_
      refine z_imul hC dX8_row_34 ?_
      refine z_iadd hC dX8_row_35 ?_
      refine z_iload_n hC dX8_row_36 rfl ?_
      refine z_iadd hC dX8_row_37 ?_
      refine z_iald hC dX8_row_38 ltM_1 layM_1 (fun h8 => ?_)
      refine z_goto hC 43 dX8_row_39 (by decide) ?_
      exact z_iret hC dX8_row_43
  · refine z_bipush hC dX8_row_9 kb_m3 ?_
    exact z_iret hC dX8_row_11
theorem c_X8_row (p1 : Int32) (p2 : Int32) : zM layM nM yX8_row cX8_row 3 (some .int) (zRm 2 43) (fun ad => [.ref (ad 0), .int p1, .int p2]) (f_X8_row p1 p2) := zM_of (own := RX8) (by decide) rfl (fun ad w hw => by simp only [List.mem_cons, List.not_mem_nil, or_false] at hw; (first | exact hw.elim | (rcases hw with rfl | rfl | rfl <;> rfl))) (fun ad => Nat.le_of_ble_eq_true rfl) (fun Γ ad hC σ => w_X8_row hC p1 p2 σ)
