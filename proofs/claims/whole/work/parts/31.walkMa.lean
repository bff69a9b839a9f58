set_option maxRecDepth 100000 in
set_option maxHeartbeats 4000000 in
theorem w_X8_in {Γ : zG} {ad : Nat → Nat} (hC : zX Γ layM nM ad cX8_in RX8 3 (zRm 0 0) (some .boolean)) (p0 : Int32) (p1 : Int32) (p2 : Int32) (σ : zS) : zK Γ layM nM ad 3 (some .boolean) 0 [some (.int p0), some (.int p1), some (.int p2)] [] σ (f_X8_in p0 p1 p2 σ) some := by
  unfold f_X8_in
  refine z_iload_n hC dX8_in_0 rfl ?_
  refine z_iload_n hC dX8_in_1 rfl ?_
  refine z_icmp_lt hC 14 dX8_in_2 (by decide) (fun h1 => ?_) (fun h1 => ?_)
  · refine z_iconst hC dX8_in_14 ki_0 ?_
    exact z_zret hC (by decide) dX8_in_15
  · refine z_iload_n hC dX8_in_5 rfl ?_
    refine z_iload_n hC dX8_in_6 rfl ?_
    refine z_icmp_gt hC 14 dX8_in_7 (by decide) (fun h2 => ?_) (fun h2 => ?_)
    · refine z_iconst hC dX8_in_14 ki_0 ?_
      exact z_zret hC (by decide) dX8_in_15
    · refine z_iconst hC dX8_in_10 ki_1 ?_
      refine z_goto hC 15 dX8_in_11 (by decide) ?_
      exact z_zret hC (by decide) dX8_in_15
theorem c_X8_in (p0 : Int32) (p1 : Int32) (p2 : Int32) : zM layM nM yX8_in cX8_in 3 (some .boolean) (zRm 0 0) (fun ad => [.int p0, .int p1, .int p2]) (f_X8_in p0 p1 p2) := zM_of (own := RX8) (by decide) rfl (fun ad w hw => by simp only [List.mem_cons, List.not_mem_nil, or_false] at hw; (first | exact hw.elim | (rcases hw with rfl | rfl | rfl <;> rfl))) (fun ad => Nat.le_of_ble_eq_true rfl) (fun Γ ad hC σ => w_X8_in hC p0 p1 p2 σ)
set_option maxRecDepth 100000 in
set_option maxHeartbeats 4000000 in
theorem w_X8_isOf {Γ : zG} {ad : Nat → Nat} (hC : zX Γ layM nM ad cX8_isOf RX8 2 (zRm 1 22) (some .boolean)) (p0 : Int32) (p1 : Int32) (σ : zS) : zK Γ layM nM ad 2 (some .boolean) 0 [some (.int p0), some (.int p1)] [] σ (f_X8_isOf p0 p1 σ) some := by
  unfold f_X8_isOf
  refine z_iload_n hC dX8_isOf_0 rfl ?_
  refine z_iconst hC dX8_isOf_1 ki_0 ?_
  refine z_iload_n hC dX8_isOf_2 rfl ?_
  refine z_iconst hC dX8_isOf_3 ki_1 ?_
  refine z_isub hC dX8_isOf_4 ?_
  refine z_callSi hC [.int p0, .int 0, .int (p1 - 1)] (c_X8_in p0 0 (p1 - 1)) yy_X8_in wl_X8_78 dX8_isOf_5 rfl rfl rfl (Nat.le_of_ble_eq_true rfl) (by decide) (fun r1 σ2 _ => ?_)
  refine z_chk (fun h3 => ?_)
  exact z_zret hC h3 dX8_isOf_8
theorem c_X8_isOf (p0 : Int32) (p1 : Int32) : zM layM nM yX8_isOf cX8_isOf 2 (some .boolean) (zRm 1 22) (fun ad => [.int p0, .int p1]) (f_X8_isOf p0 p1) := zM_of (own := RX8) (by decide) rfl (fun ad w hw => by simp only [List.mem_cons, List.not_mem_nil, or_false] at hw; (first | exact hw.elim | (rcases hw with rfl | rfl <;> rfl))) (fun ad => Nat.le_of_ble_eq_true rfl) (fun Γ ad hC σ => w_X8_isOf hC p0 p1 σ)
set_option maxRecDepth 100000 in
set_option maxHeartbeats 4000000 in
theorem w_X8_holds {Γ : zG} {ad : Nat → Nat} (hC : zX Γ layM nM ad cX8_holds RX8 2 (zRm 0 0) (some .boolean)) (p1 : Int32) (σ : zS) : zK Γ layM nM ad 2 (some .boolean) 0 [some (.ref (ad 0)), some (.int p1)] [] σ (f_X8_holds p1 σ) some := by
  unfold f_X8_holds
  refine z_aload_n hC dX8_holds_0 rfl ?_
  refine z_getr hC wf_X8_35 dX8_holds_1 ltM_0 layM_0 rfl ?_
  refine z_iload_n hC dX8_holds_4 rfl ?_
  refine z_iald hC dX8_holds_5 ltM_8 layM_8 (fun h1 => ?_)
  refine z_iconst hC dX8_holds_6 ki_m1 ?_
  refine z_icmp_eq hC 32 dX8_holds_7 (by decide) (fun h2 => ?_) (fun h2 => ?_)
  · refine z_iconst hC dX8_holds_32 ki_1 ?_
    refine z_goto hC 37 dX8_holds_33 (by decide) ?_
    exact z_zret hC (by decide) dX8_holds_37
  · refine z_aload_n hC dX8_holds_10 rfl ?_
    refine z_getr hC wf_X8_7 dX8_holds_11 ltM_0 layM_0 rfl ?_
    refine z_iconst hC dX8_holds_14 ki_4 ?_
    refine z_aload_n hC dX8_holds_15 rfl ?_
    refine z_getr hC wf_X8_35 dX8_holds_16 ltM_0 layM_0 rfl ?_
    refine z_iload_n hC dX8_holds_19 rfl ?_
    refine z_iald hC dX8_holds_20 ltM_8 layM_8 (fun h3 => ?_)
    refine z_iadd hC dX8_holds_21 ?_
    refine z_iald hC dX8_holds_22 ltM_1 layM_1 (fun h4 => ?_)
    refine z_aload_n hC dX8_holds_23 rfl ?_
    refine z_getr hC wf_X8_38 dX8_holds_24 ltM_0 layM_0 rfl ?_
    refine z_iload_n hC dX8_holds_27 rfl ?_
    refine z_iald hC dX8_holds_28 ltM_9 layM_9 (fun h5 => ?_)
    refine z_icmp_lt hC 36 dX8_holds_29 (by decide) (fun h6 => ?_) (fun h6 => ?_)
    · refine z_iconst hC dX8_holds_36 ki_0 ?_
      exact z_zret hC (by decide) dX8_holds_37
    · refine z_iconst hC dX8_holds_32 ki_1 ?_
      refine z_goto hC 37 dX8_holds_33 (by decide) ?_
      exact z_zret hC (by decide) dX8_holds_37
theorem c_X8_holds (p1 : Int32) : zM layM nM yX8_holds cX8_holds 2 (some .boolean) (zRm 0 0) (fun ad => [.ref (ad 0), .int p1]) (f_X8_holds p1) := zM_of (own := RX8) (by decide) rfl (fun ad w hw => by simp only [List.mem_cons, List.not_mem_nil, or_false] at hw; (first | exact hw.elim | (rcases hw with rfl | rfl <;> rfl))) (fun ad => Nat.le_of_ble_eq_true rfl) (fun Γ ad hC σ => w_X8_holds hC p1 σ)
set_option maxRecDepth 100000 in
set_option maxHeartbeats 4000000 in
theorem w_X8_bound {Γ : zG} {ad : Nat → Nat} (hC : zX Γ layM nM ad cX8_bound RX8 3 (zRm 0 0) (some .int)) (p0 : Int32) (p1 : Int32) (p2 : Int32) (σ : zS) : zK Γ layM nM ad 3 (some .int) 0 [some (.int p0), some (.int p1), some (.int p2)] [] σ (f_X8_bound p0 p1 p2 σ) some := by
  unfold f_X8_bound
  refine z_iload_n hC dX8_bound_0 rfl ?_
  refine z_iload_n hC dX8_bound_1 rfl ?_
  refine z_icmp_ge hC 9 dX8_bound_2 (by decide) (fun h1 => ?_) (fun h1 => ?_)
  · refine z_iload_n hC dX8_bound_9 rfl ?_
    refine z_iload_n hC dX8_bound_10 rfl ?_
    refine z_icmp_le hC 18 dX8_bound_11 (by decide) (fun h2 => ?_) (fun h2 => ?_)
    · refine z_iload_n hC dX8_bound_18 rfl ?_
      exact z_iret hC dX8_bound_19
    · refine z_iload_n hC dX8_bound_14 rfl ?_
      refine z_goto hC 19 dX8_bound_15 (by decide) ?_
      exact z_iret hC dX8_bound_19
  · refine z_iload_n hC dX8_bound_5 rfl ?_
    refine z_goto hC 19 dX8_bound_6 (by decide) ?_
    exact z_iret hC dX8_bound_19
theorem c_X8_bound (p0 : Int32) (p1 : Int32) (p2 : Int32) : zM layM nM yX8_bound cX8_bound 3 (some .int) (zRm 0 0) (fun ad => [.int p0, .int p1, .int p2]) (f_X8_bound p0 p1 p2) := zM_of (own := RX8) (by decide) rfl (fun ad w hw => by simp only [List.mem_cons, List.not_mem_nil, or_false] at hw; (first | exact hw.elim | (rcases hw with rfl | rfl | rfl <;> rfl))) (fun ad => Nat.le_of_ble_eq_true rfl) (fun Γ ad hC σ => w_X8_bound hC p0 p1 p2 σ)
set_option maxRecDepth 100000 in
set_option maxHeartbeats 4000000 in
theorem w_X8_perform {Γ : zG} {ad : Nat → Nat} (hC : zX Γ layM nM ad cX8_perform RX8 4 (zRm 2 43) none) (p1 : Int32) (σ : zS) : zK Γ layM nM ad 4 none 0 [some (.ref (ad 0)), some (.int p1), none, none] [] σ (f_X8_perform p1 σ) some := by
  unfold f_X8_perform
  refine z_aload_n hC dX8_perform_0 rfl ?_
  refine z_iload_n hC dX8_perform_1 rfl ?_
  refine z_callVi hC [.int p1] (c_X8_holds p1) yy_X8_holds wl_X8_111 dX8_perform_2 ltM_0 layM_0 vcz_X8 rfl rfl rfl (Nat.le_of_ble_eq_true rfl) (by decide) (fun r1 σ2 _ => ?_)
  refine z_if_ne hC 9 dX8_perform_5 (by decide) (fun h3 => ?_) (fun h3 => ?_)
  · refine z_aload_n hC dX8_perform_9 rfl ?_
    refine z_getr hC wf_X8_29 dX8_perform_10 ltM_0 layM_0 rfl ?_
    refine z_iload_n hC dX8_perform_13 rfl ?_
    refine z_iald hC dX8_perform_14 ltM_6 layM_6 (fun h4 => ?_)
    refine z_istore_n hC dX8_perform_15 (lv' := [some (.ref (ad 0)), some (.int p1), some (.int (σ2 6 p1.toNatClampNeg)), none]) (by decide) rfl ?_
    refine z_aload_n hC dX8_perform_16 rfl ?_
    refine z_getr hC wf_X8_32 dX8_perform_17 ltM_0 layM_0 rfl ?_
    refine z_iload_n hC dX8_perform_20 rfl ?_
    refine z_iald hC dX8_perform_21 ltM_7 layM_7 (fun h5 => ?_)
    refine z_istore_n hC dX8_perform_22 (lv' := [some (.ref (ad 0)), some (.int p1), some (.int (σ2 6 p1.toNatClampNeg)), some (.int (σ2 7 p1.toNatClampNeg))]) (by decide) rfl ?_
    refine z_aload_n hC dX8_perform_23 rfl ?_
    refine z_getr hC wf_X8_26 dX8_perform_24 ltM_0 layM_0 rfl ?_
    refine z_iload_n hC dX8_perform_27 rfl ?_
    refine z_iald hC dX8_perform_28 ltM_5 layM_5 (fun h6 => ?_)
    refine z_ite (fun h7 => ?_) (fun h7 => ?_)
    · refine z_tabIn hC 76 dX8_perform_29 0 h7 (by decide) (by decide) rfl (by decide) ?_
      refine z_aload_n hC dX8_perform_76 rfl ?_
      refine z_getr hC wf_X8_7 dX8_perform_77 ltM_0 layM_0 rfl ?_
      refine z_iconst hC dX8_perform_80 ki_4 ?_
      refine z_iload_n hC dX8_perform_81 rfl ?_
      refine z_iadd hC dX8_perform_82 ?_
      refine z_aload_n hC dX8_perform_83 rfl ?_
      refine z_getr hC wf_X8_7 dX8_perform_84 ltM_0 layM_0 rfl ?_
      refine z_iconst hC dX8_perform_87 ki_4 ?_
      refine z_iload_n hC dX8_perform_88 rfl ?_
      refine z_iadd hC dX8_perform_89 ?_
      refine z_iald hC dX8_perform_90 ltM_1 layM_1 (fun h8 => ?_)
      refine z_iload_n hC dX8_perform_91 rfl ?_
      refine z_iadd hC dX8_perform_92 ?_
      refine z_sipush hC dX8_perform_93 ks_m1000 ?_
      refine z_sipush hC dX8_perform_96 ks_1000 ?_
      refine z_callSi hC [.int ((σ2 1 (4 + (σ2 6 p1.toNatClampNeg)).toNatClampNeg) + (σ2 7 p1.toNatClampNeg)), .int (-1000), .int 1000] (c_X8_bound ((σ2 1 (4 + (σ2 6 p1.toNatClampNeg)).toNatClampNeg) + (σ2 7 p1.toNatClampNeg)) (-1000) 1000) yy_X8_bound wl_X8_115 dX8_perform_99 rfl rfl rfl (Nat.le_of_ble_eq_true rfl) (by decide) (fun r9 σ10 _ => ?_)
      refine z_iast hC dX8_perform_102 ltM_1 layM_1 (fun h11 => ?_)
      refine z_let (fun σ12 _ => ?_)
      refine z_goto hC 332 dX8_perform_103 (by decide) ?_
      exact z_vret hC dX8_perform_332
    refine z_ite (fun h13 => ?_) (fun h13 => ?_)
    · refine z_tabIn hC 106 dX8_perform_29 1 h13 (by decide) (by decide) rfl (by decide) ?_
      refine z_iload_n hC dX8_perform_106 rfl ?_
      refine z_aload_n hC dX8_perform_107 rfl ?_
      refine z_geti hC wf_X8_105 dX8_perform_108 ltM_0 layM_0 rfl ?_
      refine z_callSi hC [.int (σ2 6 p1.toNatClampNeg), .int (σ2 0 19)] (c_X8_isOf (σ2 6 p1.toNatClampNeg) (σ2 0 19)) yy_X8_isOf wl_X8_89 dX8_perform_111 rfl rfl rfl (Nat.le_of_ble_eq_true rfl) (by decide) (fun r14 σ15 _ => ?_)
      refine z_if_eq hC 332 dX8_perform_114 (by decide) (fun h16 => ?_) (fun h16 => ?_)
      · exact z_vret hC dX8_perform_332
      · refine z_aload_n hC dX8_perform_117 rfl ?_
        refine z_getr hC wf_X8_7 dX8_perform_118 ltM_0 layM_0 rfl ?_
        refine z_bipush hC dX8_perform_121 kb_47 ?_
        refine z_iload_n hC dX8_perform_123 rfl ?_
        refine z_iadd hC dX8_perform_124 ?_
        refine z_aload_n hC dX8_perform_125 rfl ?_
        refine z_getr hC wf_X8_54 dX8_perform_126 ltM_0 layM_0 rfl ?_
        refine z_iload_n hC dX8_perform_129 rfl ?_
        refine z_iald hC dX8_perform_130 ltM_14 layM_14 (fun h17 => ?_)
        refine z_iast hC dX8_perform_131 ltM_1 layM_1 (fun h18 => ?_)
        refine z_let (fun σ19 _ => ?_)
        refine z_aload_n hC dX8_perform_132 rfl ?_
        refine z_getr hC wf_X8_66 dX8_perform_133 ltM_0 layM_0 rfl ?_
        refine z_iload_n hC dX8_perform_136 rfl ?_
        refine z_iconst hC dX8_perform_137 ki_1 ?_
        refine z_zast hC dX8_perform_138 ltM_18 layM_18 (fun h20 => ?_)
        refine z_let (fun σ21 _ => ?_)
        refine z_goto hC 332 dX8_perform_139 (by decide) ?_
        exact z_vret hC dX8_perform_332
    refine z_ite (fun h22 => ?_) (fun h22 => ?_)
    · refine z_tabIn hC 142 dX8_perform_29 2 h22 (by decide) (by decide) rfl (by decide) ?_
      refine z_iload_n hC dX8_perform_142 rfl ?_
      refine z_aload_n hC dX8_perform_143 rfl ?_
      refine z_geti hC wf_X8_105 dX8_perform_144 ltM_0 layM_0 rfl ?_
      refine z_callSi hC [.int (σ2 6 p1.toNatClampNeg), .int (σ2 0 19)] (c_X8_isOf (σ2 6 p1.toNatClampNeg) (σ2 0 19)) yy_X8_isOf wl_X8_89 dX8_perform_147 rfl rfl rfl (Nat.le_of_ble_eq_true rfl) (by decide) (fun r23 σ24 _ => ?_)
      refine z_if_eq hC 332 dX8_perform_150 (by decide) (fun h25 => ?_) (fun h25 => ?_)
      · exact z_vret hC dX8_perform_332
      · refine z_aload_n hC dX8_perform_153 rfl ?_
        refine z_getr hC wf_X8_7 dX8_perform_154 ltM_0 layM_0 rfl ?_
        refine z_bipush hC dX8_perform_157 kb_47 ?_
        refine z_iload_n hC dX8_perform_159 rfl ?_
        refine z_iadd hC dX8_perform_160 ?_
        refine z_iconst hC dX8_perform_161 ki_0 ?_
        refine z_iast hC dX8_perform_162 ltM_1 layM_1 (fun h26 => ?_)
        refine z_let (fun σ27 _ => ?_)
        refine z_goto hC 332 dX8_perform_163 (by decide) ?_
        exact z_vret hC dX8_perform_332
    refine z_ite (fun h28 => ?_) (fun h28 => ?_)
    · refine z_tabIn hC 166 dX8_perform_29 3 h28 (by decide) (by decide) rfl (by decide) ?_
      refine z_iload_n hC dX8_perform_166 rfl ?_
      refine z_aload_n hC dX8_perform_167 rfl ?_
      refine z_geti hC wf_X8_108 dX8_perform_168 ltM_0 layM_0 rfl ?_
      refine z_callSi hC [.int (σ2 6 p1.toNatClampNeg), .int (σ2 0 23)] (c_X8_isOf (σ2 6 p1.toNatClampNeg) (σ2 0 23)) yy_X8_isOf wl_X8_89 dX8_perform_171 rfl rfl rfl (Nat.le_of_ble_eq_true rfl) (by decide) (fun r29 σ30 _ => ?_)
      refine z_if_eq hC 332 dX8_perform_174 (by decide) (fun h31 => ?_) (fun h31 => ?_)
      · exact z_vret hC dX8_perform_332
      · refine z_aload_n hC dX8_perform_177 rfl ?_
        refine z_getr hC wf_X8_7 dX8_perform_178 ltM_0 layM_0 rfl ?_
        refine z_bipush hC dX8_perform_181 kb_59 ?_
        refine z_iload_n hC dX8_perform_183 rfl ?_
        refine z_iadd hC dX8_perform_184 ?_
        refine z_iconst hC dX8_perform_185 ki_1 ?_
        refine z_iast hC dX8_perform_186 ltM_1 layM_1 (fun h32 => ?_)
        refine z_let (fun σ33 _ => ?_)
        refine z_goto hC 332 dX8_perform_187 (by decide) ?_
        exact z_vret hC dX8_perform_332
    refine z_ite (fun h34 => ?_) (fun h34 => ?_)
    · refine z_tabIn hC 190 dX8_perform_29 4 h34 (by decide) (by decide) rfl (by decide) ?_
      refine z_iload_n hC dX8_perform_190 rfl ?_
      refine z_aload_n hC dX8_perform_191 rfl ?_
      refine z_geti hC wf_X8_108 dX8_perform_192 ltM_0 layM_0 rfl ?_
      refine z_callSi hC [.int (σ2 6 p1.toNatClampNeg), .int (σ2 0 23)] (c_X8_isOf (σ2 6 p1.toNatClampNeg) (σ2 0 23)) yy_X8_isOf wl_X8_89 dX8_perform_195 rfl rfl rfl (Nat.le_of_ble_eq_true rfl) (by decide) (fun r35 σ36 _ => ?_)
      refine z_if_eq hC 332 dX8_perform_198 (by decide) (fun h37 => ?_) (fun h37 => ?_)
      · exact z_vret hC dX8_perform_332
      · refine z_aload_n hC dX8_perform_201 rfl ?_
        refine z_getr hC wf_X8_7 dX8_perform_202 ltM_0 layM_0 rfl ?_
        refine z_bipush hC dX8_perform_205 kb_59 ?_
        refine z_iload_n hC dX8_perform_207 rfl ?_
        refine z_iadd hC dX8_perform_208 ?_
        refine z_iconst hC dX8_perform_209 ki_0 ?_
        refine z_iast hC dX8_perform_210 ltM_1 layM_1 (fun h38 => ?_)
        refine z_let (fun σ39 _ => ?_)
        refine z_goto hC 332 dX8_perform_211 (by decide) ?_
        exact z_vret hC dX8_perform_332
    refine z_ite (fun h40 => ?_) (fun h40 => ?_)
    · refine z_tabIn hC 214 dX8_perform_29 5 h40 (by decide) (by decide) rfl (by decide) ?_
      refine z_iload_n hC dX8_perform_214 rfl ?_
      refine z_aload_n hC dX8_perform_215 rfl ?_
      refine z_geti hC wf_X8_93 dX8_perform_216 ltM_0 layM_0 rfl ?_
      refine z_callSi hC [.int (σ2 6 p1.toNatClampNeg), .int (σ2 0 5)] (c_X8_isOf (σ2 6 p1.toNatClampNeg) (σ2 0 5)) yy_X8_isOf wl_X8_89 dX8_perform_219 rfl rfl rfl (Nat.le_of_ble_eq_true rfl) (by decide) (fun r41 σ42 _ => ?_)
      refine z_if_eq hC 332 dX8_perform_222 (by decide) (fun h43 => ?_) (fun h43 => ?_)
      · exact z_vret hC dX8_perform_332
      · refine z_aload_n hC dX8_perform_225 rfl ?_
        refine z_getr hC wf_X8_7 dX8_perform_226 ltM_0 layM_0 rfl ?_
        refine z_bipush hC dX8_perform_229 kb_12 ?_
        refine z_iload_n hC dX8_perform_231 rfl ?_
        refine z_iadd hC dX8_perform_232 ?_
        refine z_iconst hC dX8_perform_233 ki_1 ?_
        refine z_aload_n hC dX8_perform_234 rfl ?_
        refine z_getr hC wf_X8_7 dX8_perform_235 ltM_0 layM_0 rfl ?_
        refine z_bipush hC dX8_perform_238 kb_12 ?_
        refine z_iload_n hC dX8_perform_240 rfl ?_
        refine z_iadd hC dX8_perform_241 ?_
        refine z_iald hC dX8_perform_242 ltM_1 layM_1 (fun h44 => ?_)
        refine z_isub hC dX8_perform_243 ?_
        refine z_iast hC dX8_perform_244 ltM_1 layM_1 (fun h45 => ?_)
        refine z_let (fun σ46 _ => ?_)
        refine z_goto hC 332 dX8_perform_245 (by decide) ?_
        exact z_vret hC dX8_perform_332
    refine z_ite (fun h47 => ?_) (fun h47 => ?_)
    · refine z_tabIn hC 248 dX8_perform_29 6 h47 (by decide) (by decide) rfl (by decide) ?_
      refine z_iload_n hC dX8_perform_248 rfl ?_
      refine z_aload_n hC dX8_perform_249 rfl ?_
      refine z_geti hC wf_X8_96 dX8_perform_250 ltM_0 layM_0 rfl ?_
      refine z_callSi hC [.int (σ2 6 p1.toNatClampNeg), .int (σ2 0 8)] (c_X8_isOf (σ2 6 p1.toNatClampNeg) (σ2 0 8)) yy_X8_isOf wl_X8_89 dX8_perform_253 rfl rfl rfl (Nat.le_of_ble_eq_true rfl) (by decide) (fun r48 σ49 _ => ?_)
      refine z_if_eq hC 332 dX8_perform_256 (by decide) (fun h50 => ?_) (fun h50 => ?_)
      · exact z_vret hC dX8_perform_332
      · refine z_iload_n hC dX8_perform_259 rfl ?_
        refine z_aload_n hC dX8_perform_260 rfl ?_
        refine z_geti hC wf_X8_82 dX8_perform_261 ltM_0 layM_0 rfl ?_
        refine z_callSi hC [.int (σ2 7 p1.toNatClampNeg), .int (σ49 0 4)] (c_X8_isOf (σ2 7 p1.toNatClampNeg) (σ49 0 4)) yy_X8_isOf wl_X8_89 dX8_perform_264 rfl rfl rfl (Nat.le_of_ble_eq_true rfl) (by decide) (fun r51 σ52 _ => ?_)
        refine z_if_eq hC 332 dX8_perform_267 (by decide) (fun h53 => ?_) (fun h53 => ?_)
        · exact z_vret hC dX8_perform_332
        · refine z_aload_n hC dX8_perform_270 rfl ?_
          refine z_getr hC wf_X8_7 dX8_perform_271 ltM_0 layM_0 rfl ?_
          refine z_bipush hC dX8_perform_274 kb_31 ?_
          refine z_iload_n hC dX8_perform_276 rfl ?_
          refine z_iadd hC dX8_perform_277 ?_
          refine z_aload_n hC dX8_perform_278 rfl ?_
          refine z_getr hC wf_X8_7 dX8_perform_279 ltM_0 layM_0 rfl ?_
          refine z_bipush hC dX8_perform_282 kb_27 ?_
          refine z_iload_n hC dX8_perform_284 rfl ?_
          refine z_iadd hC dX8_perform_285 ?_
          refine z_iald hC dX8_perform_286 ltM_1 layM_1 (fun h54 => ?_)
          refine z_iload_n hC dX8_perform_287 rfl ?_
          refine z_icmp_ne hC 295 dX8_perform_288 (by decide) (fun h55 => ?_) (fun h55 => ?_)
          · refine z_iload_n hC dX8_perform_295 rfl ?_
            refine z_iast hC dX8_perform_296 ltM_1 layM_1 (fun h56 => ?_)
            refine z_let (fun σ57 _ => ?_)
            refine z_goto hC 332 dX8_perform_297 (by decide) ?_
            exact z_vret hC dX8_perform_332
          · refine z_iconst hC dX8_perform_291 ki_m1 ?_
            refine z_goto hC 296 dX8_perform_292 (by decide) ?_
            refine z_iast hC dX8_perform_296 ltM_1 layM_1 (fun h58 => ?_)
            refine z_let (fun σ59 _ => ?_)
            refine z_goto hC 332 dX8_perform_297 (by decide) ?_
            exact z_vret hC dX8_perform_332
    refine z_ite (fun h60 => ?_) (fun h60 => ?_)
    · refine z_tabIn hC 300 dX8_perform_29 7 h60 (by decide) (by decide) rfl (by decide) ?_
      refine z_aload_n hC dX8_perform_300 rfl ?_
      refine z_aload_n hC dX8_perform_301 rfl ?_
      refine z_geti hC wf_X8_119 dX8_perform_302 ltM_0 layM_0 rfl ?_
      refine z_chk (fun h61 => ?_)
      refine z_putz hC wp_X8_123 h61 dX8_perform_305 ltM_0 layM_0 rfl ?_
      refine z_let (fun σ62 _ => ?_)
      refine z_goto hC 332 dX8_perform_308 (by decide) ?_
      exact z_vret hC dX8_perform_332
    refine z_tabOut hC 311 dX8_perform_29 (by have := And.intro (lv_neT h7 (a := 0) (by decide)) (And.intro (lv_neT h13 (a := 1) (by decide)) (And.intro (lv_neT h22 (a := 2) (by decide)) (And.intro (lv_neT h28 (a := 3) (by decide)) (And.intro (lv_neT h34 (a := 4) (by decide)) (And.intro (lv_neT h40 (a := 5) (by decide)) (And.intro (lv_neT h47 (a := 6) (by decide)) (lv_neT h60 (a := 7) (by decide)))))))); omega) (by decide) ?_
    refine z_aload_n hC dX8_perform_311 rfl ?_
    refine z_getr hC wf_X8_7 dX8_perform_312 ltM_0 layM_0 rfl ?_
    refine z_iconst hC dX8_perform_315 ki_3 ?_
    refine z_aload_n hC dX8_perform_316 rfl ?_
    refine z_getr hC wf_X8_7 dX8_perform_317 ltM_0 layM_0 rfl ?_
    refine z_iconst hC dX8_perform_320 ki_3 ?_
    refine z_iald hC dX8_perform_321 ltM_1 layM_1 (fun h63 => ?_)
    refine z_iload_n hC dX8_perform_322 rfl ?_
    refine z_iadd hC dX8_perform_323 ?_
    refine z_iconst hC dX8_perform_324 ki_0 ?_
    refine z_sipush hC dX8_perform_325 ks_600 ?_
    refine z_callSi hC [.int ((σ2 1 (3 : Int32).toNatClampNeg) + (σ2 7 p1.toNatClampNeg)), .int 0, .int 600] (c_X8_bound ((σ2 1 (3 : Int32).toNatClampNeg) + (σ2 7 p1.toNatClampNeg)) 0 600) yy_X8_bound wl_X8_115 dX8_perform_328 rfl rfl rfl (Nat.le_of_ble_eq_true rfl) (by decide) (fun r64 σ65 _ => ?_)
    refine z_iast hC dX8_perform_331 ltM_1 layM_1 (fun h66 => ?_)
    refine z_let (fun σ67 _ => ?_)
    exact z_vret hC dX8_perform_332
  · exact z_vret hC dX8_perform_8
theorem c_X8_perform (p1 : Int32) : zM layM nM yX8_perform cX8_perform 4 none (zRm 2 43) (fun ad => [.ref (ad 0), .int p1]) (f_X8_perform p1) := zM_of (own := RX8) (by decide) rfl (fun ad w hw => by simp only [List.mem_cons, List.not_mem_nil, or_false] at hw; (first | exact hw.elim | (rcases hw with rfl | rfl <;> rfl))) (fun ad => Nat.le_of_ble_eq_true rfl) (fun Γ ad hC σ => w_X8_perform hC p1 σ)
set_option maxRecDepth 100000 in
set_option maxHeartbeats 4000000 in
theorem w_X8_changed {Γ : zG} {ad : Nat → Nat} (hC : zX Γ layM nM ad cX8_changed RX8 2 (zRm 0 0) (some .int)) (p1 : Int32) (σ : zS) : zK Γ layM nM ad 2 (some .int) 0 [some (.ref (ad 0)), some (.int p1)] [] σ (f_X8_changed p1 σ) some := by
  unfold f_X8_changed
  refine z_aload_n hC dX8_changed_0 rfl ?_
  refine z_iconst hC dX8_changed_1 ki_0 ?_
  refine z_puti hC wp_X8_75 dX8_changed_2 ltM_0 layM_0 rfl ?_
  refine z_let (fun σ1 _ => ?_)
  refine z_iload_n hC dX8_changed_5 rfl ?_
  exact z_iret hC dX8_changed_6
theorem c_X8_changed (p1 : Int32) : zM layM nM yX8_changed cX8_changed 2 (some .int) (zRm 0 0) (fun ad => [.ref (ad 0), .int p1]) (f_X8_changed p1) := zM_of (own := RX8) (by decide) rfl (fun ad w hw => by simp only [List.mem_cons, List.not_mem_nil, or_false] at hw; (first | exact hw.elim | (rcases hw with rfl | rfl <;> rfl))) (fun ad => Nat.le_of_ble_eq_true rfl) (fun Γ ad hC σ => w_X8_changed hC p1 σ)
set_option maxRecDepth 100000 in
set_option maxHeartbeats 4000000 in
theorem w_X8_act {Γ : zG} {ad : Nat → Nat} (hC : zX Γ layM nM ad cX8_act RX8 3 (zRm 3 66) (some .int)) (p1 : Int32) (σ : zS) : zK Γ layM nM ad 3 (some .int) 0 [some (.ref (ad 0)), some (.int p1), none] [] σ (f_X8_act p1 σ) some := by
  unfold f_X8_act
  refine z_iload_n hC dX8_act_0 rfl ?_
  refine z_aload_n hC dX8_act_1 rfl ?_
  refine z_geti hC wf_X8_99 dX8_act_2 ltM_0 layM_0 rfl ?_
  refine z_callSi hC [.int p1, .int (σ 0 9)] (c_X8_isOf p1 (σ 0 9)) yy_X8_isOf wl_X8_89 dX8_act_5 rfl rfl rfl (Nat.le_of_ble_eq_true rfl) (by decide) (fun r1 σ2 _ => ?_)
  refine z_if_ne hC 14 dX8_act_8 (by decide) (fun h3 => ?_) (fun h3 => ?_)
  · refine z_aload_n hC dX8_act_14 rfl ?_
    refine z_iload_n hC dX8_act_15 rfl ?_
    refine z_callVi hC [.int p1] (c_X8_holds p1) yy_X8_holds wl_X8_111 dX8_act_16 ltM_0 layM_0 vcz_X8 rfl rfl rfl (Nat.le_of_ble_eq_true rfl) (by decide) (fun r4 σ5 _ => ?_)
    refine z_if_eq hC 26 dX8_act_19 (by decide) (fun h6 => ?_) (fun h6 => ?_)
    · refine z_iconst hC dX8_act_26 ki_0 ?_
      refine z_istore_n hC dX8_act_27 (lv' := [some (.ref (ad 0)), some (.int p1), some (.int 0)]) (by decide) rfl ?_
      refine z_aload_n hC dX8_act_28 rfl ?_
      refine z_iload_n hC dX8_act_29 rfl ?_
      refine z_callVv hC [.int p1] (c_X8_perform p1) yy_X8_perform wl_X8_126 dX8_act_30 ltM_0 layM_0 vcz_X8 rfl rfl rfl (Nat.le_of_ble_eq_true rfl) (by decide) (fun r7 σ8 _ => ?_)
      refine z_aload_n hC dX8_act_33 rfl ?_
      refine z_iload_n hC dX8_act_34 rfl ?_
      refine z_callVi hC [.int 0] (c_X8_changed 0) yy_X8_changed wl_X8_85 dX8_act_35 ltM_0 layM_0 vcz_X8 rfl rfl rfl (Nat.le_of_ble_eq_true rfl) (by decide) (fun r9 σ10 _ => ?_)
      exact z_iret hC dX8_act_38
    · refine z_iconst hC dX8_act_22 ki_1 ?_
      refine z_goto hC 27 dX8_act_23 (by decide) ?_
      refine z_istore_n hC dX8_act_27 (lv' := [some (.ref (ad 0)), some (.int p1), some (.int 1)]) (by decide) rfl ?_
      refine z_aload_n hC dX8_act_28 rfl ?_
      refine z_iload_n hC dX8_act_29 rfl ?_
      refine z_callVv hC [.int p1] (c_X8_perform p1) yy_X8_perform wl_X8_126 dX8_act_30 ltM_0 layM_0 vcz_X8 rfl rfl rfl (Nat.le_of_ble_eq_true rfl) (by decide) (fun r11 σ12 _ => ?_)
      refine z_aload_n hC dX8_act_33 rfl ?_
      refine z_iload_n hC dX8_act_34 rfl ?_
      refine z_callVi hC [.int 1] (c_X8_changed 1) yy_X8_changed wl_X8_85 dX8_act_35 ltM_0 layM_0 vcz_X8 rfl rfl rfl (Nat.le_of_ble_eq_true rfl) (by decide) (fun r13 σ14 _ => ?_)
      exact z_iret hC dX8_act_38
  · refine z_bipush hC dX8_act_11 kb_m2 ?_
    exact z_iret hC dX8_act_13
theorem c_X8_act (p1 : Int32) : zM layM nM yX8_act cX8_act 3 (some .int) (zRm 3 66) (fun ad => [.ref (ad 0), .int p1]) (f_X8_act p1) := zM_of (own := RX8) (by decide) rfl (fun ad w hw => by simp only [List.mem_cons, List.not_mem_nil, or_false] at hw; (first | exact hw.elim | (rcases hw with rfl | rfl <;> rfl))) (fun ad => Nat.le_of_ble_eq_true rfl) (fun Γ ad hC σ => w_X8_act hC p1 σ)
set_option maxRecDepth 100000 in
set_option maxHeartbeats 4000000 in
theorem t_X8_back_L22 {Γ : zG} {ad : Nat → Nat} (hC : zX Γ layM nM ad cX8_back RX8 2 (zRm 0 0) (some .int)) (a0 : Int32 × zS) (K : Bool × (Int32 × zS) → Option (Int32 × zS)) (hc : ∀ (x0 : Int32) (s' : zS), zZ Γ layM nM ad 2 (some .int) 22 [some (.ref (ad 0)), some (.int x0)] [] s' (K (true, (x0, s')))) (hx : ∀ (x0 : Int32) (s' : zS), zZ Γ layM nM ad 2 (some .int) 56 [some (.ref (ad 0)), some (.int x0)] [] s' (K (false, (x0, s')))) : zK Γ layM nM ad 2 (some .int) 22 [some (.ref (ad 0)), some (.int a0.1)] [] (a0.2) (b_X8_back_L22 a0) K := by
  unfold b_X8_back_L22
  refine z_iload_n hC dX8_back_22 rfl ?_
  refine z_sipush hC dX8_back_23 ks_192 ?_
  refine z_icmp_ge hC 56 dX8_back_26 (by decide) (fun h3 => ?_) (fun h3 => ?_)
  · exact z_leaf (hx a0.1 a0.2)
  · refine z_aload_n hC dX8_back_29 rfl ?_
    refine z_getr hC wf_X8_7 dX8_back_30 ltM_0 layM_0 rfl ?_
    refine z_iload_n hC dX8_back_33 rfl ?_
    refine z_aload_n hC dX8_back_34 rfl ?_
    refine z_getr hC wf_X8_13 dX8_back_35 ltM_0 layM_0 rfl ?_
    refine z_sipush hC dX8_back_38 ks_192 ?_
    refine z_aload_n hC dX8_back_41 rfl ?_
    refine z_geti hC wf_X8_75 dX8_back_42 ltM_0 layM_0 rfl ?_
    refine z_imul hC dX8_back_45 ?_
    refine z_iload_n hC dX8_back_46 rfl ?_
    refine z_iadd hC dX8_back_47 ?_
    refine z_iald hC dX8_back_48 ltM_2 layM_2 (fun h4 => ?_)
    refine z_iast hC dX8_back_49 ltM_1 layM_1 (fun h5 => ?_)
    refine z_let (fun σ6 _ => ?_)
    refine z_iinc hC dX8_back_50 (lv' := [some (.ref (ad 0)), some (.int (a0.1 + 1))]) rfl (by decide) ki_1 rfl ?_
    refine z_goto hC 22 dX8_back_53 (by decide) ?_
    exact z_leaf (hc (a0.1 + 1) σ6)
set_option maxRecDepth 100000 in
set_option maxHeartbeats 4000000 in
theorem w_X8_back {Γ : zG} {ad : Nat → Nat} (hC : zX Γ layM nM ad cX8_back RX8 2 (zRm 0 0) (some .int)) (σ : zS) : zK Γ layM nM ad 2 (some .int) 0 [some (.ref (ad 0)), none] [] σ (f_X8_back σ) some := by
  unfold f_X8_back
  refine z_aload_n hC dX8_back_0 rfl ?_
  refine z_geti hC wf_X8_75 dX8_back_1 ltM_0 layM_0 rfl ?_
  refine z_if_ne hC 10 dX8_back_4 (by decide) (fun h1 => ?_) (fun h1 => ?_)
  · refine z_aload_n hC dX8_back_10 rfl ?_
    refine z_dup hC dX8_back_11 rfl ?_
    refine z_geti hC wf_X8_75 dX8_back_12 ltM_0 layM_0 rfl ?_
    refine z_iconst hC dX8_back_15 ki_1 ?_
    refine z_isub hC dX8_back_16 ?_
    refine z_puti hC wp_X8_75 dX8_back_17 ltM_0 layM_0 rfl ?_
    refine z_let (fun σ2 _ => ?_)
    refine z_iconst hC dX8_back_20 ki_0 ?_
    refine z_istore_n hC dX8_back_21 (lv' := [some (.ref (ad 0)), some (.int 0)]) (by decide) rfl ?_
    refine z_lpb (lvf := fun z : Int32 × zS => [some (.ref (ad 0)), some (.int z.1)]) (sg := fun z => z.2) (x := 56) zfuel (0, σ2) rfl rfl (fun z K hc hx => t_X8_back_L22 hC z K (fun x0 s' => hc (x0, s')) (fun x0 s' => hx (x0, s'))) (fun a7 => ?_)
    refine z_aload_n hC dX8_back_56 rfl ?_
    refine z_geti hC wf_X8_75 dX8_back_57 ltM_0 layM_0 rfl ?_
    exact z_iret hC dX8_back_60
  · refine z_bipush hC dX8_back_7 kb_m4 ?_
    exact z_iret hC dX8_back_9
theorem c_X8_back : zM layM nM yX8_back cX8_back 2 (some .int) (zRm 0 0) (fun ad => [.ref (ad 0)]) (f_X8_back) := zM_of (own := RX8) (by decide) rfl (fun ad w hw => by simp only [List.mem_cons, List.not_mem_nil, or_false] at hw; (first | exact hw.elim | (rcases hw with rfl <;> rfl))) (fun ad => Nat.le_of_ble_eq_true rfl) (fun Γ ad hC σ => w_X8_back hC σ)
set_option maxRecDepth 100000 in
set_option maxHeartbeats 4000000 in
theorem w_X8_condition {Γ : zG} {ad : Nat → Nat} (hC : zX Γ layM nM ad cX8_condition RX8 4 (zRm 2 43) (some .int)) (p1 : Int32) (p2 : Int32) (p3 : Int32) (σ : zS) : zK Γ layM nM ad 4 (some .int) 0 [some (.ref (ad 0)), some (.int p1), some (.int p2), some (.int p3)] [] σ (f_X8_condition p1 p2 p3 σ) some := by
  unfold f_X8_condition
  refine z_iload_n hC dX8_condition_0 rfl ?_
  refine z_aload_n hC dX8_condition_1 rfl ?_
  refine z_geti hC wf_X8_99 dX8_condition_2 ltM_0 layM_0 rfl ?_
  refine z_callSi hC [.int p1, .int (σ 0 9)] (c_X8_isOf p1 (σ 0 9)) yy_X8_isOf wl_X8_89 dX8_condition_5 rfl rfl rfl (Nat.le_of_ble_eq_true rfl) (by decide) (fun r1 σ2 _ => ?_)
  refine z_if_ne hC 14 dX8_condition_8 (by decide) (fun h3 => ?_) (fun h3 => ?_)
  · refine z_iload_n hC dX8_condition_14 rfl ?_
    refine z_iconst hC dX8_condition_15 ki_m1 ?_
    refine z_bipush hC dX8_condition_16 kb_7 ?_
    refine z_callSi hC [.int p2, .int (-1), .int 7] (c_X8_in p2 (-1) 7) yy_X8_in wl_X8_78 dX8_condition_18 rfl rfl rfl (Nat.le_of_ble_eq_true rfl) (by decide) (fun r4 σ5 _ => ?_)
    refine z_if_eq hC 37 dX8_condition_21 (by decide) (fun h6 => ?_) (fun h6 => ?_)
    · refine z_bipush hC dX8_condition_37 kb_m3 ?_
      exact z_iret hC dX8_condition_39
    · refine z_iload_n hC dX8_condition_24 rfl ?_
      refine z_sipush hC dX8_condition_25 ks_m1000 ?_
      refine z_sipush hC dX8_condition_28 ks_1000 ?_
      refine z_callSi hC [.int p3, .int (-1000), .int 1000] (c_X8_in p3 (-1000) 1000) yy_X8_in wl_X8_78 dX8_condition_31 rfl rfl rfl (Nat.le_of_ble_eq_true rfl) (by decide) (fun r7 σ8 _ => ?_)
      refine z_if_ne hC 40 dX8_condition_34 (by decide) (fun h9 => ?_) (fun h9 => ?_)
      · refine z_aload_n hC dX8_condition_40 rfl ?_
        refine z_getr hC wf_X8_35 dX8_condition_41 ltM_0 layM_0 rfl ?_
        refine z_iload_n hC dX8_condition_44 rfl ?_
        refine z_iload_n hC dX8_condition_45 rfl ?_
        refine z_iast hC dX8_condition_46 ltM_8 layM_8 (fun h10 => ?_)
        refine z_let (fun σ11 _ => ?_)
        refine z_aload_n hC dX8_condition_47 rfl ?_
        refine z_getr hC wf_X8_38 dX8_condition_48 ltM_0 layM_0 rfl ?_
        refine z_iload_n hC dX8_condition_51 rfl ?_
        refine z_iload_n hC dX8_condition_52 rfl ?_
        refine z_iast hC dX8_condition_53 ltM_9 layM_9 (fun h12 => ?_)
        refine z_let (fun σ13 _ => ?_)
        refine z_aload_n hC dX8_condition_54 rfl ?_
        refine z_iconst hC dX8_condition_55 ki_1 ?_
        refine z_callVi hC [.int 1] (c_X8_changed 1) yy_X8_changed wl_X8_85 dX8_condition_56 ltM_0 layM_0 vcz_X8 rfl rfl rfl (Nat.le_of_ble_eq_true rfl) (by decide) (fun r14 σ15 _ => ?_)
        exact z_iret hC dX8_condition_59
      · refine z_bipush hC dX8_condition_37 kb_m3 ?_
        exact z_iret hC dX8_condition_39
  · refine z_bipush hC dX8_condition_11 kb_m2 ?_
    exact z_iret hC dX8_condition_13
theorem c_X8_condition (p1 : Int32) (p2 : Int32) (p3 : Int32) : zM layM nM yX8_condition cX8_condition 4 (some .int) (zRm 2 43) (fun ad => [.ref (ad 0), .int p1, .int p2, .int p3]) (f_X8_condition p1 p2 p3) := zM_of (own := RX8) (by decide) rfl (fun ad w hw => by simp only [List.mem_cons, List.not_mem_nil, or_false] at hw; (first | exact hw.elim | (rcases hw with rfl | rfl | rfl | rfl <;> rfl))) (fun ad => Nat.le_of_ble_eq_true rfl) (fun Γ ad hC σ => w_X8_condition hC p1 p2 p3 σ)
set_option maxRecDepth 100000 in
set_option maxHeartbeats 4000000 in
theorem w_X8_count {Γ : zG} {ad : Nat → Nat} (hC : zX Γ layM nM ad cX8_count RX8 2 (zRm 0 0) (some .int)) (p1 : Int32) (σ : zS) : zK Γ layM nM ad 2 (some .int) 0 [some (.ref (ad 0)), some (.int p1)] [] σ (f_X8_count p1 σ) some := by
  unfold f_X8_count
  refine z_iload_n hC dX8_count_0 rfl ?_
  refine z_ite (fun h1 => ?_) (fun h1 => ?_)
  · refine z_tabIn hC 40 dX8_count_1 0 h1 (by decide) (by decide) rfl (by decide) ?_
    refine z_aload_n hC dX8_count_40 rfl ?_
    refine z_geti hC wf_X8_82 dX8_count_41 ltM_0 layM_0 rfl ?_
    exact z_iret hC dX8_count_44
  refine z_ite (fun h2 => ?_) (fun h2 => ?_)
  · refine z_tabIn hC 45 dX8_count_1 1 h2 (by decide) (by decide) rfl (by decide) ?_
    refine z_aload_n hC dX8_count_45 rfl ?_
    refine z_geti hC wf_X8_93 dX8_count_46 ltM_0 layM_0 rfl ?_
    exact z_iret hC dX8_count_49
  refine z_ite (fun h3 => ?_) (fun h3 => ?_)
  · refine z_tabIn hC 50 dX8_count_1 2 h3 (by decide) (by decide) rfl (by decide) ?_
    refine z_aload_n hC dX8_count_50 rfl ?_
    refine z_geti hC wf_X8_96 dX8_count_51 ltM_0 layM_0 rfl ?_
    exact z_iret hC dX8_count_54
  refine z_ite (fun h4 => ?_) (fun h4 => ?_)
  · refine z_tabIn hC 55 dX8_count_1 3 h4 (by decide) (by decide) rfl (by decide) ?_
    refine z_aload_n hC dX8_count_55 rfl ?_
    refine z_geti hC wf_X8_99 dX8_count_56 ltM_0 layM_0 rfl ?_
    exact z_iret hC dX8_count_59
  refine z_ite (fun h5 => ?_) (fun h5 => ?_)
  · refine z_tabIn hC 60 dX8_count_1 4 h5 (by decide) (by decide) rfl (by decide) ?_
    refine z_aload_n hC dX8_count_60 rfl ?_
    refine z_geti hC wf_X8_102 dX8_count_61 ltM_0 layM_0 rfl ?_
    exact z_iret hC dX8_count_64
  refine z_ite (fun h6 => ?_) (fun h6 => ?_)
  · refine z_tabIn hC 65 dX8_count_1 5 h6 (by decide) (by decide) rfl (by decide) ?_
    refine z_aload_n hC dX8_count_65 rfl ?_
    refine z_geti hC wf_X8_105 dX8_count_66 ltM_0 layM_0 rfl ?_
    exact z_iret hC dX8_count_69
  refine z_tabOut hC 70 dX8_count_1 (by have := And.intro (lv_neT h1 (a := 0) (by decide)) (And.intro (lv_neT h2 (a := 1) (by decide)) (And.intro (lv_neT h3 (a := 2) (by decide)) (And.intro (lv_neT h4 (a := 3) (by decide)) (And.intro (lv_neT h5 (a := 4) (by decide)) (lv_neT h6 (a := 5) (by decide)))))); omega) (by decide) ?_
  refine z_iload_n hC dX8_count_70 rfl ?_
  refine z_bipush hC dX8_count_71 kb_6 ?_
  refine z_icmp_ne hC 83 dX8_count_73 (by decide) (fun h7 => ?_) (fun h7 => ?_)
  · refine z_bipush hC dX8_count_83 kb_m3 ?_
    exact z_iret hC dX8_count_85
  · refine z_aload_n hC dX8_count_76 rfl ?_
    refine z_geti hC wf_X8_108 dX8_count_77 ltM_0 layM_0 rfl ?_
    refine z_goto hC 85 dX8_count_80 (by decide) ?_
    exact z_iret hC dX8_count_85
theorem c_X8_count (p1 : Int32) : zM layM nM yX8_count cX8_count 2 (some .int) (zRm 0 0) (fun ad => [.ref (ad 0), .int p1]) (f_X8_count p1) := zM_of (own := RX8) (by decide) rfl (fun ad w hw => by simp only [List.mem_cons, List.not_mem_nil, or_false] at hw; (first | exact hw.elim | (rcases hw with rfl | rfl <;> rfl))) (fun ad => Nat.le_of_ble_eq_true rfl) (fun Γ ad hC σ => w_X8_count hC p1 σ)
set_option maxRecDepth 100000 in
set_option maxHeartbeats 4000000 in
theorem w_X8_counter {Γ : zG} {ad : Nat → Nat} (hC : zX Γ layM nM ad cX8_counter RX8 2 (zRm 1 22) (some .int)) (p1 : Int32) (σ : zS) : zK Γ layM nM ad 2 (some .int) 0 [some (.ref (ad 0)), some (.int p1)] [] σ (f_X8_counter p1 σ) some := by
  unfold f_X8_counter
  refine z_iload_n hC dX8_counter_0 rfl ?_
  refine z_iconst hC dX8_counter_1 ki_0 ?_
  refine z_bipush hC dX8_counter_2 kb_7 ?_
  refine z_callSi hC [.int p1, .int 0, .int 7] (c_X8_in p1 0 7) yy_X8_in wl_X8_78 dX8_counter_4 rfl rfl rfl (Nat.le_of_ble_eq_true rfl) (by decide) (fun r1 σ2 _ => ?_)
  refine z_if_eq hC 21 dX8_counter_7 (by decide) (fun h3 => ?_) (fun h3 => ?_)
  · refine z_bipush hC dX8_counter_21 kb_m3 ?_
    exact z_iret hC dX8_counter_23
  · refine z_aload_n hC dX8_counter_10 rfl ?_
    refine z_getr hC wf_X8_7 dX8_counter_11 ltM_0 layM_0 rfl ?_
    refine z_iconst hC dX8_counter_14 ki_4 ?_
    refine z_iload_n hC dX8_counter_15 rfl ?_
    refine z_iadd hC dX8_counter_16 ?_
    refine z_iald hC dX8_counter_17 ltM_1 layM_1 (fun h4 => ?_)
    refine z_goto hC 23 dX8_counter_18 (by decide) ?_
    exact z_iret hC dX8_counter_23
theorem c_X8_counter (p1 : Int32) : zM layM nM yX8_counter cX8_counter 2 (some .int) (zRm 1 22) (fun ad => [.ref (ad 0), .int p1]) (f_X8_counter p1) := zM_of (own := RX8) (by decide) rfl (fun ad w hw => by simp only [List.mem_cons, List.not_mem_nil, or_false] at hw; (first | exact hw.elim | (rcases hw with rfl | rfl <;> rfl))) (fun ad => Nat.le_of_ble_eq_true rfl) (fun Γ ad hC σ => w_X8_counter hC p1 σ)
set_option maxRecDepth 100000 in
set_option maxHeartbeats 4000000 in
theorem w_X8_daemon {Γ : zG} {ad : Nat → Nat} (hC : zX Γ layM nM ad cX8_daemon RX8 3 (zRm 2 43) (some .int)) (p1 : Int32) (p2 : Int32) (σ : zS) : zK Γ layM nM ad 3 (some .int) 0 [some (.ref (ad 0)), some (.int p1), some (.int p2)] [] σ (f_X8_daemon p1 p2 σ) some := by
  unfold f_X8_daemon
  refine z_iload_n hC dX8_daemon_0 rfl ?_
  refine z_aload_n hC dX8_daemon_1 rfl ?_
  refine z_geti hC wf_X8_99 dX8_daemon_2 ltM_0 layM_0 rfl ?_
  refine z_callSi hC [.int p1, .int (σ 0 9)] (c_X8_isOf p1 (σ 0 9)) yy_X8_isOf wl_X8_89 dX8_daemon_5 rfl rfl rfl (Nat.le_of_ble_eq_true rfl) (by decide) (fun r1 σ2 _ => ?_)
  refine z_if_ne hC 14 dX8_daemon_8 (by decide) (fun h3 => ?_) (fun h3 => ?_)
  · refine z_iload_n hC dX8_daemon_14 rfl ?_
    refine z_iconst hC dX8_daemon_15 ki_0 ?_
    refine z_bipush hC dX8_daemon_16 kb_9 ?_
    refine z_callSi hC [.int p2, .int 0, .int 9] (c_X8_in p2 0 9) yy_X8_in wl_X8_78 dX8_daemon_18 rfl rfl rfl (Nat.le_of_ble_eq_true rfl) (by decide) (fun r4 σ5 _ => ?_)
    refine z_if_ne hC 27 dX8_daemon_21 (by decide) (fun h6 => ?_) (fun h6 => ?_)
    · refine z_aload_n hC dX8_daemon_27 rfl ?_
      refine z_geti hC wf_X8_108 dX8_daemon_28 ltM_0 layM_0 rfl ?_
      refine z_bipush hC dX8_daemon_31 kb_12 ?_
      refine z_icmp_ne hC 39 dX8_daemon_33 (by decide) (fun h7 => ?_) (fun h7 => ?_)
      · refine z_aload_n hC dX8_daemon_39 rfl ?_
        refine z_getr hC wf_X8_60 dX8_daemon_40 ltM_0 layM_0 rfl ?_
        refine z_aload_n hC dX8_daemon_43 rfl ?_
        refine z_geti hC wf_X8_108 dX8_daemon_44 ltM_0 layM_0 rfl ?_
        refine z_iload_n hC dX8_daemon_47 rfl ?_
        refine z_iast hC dX8_daemon_48 ltM_16 layM_16 (fun h8 => ?_)
        refine z_let (fun σ9 _ => ?_)
        refine z_aload_n hC dX8_daemon_49 rfl ?_
        refine z_getr hC wf_X8_63 dX8_daemon_50 ltM_0 layM_0 rfl ?_
        refine z_aload_n hC dX8_daemon_53 rfl ?_
        refine z_geti hC wf_X8_108 dX8_daemon_54 ltM_0 layM_0 rfl ?_
        refine z_iload_n hC dX8_daemon_57 rfl ?_
        refine z_iast hC dX8_daemon_58 ltM_17 layM_17 (fun h10 => ?_)
        refine z_let (fun σ11 _ => ?_)
        refine z_aload_n hC dX8_daemon_59 rfl ?_
        refine z_getr hC wf_X8_7 dX8_daemon_60 ltM_0 layM_0 rfl ?_
        refine z_bipush hC dX8_daemon_63 kb_59 ?_
        refine z_aload_n hC dX8_daemon_65 rfl ?_
        refine z_geti hC wf_X8_108 dX8_daemon_66 ltM_0 layM_0 rfl ?_
        refine z_iadd hC dX8_daemon_69 ?_
        refine z_iconst hC dX8_daemon_70 ki_0 ?_
        refine z_iast hC dX8_daemon_71 ltM_1 layM_1 (fun h12 => ?_)
        refine z_let (fun σ13 _ => ?_)
        refine z_aload_n hC dX8_daemon_72 rfl ?_
        refine z_dup hC dX8_daemon_73 rfl ?_
        refine z_geti hC wf_X8_108 dX8_daemon_74 ltM_0 layM_0 rfl ?_
        refine z_iconst hC dX8_daemon_77 ki_1 ?_
        refine z_iadd hC dX8_daemon_78 ?_
        refine z_puti hC wp_X8_108 dX8_daemon_79 ltM_0 layM_0 rfl ?_
        refine z_let (fun σ14 _ => ?_)
        refine z_aload_n hC dX8_daemon_82 rfl ?_
        refine z_aload_n hC dX8_daemon_83 rfl ?_
        refine z_geti hC wf_X8_108 dX8_daemon_84 ltM_0 layM_0 rfl ?_
        refine z_iconst hC dX8_daemon_87 ki_1 ?_
        refine z_isub hC dX8_daemon_88 ?_
        refine z_callVi hC [.int ((σ14 0 23) - 1)] (c_X8_changed ((σ14 0 23) - 1)) yy_X8_changed wl_X8_85 dX8_daemon_89 ltM_0 layM_0 vcz_X8 rfl rfl rfl (Nat.le_of_ble_eq_true rfl) (by decide) (fun r15 σ16 _ => ?_)
        exact z_iret hC dX8_daemon_92
      · refine z_bipush hC dX8_daemon_36 kb_m5 ?_
        exact z_iret hC dX8_daemon_38
    · refine z_bipush hC dX8_daemon_24 kb_m3 ?_
      exact z_iret hC dX8_daemon_26
  · refine z_bipush hC dX8_daemon_11 kb_m2 ?_
    exact z_iret hC dX8_daemon_13
theorem c_X8_daemon (p1 : Int32) (p2 : Int32) : zM layM nM yX8_daemon cX8_daemon 3 (some .int) (zRm 2 43) (fun ad => [.ref (ad 0), .int p1, .int p2]) (f_X8_daemon p1 p2) := zM_of (own := RX8) (by decide) rfl (fun ad w hw => by simp only [List.mem_cons, List.not_mem_nil, or_false] at hw; (first | exact hw.elim | (rcases hw with rfl | rfl | rfl <;> rfl))) (fun ad => Nat.le_of_ble_eq_true rfl) (fun Γ ad hC σ => w_X8_daemon hC p1 p2 σ)
set_option maxRecDepth 100000 in
set_option maxHeartbeats 4000000 in
theorem q_X8_deed_J59 {Γ : zG} {ad : Nat → Nat} (hC : zX Γ layM nM ad cX8_deed RX8 5 (zRm 1 22) (some .int)) (v1 : Int32) (v2 : Int32) (v3 : Int32) (v4 : Int32) (σ : zS) : zK Γ layM nM ad 5 (some .int) 59 [some (.ref (ad 0)), some (.int v1), some (.int v2), some (.int v3), some (.int v4)] [] σ (j_X8_deed_J59 v1 v2 v3 v4 σ) some := by
  unfold j_X8_deed_J59
  refine z_iload hC dX8_deed_59 rfl ?_
  refine z_if_ne hC 67 dX8_deed_61 (by decide) (fun h5 => ?_) (fun h5 => ?_)
  · refine z_aload_n hC dX8_deed_67 rfl ?_
    refine z_geti hC wf_X8_99 dX8_deed_68 ltM_0 layM_0 rfl ?_
    refine z_bipush hC dX8_deed_71 kb_40 ?_
    refine z_icmp_ne hC 79 dX8_deed_73 (by decide) (fun h6 => ?_) (fun h6 => ?_)
    · refine z_aload_n hC dX8_deed_79 rfl ?_
      refine z_getr hC wf_X8_26 dX8_deed_80 ltM_0 layM_0 rfl ?_
      refine z_aload_n hC dX8_deed_83 rfl ?_
      refine z_geti hC wf_X8_99 dX8_deed_84 ltM_0 layM_0 rfl ?_
      refine z_iload_n hC dX8_deed_87 rfl ?_
      refine z_iast hC dX8_deed_88 ltM_5 layM_5 (fun h7 => ?_)
      refine z_let (fun σ8 _ => ?_)
      refine z_aload_n hC dX8_deed_89 rfl ?_
      refine z_getr hC wf_X8_29 dX8_deed_90 ltM_0 layM_0 rfl ?_
      refine z_aload_n hC dX8_deed_93 rfl ?_
      refine z_geti hC wf_X8_99 dX8_deed_94 ltM_0 layM_0 rfl ?_
      refine z_iload_n hC dX8_deed_97 rfl ?_
      refine z_iast hC dX8_deed_98 ltM_6 layM_6 (fun h9 => ?_)
      refine z_let (fun σ10 _ => ?_)
      refine z_aload_n hC dX8_deed_99 rfl ?_
      refine z_getr hC wf_X8_32 dX8_deed_100 ltM_0 layM_0 rfl ?_
      refine z_aload_n hC dX8_deed_103 rfl ?_
      refine z_geti hC wf_X8_99 dX8_deed_104 ltM_0 layM_0 rfl ?_
      refine z_iload_n hC dX8_deed_107 rfl ?_
      refine z_iast hC dX8_deed_108 ltM_7 layM_7 (fun h11 => ?_)
      refine z_let (fun σ12 _ => ?_)
      refine z_aload_n hC dX8_deed_109 rfl ?_
      refine z_getr hC wf_X8_35 dX8_deed_110 ltM_0 layM_0 rfl ?_
      refine z_aload_n hC dX8_deed_113 rfl ?_
      refine z_geti hC wf_X8_99 dX8_deed_114 ltM_0 layM_0 rfl ?_
      refine z_iconst hC dX8_deed_117 ki_m1 ?_
      refine z_iast hC dX8_deed_118 ltM_8 layM_8 (fun h13 => ?_)
      refine z_let (fun σ14 _ => ?_)
      refine z_aload_n hC dX8_deed_119 rfl ?_
      refine z_dup hC dX8_deed_120 rfl ?_
      refine z_geti hC wf_X8_99 dX8_deed_121 ltM_0 layM_0 rfl ?_
      refine z_iconst hC dX8_deed_124 ki_1 ?_
      refine z_iadd hC dX8_deed_125 ?_
      refine z_puti hC wp_X8_99 dX8_deed_126 ltM_0 layM_0 rfl ?_
      refine z_let (fun σ15 _ => ?_)
      refine z_aload_n hC dX8_deed_129 rfl ?_
      refine z_aload_n hC dX8_deed_130 rfl ?_
      refine z_geti hC wf_X8_99 dX8_deed_131 ltM_0 layM_0 rfl ?_
      refine z_iconst hC dX8_deed_134 ki_1 ?_
      refine z_isub hC dX8_deed_135 ?_
      refine z_callVi hC [.int ((σ15 0 9) - 1)] (c_X8_changed ((σ15 0 9) - 1)) yy_X8_changed wl_X8_85 dX8_deed_136 ltM_0 layM_0 vcz_X8 rfl rfl rfl (Nat.le_of_ble_eq_true rfl) (by decide) (fun r16 σ17 _ => ?_)
      exact z_iret hC dX8_deed_139
    · refine z_bipush hC dX8_deed_76 kb_m5 ?_
      exact z_iret hC dX8_deed_78
  · refine z_bipush hC dX8_deed_64 kb_m3 ?_
    exact z_iret hC dX8_deed_66
set_option maxRecDepth 100000 in
set_option maxHeartbeats 4000000 in
theorem q_X8_deed_J43 {Γ : zG} {ad : Nat → Nat} (hC : zX Γ layM nM ad cX8_deed RX8 5 (zRm 1 22) (some .int)) (v1 : Int32) (v2 : Int32) (v3 : Int32) (v4 : Int32) (σ : zS) : zK Γ layM nM ad 5 (some .int) 43 [some (.ref (ad 0)), some (.int v1), some (.int v2), some (.int v3), some (.int v4)] [] σ (j_X8_deed_J43 v1 v2 v3 v4 σ) some := by
  unfold j_X8_deed_J43
  refine z_iload_n hC dX8_deed_43 rfl ?_
  refine z_bipush hC dX8_deed_44 kb_8 ?_
  refine z_icmp_ne hC 59 dX8_deed_46 (by decide) (fun h4 => ?_) (fun h4 => ?_)
  · exact q_X8_deed_J59 hC v1 v2 v3 v4 σ
  · refine z_iload_n hC dX8_deed_49 rfl ?_
    refine z_iconst hC dX8_deed_50 ki_1 ?_
    refine z_sipush hC dX8_deed_51 ks_600 ?_
    refine z_callSi hC [.int v3, .int 1, .int 600] (c_X8_in v3 1 600) yy_X8_in wl_X8_78 dX8_deed_54 rfl rfl rfl (Nat.le_of_ble_eq_true rfl) (by decide) (fun r18 σ19 _ => ?_)
    refine z_istore hC dX8_deed_57 (lv' := [some (.ref (ad 0)), some (.int v1), some (.int v2), some (.int v3), some (.int r18)]) (by decide) rfl ?_
    exact q_X8_deed_J59 hC v1 v2 v3 r18 σ19
set_option maxRecDepth 100000 in
set_option maxHeartbeats 4000000 in
theorem q_X8_deed_J41 {Γ : zG} {ad : Nat → Nat} (hC : zX Γ layM nM ad cX8_deed RX8 5 (zRm 1 22) (some .int)) (v1 : Int32) (v2 : Int32) (v3 : Int32) (v4 : Int32) (s0 : Int32) (σ : zS) : zK Γ layM nM ad 5 (some .int) 41 [some (.ref (ad 0)), some (.int v1), some (.int v2), some (.int v3), some (.int v4)] [.int s0] σ (j_X8_deed_J41 v1 v2 v3 v4 s0 σ) some := by
  unfold j_X8_deed_J41
  refine z_istore hC dX8_deed_41 (lv' := [some (.ref (ad 0)), some (.int v1), some (.int v2), some (.int v3), some (.int s0)]) (by decide) rfl ?_
  exact q_X8_deed_J43 hC v1 v2 v3 s0 σ
set_option maxRecDepth 100000 in
set_option maxHeartbeats 4000000 in
theorem q_X8_deed_J40 {Γ : zG} {ad : Nat → Nat} (hC : zX Γ layM nM ad cX8_deed RX8 5 (zRm 1 22) (some .int)) (v1 : Int32) (v2 : Int32) (v3 : Int32) (v4 : Int32) (σ : zS) : zK Γ layM nM ad 5 (some .int) 40 [some (.ref (ad 0)), some (.int v1), some (.int v2), some (.int v3), some (.int v4)] [] σ (j_X8_deed_J40 v1 v2 v3 v4 σ) some := by
  unfold j_X8_deed_J40
  refine z_iconst hC dX8_deed_40 ki_0 ?_
  exact q_X8_deed_J41 hC v1 v2 v3 v4 0 σ
set_option maxRecDepth 100000 in
set_option maxHeartbeats 4000000 in
theorem w_X8_deed {Γ : zG} {ad : Nat → Nat} (hC : zX Γ layM nM ad cX8_deed RX8 5 (zRm 1 22) (some .int)) (p1 : Int32) (p2 : Int32) (p3 : Int32) (σ : zS) : zK Γ layM nM ad 5 (some .int) 0 [some (.ref (ad 0)), some (.int p1), some (.int p2), some (.int p3), none] [] σ (f_X8_deed p1 p2 p3 σ) some := by
  unfold f_X8_deed
  refine z_iload_n hC dX8_deed_0 rfl ?_
  refine z_iconst hC dX8_deed_1 ki_0 ?_
  refine z_bipush hC dX8_deed_2 kb_8 ?_
  refine z_callSi hC [.int p1, .int 0, .int 8] (c_X8_in p1 0 8) yy_X8_in wl_X8_78 dX8_deed_4 rfl rfl rfl (Nat.le_of_ble_eq_true rfl) (by decide) (fun r1 σ2 _ => ?_)
  refine z_istore hC dX8_deed_7 (lv' := [some (.ref (ad 0)), some (.int p1), some (.int p2), some (.int p3), some (.int r1)]) (by decide) rfl ?_
  refine z_iload_n hC dX8_deed_9 rfl ?_
  refine z_if_ne hC 43 dX8_deed_10 (by decide) (fun h3 => ?_) (fun h3 => ?_)
  · exact q_X8_deed_J43 hC p1 p2 p3 r1 σ2
  · refine z_iload_n hC dX8_deed_13 rfl ?_
    refine z_iconst hC dX8_deed_14 ki_0 ?_
    refine z_bipush hC dX8_deed_15 kb_7 ?_
    refine z_callSi hC [.int p2, .int 0, .int 7] (c_X8_in p2 0 7) yy_X8_in wl_X8_78 dX8_deed_17 rfl rfl rfl (Nat.le_of_ble_eq_true rfl) (by decide) (fun r20 σ21 _ => ?_)
    refine z_if_eq hC 40 dX8_deed_20 (by decide) (fun h22 => ?_) (fun h22 => ?_)
    · exact q_X8_deed_J40 hC p1 p2 p3 r1 σ21
    · refine z_iload_n hC dX8_deed_23 rfl ?_
      refine z_sipush hC dX8_deed_24 ks_m1000 ?_
      refine z_sipush hC dX8_deed_27 ks_1000 ?_
      refine z_callSi hC [.int p3, .int (-1000), .int 1000] (c_X8_in p3 (-1000) 1000) yy_X8_in wl_X8_78 dX8_deed_30 rfl rfl rfl (Nat.le_of_ble_eq_true rfl) (by decide) (fun r23 σ24 _ => ?_)
      refine z_if_eq hC 40 dX8_deed_33 (by decide) (fun h25 => ?_) (fun h25 => ?_)
      · exact q_X8_deed_J40 hC p1 p2 p3 r1 σ24
      · refine z_iconst hC dX8_deed_36 ki_1 ?_
        refine z_goto hC 41 dX8_deed_37 (by decide) ?_
        exact q_X8_deed_J41 hC p1 p2 p3 r1 1 σ24
theorem c_X8_deed (p1 : Int32) (p2 : Int32) (p3 : Int32) : zM layM nM yX8_deed cX8_deed 5 (some .int) (zRm 1 22) (fun ad => [.ref (ad 0), .int p1, .int p2, .int p3]) (f_X8_deed p1 p2 p3) := zM_of (own := RX8) (by decide) rfl (fun ad w hw => by simp only [List.mem_cons, List.not_mem_nil, or_false] at hw; (first | exact hw.elim | (rcases hw with rfl | rfl | rfl | rfl <;> rfl))) (fun ad => Nat.le_of_ble_eq_true rfl) (fun Γ ad hC σ => w_X8_deed hC p1 p2 p3 σ)
