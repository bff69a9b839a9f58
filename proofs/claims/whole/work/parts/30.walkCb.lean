set_option maxRecDepth 100000 in
set_option maxHeartbeats 4000000 in
theorem w_X4_copyFrom {Γ : zG} {ad : Nat → Nat} (a : Nat) (b : Nat) (hC : zX Γ layC nC ad cX4_copyFrom RX4 2 (zRm 1 48) none) (ha : a < 9) (hb : b < 9) (σ : zS) : zK Γ layC nC ad 2 none 0 [some (.ref (ad (z_mo a))), some (.ref (ad (z_mo b)))] [] σ (f_X4_copyFrom a b σ) some := by
  unfold f_X4_copyFrom
  refine z_aload_n hC dX4_copyFrom_0 rfl ?_
  refine z_aload_n hC dX4_copyFrom_1 rfl ?_
  refine z_geti hC wf_X4_44 dX4_copyFrom_2 (ltC_m0 hb) (layC_m0 hb) rfl ?_
  refine z_puti hC wp_X4_44 dX4_copyFrom_5 (ltC_m0 ha) (layC_m0 ha) rfl ?_
  refine z_let (fun σ1 _ => ?_)
  refine z_aload_n hC dX4_copyFrom_8 rfl ?_
  refine z_aload_n hC dX4_copyFrom_9 rfl ?_
  refine z_geti hC wf_X4_47 dX4_copyFrom_10 (ltC_m0 hb) (layC_m0 hb) rfl ?_
  refine z_puti hC wp_X4_47 dX4_copyFrom_13 (ltC_m0 ha) (layC_m0 ha) rfl ?_
  refine z_let (fun σ2 _ => ?_)
  refine z_aload_n hC dX4_copyFrom_16 rfl ?_
  refine z_aload_n hC dX4_copyFrom_17 rfl ?_
  refine z_geti hC wf_X4_66 dX4_copyFrom_18 (ltC_m0 hb) (layC_m0 hb) rfl ?_
  refine z_puti hC wp_X4_66 dX4_copyFrom_21 (ltC_m0 ha) (layC_m0 ha) rfl ?_
  refine z_let (fun σ3 _ => ?_)
  refine z_aload_n hC dX4_copyFrom_24 rfl ?_
  refine z_aload_n hC dX4_copyFrom_25 rfl ?_
  refine z_geti hC wf_X4_9 dX4_copyFrom_26 (ltC_m0 hb) (layC_m0 hb) rfl ?_
  refine z_puti hC wp_X4_9 dX4_copyFrom_29 (ltC_m0 ha) (layC_m0 ha) rfl ?_
  refine z_let (fun σ4 _ => ?_)
  refine z_aload_n hC dX4_copyFrom_32 rfl ?_
  refine z_aload_n hC dX4_copyFrom_33 rfl ?_
  refine z_geti hC wf_X4_69 dX4_copyFrom_34 (ltC_m0 hb) (layC_m0 hb) rfl ?_
  refine z_puti hC wp_X4_69 dX4_copyFrom_37 (ltC_m0 ha) (layC_m0 ha) rfl ?_
  refine z_let (fun σ5 _ => ?_)
  refine z_aload_n hC dX4_copyFrom_40 rfl ?_
  refine z_aload_n hC dX4_copyFrom_41 rfl ?_
  refine z_geti hC wf_X4_63 dX4_copyFrom_42 (ltC_m0 hb) (layC_m0 hb) rfl ?_
  refine z_puti hC wp_X4_63 dX4_copyFrom_45 (ltC_m0 ha) (layC_m0 ha) rfl ?_
  refine z_let (fun σ6 _ => ?_)
  refine z_aload_n hC dX4_copyFrom_48 rfl ?_
  refine z_getr hC wf_X4_15 dX4_copyFrom_49 (ltC_m0 hb) (layC_m0 hb) rfl ?_
  refine z_iconst hC dX4_copyFrom_52 ki_0 ?_
  refine z_aload_n hC dX4_copyFrom_53 rfl ?_
  refine z_getr hC wf_X4_15 dX4_copyFrom_54 (ltC_m0 ha) (layC_m0 ha) rfl ?_
  refine z_iconst hC dX4_copyFrom_57 ki_0 ?_
  refine z_bipush hC dX4_copyFrom_58 kb_40 ?_
  refine z_copy (N := 40) hC wl_X4_72 wm_acn wm_acs wm_sys dX4_copyFrom_60 (ltC_m1 hb) (ltC_m1 ha) (layC_m1 hb) (layC_m1 ha) (by decide) (by exact ⟨Nat.le_of_ble_eq_true rfl, Nat.le_of_ble_eq_true rfl⟩) ?_
  refine z_let (fun σ7 _ => ?_)
  refine z_aload_n hC dX4_copyFrom_63 rfl ?_
  refine z_getr hC wf_X4_19 dX4_copyFrom_64 (ltC_m0 hb) (layC_m0 hb) rfl ?_
  refine z_iconst hC dX4_copyFrom_67 ki_0 ?_
  refine z_aload_n hC dX4_copyFrom_68 rfl ?_
  refine z_getr hC wf_X4_19 dX4_copyFrom_69 (ltC_m0 ha) (layC_m0 ha) rfl ?_
  refine z_iconst hC dX4_copyFrom_72 ki_0 ?_
  refine z_bipush hC dX4_copyFrom_73 kb_40 ?_
  refine z_copy (N := 40) hC wl_X4_72 wm_acn wm_acs wm_sys dX4_copyFrom_75 (ltC_m2 hb) (ltC_m2 ha) (layC_m2 hb) (layC_m2 ha) (by decide) (by exact ⟨Nat.le_of_ble_eq_true rfl, Nat.le_of_ble_eq_true rfl⟩) ?_
  refine z_let (fun σ8 _ => ?_)
  refine z_aload_n hC dX4_copyFrom_78 rfl ?_
  refine z_getr hC wf_X4_22 dX4_copyFrom_79 (ltC_m0 hb) (layC_m0 hb) rfl ?_
  refine z_iconst hC dX4_copyFrom_82 ki_0 ?_
  refine z_aload_n hC dX4_copyFrom_83 rfl ?_
  refine z_getr hC wf_X4_22 dX4_copyFrom_84 (ltC_m0 ha) (layC_m0 ha) rfl ?_
  refine z_iconst hC dX4_copyFrom_87 ki_0 ?_
  refine z_bipush hC dX4_copyFrom_88 kb_8 ?_
  refine z_copy (N := 8) hC wl_X4_72 wm_acn wm_acs wm_sys dX4_copyFrom_90 (ltC_m3 hb) (ltC_m3 ha) (layC_m3 hb) (layC_m3 ha) (by decide) (by exact ⟨Nat.le_of_ble_eq_true rfl, Nat.le_of_ble_eq_true rfl⟩) ?_
  refine z_let (fun σ9 _ => ?_)
  refine z_aload_n hC dX4_copyFrom_93 rfl ?_
  refine z_getr hC wf_X4_25 dX4_copyFrom_94 (ltC_m0 hb) (layC_m0 hb) rfl ?_
  refine z_aload_n hC dX4_copyFrom_97 rfl ?_
  refine z_getr hC wf_X4_25 dX4_copyFrom_98 (ltC_m0 ha) (layC_m0 ha) rfl ?_
  refine z_callSv hC [.ref (ad (z_mo b + 4)), .ref (ad (z_mo a + 4))] (c_X4_copyFlags (z_mo b + 4) (z_mo a + 4) 15 (ltC_m4 hb) (layC_m4 hb) (ltC_m4 ha) (layC_m4 ha)) yy_X4_copyFlags wl_X4_78 dX4_copyFrom_101 rfl rfl rfl (Nat.le_of_ble_eq_true rfl) (by decide) (fun r10 σ11 _ => ?_)
  refine z_aload_n hC dX4_copyFrom_104 rfl ?_
  refine z_getr hC wf_X4_29 dX4_copyFrom_105 (ltC_m0 hb) (layC_m0 hb) rfl ?_
  refine z_iconst hC dX4_copyFrom_108 ki_0 ?_
  refine z_aload_n hC dX4_copyFrom_109 rfl ?_
  refine z_getr hC wf_X4_29 dX4_copyFrom_110 (ltC_m0 ha) (layC_m0 ha) rfl ?_
  refine z_iconst hC dX4_copyFrom_113 ki_0 ?_
  refine z_iconst hC dX4_copyFrom_114 ki_4 ?_
  refine z_copy (N := 4) hC wl_X4_72 wm_acn wm_acs wm_sys dX4_copyFrom_115 (ltC_m5 hb) (ltC_m5 ha) (layC_m5 hb) (layC_m5 ha) (by decide) (by exact ⟨Nat.le_of_ble_eq_true rfl, Nat.le_of_ble_eq_true rfl⟩) ?_
  refine z_let (fun σ12 _ => ?_)
  refine z_aload_n hC dX4_copyFrom_118 rfl ?_
  refine z_getr hC wf_X4_32 dX4_copyFrom_119 (ltC_m0 hb) (layC_m0 hb) rfl ?_
  refine z_iconst hC dX4_copyFrom_122 ki_0 ?_
  refine z_aload_n hC dX4_copyFrom_123 rfl ?_
  refine z_getr hC wf_X4_32 dX4_copyFrom_124 (ltC_m0 ha) (layC_m0 ha) rfl ?_
  refine z_iconst hC dX4_copyFrom_127 ki_0 ?_
  refine z_iconst hC dX4_copyFrom_128 ki_4 ?_
  refine z_copy (N := 4) hC wl_X4_72 wm_acn wm_acs wm_sys dX4_copyFrom_129 (ltC_m6 hb) (ltC_m6 ha) (layC_m6 hb) (layC_m6 ha) (by decide) (by exact ⟨Nat.le_of_ble_eq_true rfl, Nat.le_of_ble_eq_true rfl⟩) ?_
  refine z_let (fun σ13 _ => ?_)
  refine z_aload_n hC dX4_copyFrom_132 rfl ?_
  refine z_getr hC wf_X4_35 dX4_copyFrom_133 (ltC_m0 hb) (layC_m0 hb) rfl ?_
  refine z_iconst hC dX4_copyFrom_136 ki_0 ?_
  refine z_aload_n hC dX4_copyFrom_137 rfl ?_
  refine z_getr hC wf_X4_35 dX4_copyFrom_138 (ltC_m0 ha) (layC_m0 ha) rfl ?_
  refine z_iconst hC dX4_copyFrom_141 ki_0 ?_
  refine z_bipush hC dX4_copyFrom_142 kb_12 ?_
  refine z_copy (N := 12) hC wl_X4_72 wm_acn wm_acs wm_sys dX4_copyFrom_144 (ltC_m7 hb) (ltC_m7 ha) (layC_m7 hb) (layC_m7 ha) (by decide) (by exact ⟨Nat.le_of_ble_eq_true rfl, Nat.le_of_ble_eq_true rfl⟩) ?_
  refine z_let (fun σ14 _ => ?_)
  refine z_aload_n hC dX4_copyFrom_147 rfl ?_
  refine z_getr hC wf_X4_38 dX4_copyFrom_148 (ltC_m0 hb) (layC_m0 hb) rfl ?_
  refine z_aload_n hC dX4_copyFrom_151 rfl ?_
  refine z_getr hC wf_X4_38 dX4_copyFrom_152 (ltC_m0 ha) (layC_m0 ha) rfl ?_
  refine z_callSv hC [.ref (ad (z_mo b + 8)), .ref (ad (z_mo a + 8))] (c_X4_copyFlags (z_mo b + 8) (z_mo a + 8) 12 (ltC_m8 hb) (layC_m8 hb) (ltC_m8 ha) (layC_m8 ha)) yy_X4_copyFlags wl_X4_78 dX4_copyFrom_155 rfl rfl rfl (Nat.le_of_ble_eq_true rfl) (by decide) (fun r15 σ16 _ => ?_)
  refine z_aload_n hC dX4_copyFrom_158 rfl ?_
  refine z_getr hC wf_X4_41 dX4_copyFrom_159 (ltC_m0 hb) (layC_m0 hb) rfl ?_
  refine z_aload_n hC dX4_copyFrom_162 rfl ?_
  refine z_getr hC wf_X4_41 dX4_copyFrom_163 (ltC_m0 ha) (layC_m0 ha) rfl ?_
  refine z_callSv hC [.ref (ad (z_mo b + 9)), .ref (ad (z_mo a + 9))] (c_X4_copyFlags (z_mo b + 9) (z_mo a + 9) 12 (ltC_m9 hb) (layC_m9 hb) (ltC_m9 ha) (layC_m9 ha)) yy_X4_copyFlags wl_X4_78 dX4_copyFrom_166 rfl rfl rfl (Nat.le_of_ble_eq_true rfl) (by decide) (fun r17 σ18 _ => ?_)
  exact z_vret hC dX4_copyFrom_169
theorem c_X4_copyFrom (a : Nat) (b : Nat) (ha : a < 9) (hb : b < 9) : zM layC nC yX4_copyFrom cX4_copyFrom 2 none (zRm 1 48) (fun ad => [.ref (ad (z_mo a)), .ref (ad (z_mo b))]) (f_X4_copyFrom a b) := zM_of (own := RX4) (by decide) rfl (fun ad w hw => by simp only [List.mem_cons, List.not_mem_nil, or_false] at hw; (first | exact hw.elim | (rcases hw with rfl | rfl <;> rfl))) (fun ad => Nat.le_of_ble_eq_true rfl) (fun Γ ad hC σ => w_X4_copyFrom a b hC ha hb σ)
set_option maxRecDepth 100000 in
set_option maxHeartbeats 4000000 in
theorem w_X4_goOn {Γ : zG} {ad : Nat → Nat} (hC : zX Γ layC nC ad cX4_goOn RX4 2 (zRm 0 0) none) (p1 : Int32) (σ : zS) : zK Γ layC nC ad 2 none 0 [some (.ref (ad 24)), some (.int p1)] [] σ (f_X4_goOn p1 σ) some := by
  unfold f_X4_goOn
  refine z_aload_n hC dX4_goOn_0 rfl ?_
  refine z_dup hC dX4_goOn_1 rfl ?_
  refine z_geti hC wf_X4_44 dX4_goOn_2 ltC_24 layC_24 rfl ?_
  refine z_iload_n hC dX4_goOn_5 rfl ?_
  refine z_iadd hC dX4_goOn_6 ?_
  refine z_puti hC wp_X4_44 dX4_goOn_7 ltC_24 layC_24 rfl ?_
  refine z_let (fun σ1 _ => ?_)
  refine z_aload_n hC dX4_goOn_10 rfl ?_
  refine z_geti hC wf_X4_44 dX4_goOn_11 ltC_24 layC_24 rfl ?_
  refine z_sipush hC dX4_goOn_14 ks_1440 ?_
  refine z_icmp_lt hC 42 dX4_goOn_17 (by decide) (fun h2 => ?_) (fun h2 => ?_)
  · exact z_vret hC dX4_goOn_42
  · refine z_aload_n hC dX4_goOn_20 rfl ?_
    refine z_dup hC dX4_goOn_21 rfl ?_
    refine z_geti hC wf_X4_44 dX4_goOn_22 ltC_24 layC_24 rfl ?_
    refine z_sipush hC dX4_goOn_25 ks_1440 ?_
    refine z_isub hC dX4_goOn_28 ?_
    refine z_puti hC wp_X4_44 dX4_goOn_29 ltC_24 layC_24 rfl ?_
    refine z_let (fun σ3 _ => ?_)
    refine z_aload_n hC dX4_goOn_32 rfl ?_
    refine z_dup hC dX4_goOn_33 rfl ?_
    refine z_geti hC wf_X4_47 dX4_goOn_34 ltC_24 layC_24 rfl ?_
    refine z_iconst hC dX4_goOn_37 ki_1 ?_
    refine z_iadd hC dX4_goOn_38 ?_
    refine z_puti hC wp_X4_47 dX4_goOn_39 ltC_24 layC_24 rfl ?_
    refine z_let (fun σ4 _ => ?_)
    exact z_vret hC dX4_goOn_42
theorem c_X4_goOn (p1 : Int32) : zM layC nC yX4_goOn cX4_goOn 2 none (zRm 0 0) (fun ad => [.ref (ad 24), .int p1]) (f_X4_goOn p1) := zM_of (own := RX4) (by decide) rfl (fun ad w hw => by simp only [List.mem_cons, List.not_mem_nil, or_false] at hw; (first | exact hw.elim | (rcases hw with rfl | rfl <;> rfl))) (fun ad => Nat.le_of_ble_eq_true rfl) (fun Γ ad hC σ => w_X4_goOn hC p1 σ)
set_option maxRecDepth 100000 in
set_option maxHeartbeats 4000000 in
theorem w_X7_isCounter {Γ : zG} {ad : Nat → Nat} (hC : zX Γ layC nC ad cX7_isCounter RX7 1 (zRm 0 0) (some .boolean)) (p0 : Int32) (σ : zS) : zK Γ layC nC ad 1 (some .boolean) 0 [some (.int p0)] [] σ (f_X7_isCounter p0 σ) some := by
  unfold f_X7_isCounter
  refine z_iload_n hC dX7_isCounter_0 rfl ?_
  refine z_if_lt hC 14 dX7_isCounter_1 (by decide) (fun h1 => ?_) (fun h1 => ?_)
  · refine z_iconst hC dX7_isCounter_14 ki_0 ?_
    exact z_zret hC (by decide) dX7_isCounter_15
  · refine z_iload_n hC dX7_isCounter_4 rfl ?_
    refine z_bipush hC dX7_isCounter_5 kb_8 ?_
    refine z_icmp_ge hC 14 dX7_isCounter_7 (by decide) (fun h2 => ?_) (fun h2 => ?_)
    · refine z_iconst hC dX7_isCounter_14 ki_0 ?_
      exact z_zret hC (by decide) dX7_isCounter_15
    · refine z_iconst hC dX7_isCounter_10 ki_1 ?_
      refine z_goto hC 15 dX7_isCounter_11 (by decide) ?_
      exact z_zret hC (by decide) dX7_isCounter_15
theorem c_X7_isCounter (p0 : Int32) : zM layC nC yX7_isCounter cX7_isCounter 1 (some .boolean) (zRm 0 0) (fun ad => [.int p0]) (f_X7_isCounter p0) := zM_of (own := RX7) (by decide) rfl (fun ad w hw => by simp only [List.mem_cons, List.not_mem_nil, or_false] at hw; (first | exact hw.elim | (rcases hw with rfl <;> rfl))) (fun ad => Nat.le_of_ble_eq_true rfl) (fun Γ ad hC σ => w_X7_isCounter hC p0 σ)
set_option maxRecDepth 100000 in
set_option maxHeartbeats 4000000 in
theorem w_X4_growCounter {Γ : zG} {ad : Nat → Nat} (hC : zX Γ layC nC ad cX4_growCounter RX4 3 (zRm 1 21) none) (p1 : Int32) (p2 : Int32) (σ : zS) : zK Γ layC nC ad 3 none 0 [some (.ref (ad 24)), some (.int p1), some (.int p2)] [] σ (f_X4_growCounter p1 p2 σ) some := by
  unfold f_X4_growCounter
  refine z_iload_n hC dX4_growCounter_0 rfl ?_
  refine z_callSNi hC [.int p1] (c_X7_isCounter p1) yy_X7_isCounter (host := "TurnClock") (by decide) dX4_growCounter_1 rfl rfl rfl (Nat.le_of_ble_eq_true rfl) (by decide) (fun r1 σ2 _ => ?_)
  refine z_if_eq hC 33 dX4_growCounter_4 (by decide) (fun h3 => ?_) (fun h3 => ?_)
  · exact z_vret hC dX4_growCounter_33
  · refine z_aload_n hC dX4_growCounter_7 rfl ?_
    refine z_getr hC wf_X4_22 dX4_growCounter_8 ltC_24 layC_24 rfl ?_
    refine z_iload_n hC dX4_growCounter_11 rfl ?_
    refine z_sipush hC dX4_growCounter_12 ks_m1000 ?_
    refine z_sipush hC dX4_growCounter_15 ks_1000 ?_
    refine z_aload_n hC dX4_growCounter_18 rfl ?_
    refine z_getr hC wf_X4_22 dX4_growCounter_19 ltC_24 layC_24 rfl ?_
    refine z_iload_n hC dX4_growCounter_22 rfl ?_
    refine z_iald hC dX4_growCounter_23 ltC_27 layC_27 (fun h4 => ?_)
    refine z_iload_n hC dX4_growCounter_24 rfl ?_
    refine z_iadd hC dX4_growCounter_25 ?_
    refine z_mmin hC wl_X4_54 wm_mins wm_mth wm_minc dX4_growCounter_26 (by exact ⟨Nat.le_of_ble_eq_true rfl, Nat.le_of_ble_eq_true rfl⟩) ?_
    refine z_mmax hC wl_X4_60 wm_maxs wm_mth wm_maxc dX4_growCounter_29 (by exact ⟨Nat.le_of_ble_eq_true rfl, Nat.le_of_ble_eq_true rfl⟩) ?_
    refine z_iast hC dX4_growCounter_32 ltC_27 layC_27 (fun h5 => ?_)
    refine z_let (fun σ6 _ => ?_)
    exact z_vret hC dX4_growCounter_33
theorem c_X4_growCounter (p1 : Int32) (p2 : Int32) : zM layC nC yX4_growCounter cX4_growCounter 3 none (zRm 1 21) (fun ad => [.ref (ad 24), .int p1, .int p2]) (f_X4_growCounter p1 p2) := zM_of (own := RX4) (by decide) rfl (fun ad w hw => by simp only [List.mem_cons, List.not_mem_nil, or_false] at hw; (first | exact hw.elim | (rcases hw with rfl | rfl | rfl <;> rfl))) (fun ad => Nat.le_of_ble_eq_true rfl) (fun Γ ad hC σ => w_X4_growCounter hC p1 p2 σ)
set_option maxRecDepth 100000 in
set_option maxHeartbeats 4000000 in
theorem w_X6_addTimer {Γ : zG} {ad : Nat → Nat} (hC : zX Γ layC nC ad cX6_addTimer RX6 4 (zRm 0 0) (some .int)) (p1 : Int32) (p2 : Int32) (p3 : Int32) (σ : zS) : zK Γ layC nC ad 4 (some .int) 0 [some (.ref (ad 17)), some (.int p1), some (.int p2), some (.int p3)] [] σ (f_X6_addTimer p1 p2 p3 σ) some := by
  unfold f_X6_addTimer
  refine z_aload_n hC dX6_addTimer_0 rfl ?_
  refine z_geti hC wf_X6_22 dX6_addTimer_1 ltC_17 layC_17 rfl ?_
  refine z_bipush hC dX6_addTimer_4 kb_12 ?_
  refine z_icmp_lt hC 12 dX6_addTimer_6 (by decide) (fun h1 => ?_) (fun h1 => ?_)
  · refine z_aload_n hC dX6_addTimer_12 rfl ?_
    refine z_getr hC wf_X6_9 dX6_addTimer_13 ltC_17 layC_17 rfl ?_
    refine z_aload_n hC dX6_addTimer_16 rfl ?_
    refine z_geti hC wf_X6_22 dX6_addTimer_17 ltC_17 layC_17 rfl ?_
    refine z_iload_n hC dX6_addTimer_20 rfl ?_
    refine z_iast hC dX6_addTimer_21 ltC_18 layC_18 (fun h2 => ?_)
    refine z_let (fun σ3 _ => ?_)
    refine z_aload_n hC dX6_addTimer_22 rfl ?_
    refine z_getr hC wf_X6_15 dX6_addTimer_23 ltC_17 layC_17 rfl ?_
    refine z_aload_n hC dX6_addTimer_26 rfl ?_
    refine z_geti hC wf_X6_22 dX6_addTimer_27 ltC_17 layC_17 rfl ?_
    refine z_iload_n hC dX6_addTimer_30 rfl ?_
    refine z_iast hC dX6_addTimer_31 ltC_19 layC_19 (fun h4 => ?_)
    refine z_let (fun σ5 _ => ?_)
    refine z_aload_n hC dX6_addTimer_32 rfl ?_
    refine z_getr hC wf_X6_18 dX6_addTimer_33 ltC_17 layC_17 rfl ?_
    refine z_aload_n hC dX6_addTimer_36 rfl ?_
    refine z_geti hC wf_X6_22 dX6_addTimer_37 ltC_17 layC_17 rfl ?_
    refine z_iload_n hC dX6_addTimer_40 rfl ?_
    refine z_zast hC dX6_addTimer_41 ltC_20 layC_20 (fun h6 => ?_)
    refine z_let (fun σ7 _ => ?_)
    refine z_aload_n hC dX6_addTimer_42 rfl ?_
    refine z_dup hC dX6_addTimer_43 rfl ?_
    refine z_geti hC wf_X6_22 dX6_addTimer_44 ltC_17 layC_17 rfl ?_
    refine z_iconst hC dX6_addTimer_47 ki_1 ?_
    refine z_iadd hC dX6_addTimer_48 ?_
    refine z_puti hC wp_X6_22 dX6_addTimer_49 ltC_17 layC_17 rfl ?_
    refine z_let (fun σ8 _ => ?_)
    refine z_aload_n hC dX6_addTimer_52 rfl ?_
    refine z_geti hC wf_X6_22 dX6_addTimer_53 ltC_17 layC_17 rfl ?_
    refine z_iconst hC dX6_addTimer_56 ki_1 ?_
    refine z_isub hC dX6_addTimer_57 ?_
    exact z_iret hC dX6_addTimer_58
  · refine z_bipush hC dX6_addTimer_9 kb_m5 ?_
    exact z_iret hC dX6_addTimer_11
theorem c_X6_addTimer (p1 : Int32) (p2 : Int32) (p3 : Int32) : zM layC nC yX6_addTimer cX6_addTimer 4 (some .int) (zRm 0 0) (fun ad => [.ref (ad 17), .int p1, .int p2, .int p3]) (f_X6_addTimer p1 p2 p3) := zM_of (own := RX6) (by decide) rfl (fun ad w hw => by simp only [List.mem_cons, List.not_mem_nil, or_false] at hw; (first | exact hw.elim | (rcases hw with rfl | rfl | rfl | rfl <;> rfl))) (fun ad => Nat.le_of_ble_eq_true rfl) (fun Γ ad hC σ => w_X6_addTimer hC p1 p2 p3 σ)
set_option maxRecDepth 100000 in
set_option maxHeartbeats 4000000 in
theorem w_X7_isThere {Γ : zG} {ad : Nat → Nat} (hC : zX Γ layC nC ad cX7_isThere RX7 2 (zRm 0 0) (some .boolean)) (p0 : Int32) (p1 : Int32) (σ : zS) : zK Γ layC nC ad 2 (some .boolean) 0 [some (.int p0), some (.int p1)] [] σ (f_X7_isThere p0 p1 σ) some := by
  unfold f_X7_isThere
  refine z_iload_n hC dX7_isThere_0 rfl ?_
  refine z_if_lt hC 13 dX7_isThere_1 (by decide) (fun h1 => ?_) (fun h1 => ?_)
  · refine z_iconst hC dX7_isThere_13 ki_0 ?_
    exact z_zret hC (by decide) dX7_isThere_14
  · refine z_iload_n hC dX7_isThere_4 rfl ?_
    refine z_iload_n hC dX7_isThere_5 rfl ?_
    refine z_icmp_ge hC 13 dX7_isThere_6 (by decide) (fun h2 => ?_) (fun h2 => ?_)
    · refine z_iconst hC dX7_isThere_13 ki_0 ?_
      exact z_zret hC (by decide) dX7_isThere_14
    · refine z_iconst hC dX7_isThere_9 ki_1 ?_
      refine z_goto hC 14 dX7_isThere_10 (by decide) ?_
      exact z_zret hC (by decide) dX7_isThere_14
theorem c_X7_isThere (p0 : Int32) (p1 : Int32) : zM layC nC yX7_isThere cX7_isThere 2 (some .boolean) (zRm 0 0) (fun ad => [.int p0, .int p1]) (f_X7_isThere p0 p1) := zM_of (own := RX7) (by decide) rfl (fun ad w hw => by simp only [List.mem_cons, List.not_mem_nil, or_false] at hw; (first | exact hw.elim | (rcases hw with rfl | rfl <;> rfl))) (fun ad => Nat.le_of_ble_eq_true rfl) (fun Γ ad hC σ => w_X7_isThere hC p0 p1 σ)
set_option maxRecDepth 100000 in
set_option maxHeartbeats 4000000 in
theorem t_X5_dropOldest_L9 {Γ : zG} {ad : Nat → Nat} (hC : zX Γ layC nC ad cX5_dropOldest RX5 3 (zRm 0 0) none) (m1 : Nat) (hm1 : m1 < 9) (a0 : Int32 × zS) (K : Bool × (Int32 × zS) → Option (Int32 × zS)) (hc : ∀ (x0 : Int32) (s' : zS), zZ Γ layC nC ad 3 none 9 [some (.ref (ad 34)), some (.ref (ad (z_mo m1))), some (.int x0)] [] s' (K (true, (x0, s')))) (hx : ∀ (x0 : Int32) (s' : zS), zZ Γ layC nC ad 3 none 35 [some (.ref (ad 34)), some (.ref (ad (z_mo m1))), some (.int x0)] [] s' (K (false, (x0, s')))) : zK Γ layC nC ad 3 none 9 [some (.ref (ad 34)), some (.ref (ad (z_mo m1))), some (.int a0.1)] [] (a0.2) (b_X5_dropOldest_L9 m1 a0) K := by
  unfold b_X5_dropOldest_L9
  refine z_iload_n hC dX5_dropOldest_9 rfl ?_
  refine z_bipush hC dX5_dropOldest_10 kb_8 ?_
  refine z_icmp_ge hC 35 dX5_dropOldest_12 (by decide) (fun h3 => ?_) (fun h3 => ?_)
  · exact z_leaf (hx a0.1 a0.2)
  · refine z_aload_n hC dX5_dropOldest_15 rfl ?_
    refine z_getr hC wf_X5_11 dX5_dropOldest_16 ltC_34 layC_34 rfl ?_
    refine z_iload_n hC dX5_dropOldest_19 rfl ?_
    refine z_iconst hC dX5_dropOldest_20 ki_1 ?_
    refine z_isub hC dX5_dropOldest_21 ?_
    refine z_aload_n hC dX5_dropOldest_22 rfl ?_
    refine z_getr hC wf_X5_11 dX5_dropOldest_23 ltC_34 layC_34 rfl ?_
    refine z_iload_n hC dX5_dropOldest_26 rfl ?_
    refine z_aald hC dX5_dropOldest_27 ltC_35 layC_35 (fun h4 => ?_)
    refine z_chk (fun h5 => ?_)
    refine z_aast (x := (a0.2 35 a0.1.toNatClampNeg)) hC dX5_dropOldest_28 ltC_35 layC_35 (ltC_m0 h5) (layC_m0 h5) (fun h6 => ?_)
    refine z_let (fun σ7 _ => ?_)
    refine z_iinc hC dX5_dropOldest_29 (lv' := [some (.ref (ad 34)), some (.ref (ad (z_mo m1))), some (.int (a0.1 + 1))]) rfl (by decide) ki_1 rfl ?_
    refine z_goto hC 9 dX5_dropOldest_32 (by decide) ?_
    exact z_leaf (hc (a0.1 + 1) σ7)
set_option maxRecDepth 100000 in
set_option maxHeartbeats 4000000 in
theorem w_X5_dropOldest {Γ : zG} {ad : Nat → Nat} (hC : zX Γ layC nC ad cX5_dropOldest RX5 3 (zRm 0 0) none) (σ : zS) : zK Γ layC nC ad 3 none 0 [some (.ref (ad 34)), none, none] [] σ (f_X5_dropOldest σ) some := by
  unfold f_X5_dropOldest
  refine z_aload_n hC dX5_dropOldest_0 rfl ?_
  refine z_getr hC wf_X5_11 dX5_dropOldest_1 ltC_34 layC_34 rfl ?_
  refine z_iconst hC dX5_dropOldest_4 ki_0 ?_
  refine z_aald hC dX5_dropOldest_5 ltC_35 layC_35 (fun h1 => ?_)
  refine z_chk (fun h2 => ?_)
  refine z_astore_n hC dX5_dropOldest_6 (lv' := [some (.ref (ad 34)), some (.ref (ad (z_mo (σ 35 (0 : Int32).toNatClampNeg).toNatClampNeg))), none]) (by decide) rfl ?_
  refine z_iconst hC dX5_dropOldest_7 ki_1 ?_
  refine z_istore_n hC dX5_dropOldest_8 (lv' := [some (.ref (ad 34)), some (.ref (ad (z_mo (σ 35 (0 : Int32).toNatClampNeg).toNatClampNeg))), some (.int 1)]) (by decide) rfl ?_
  refine z_lpb (lvf := fun z : Int32 × zS => [some (.ref (ad 34)), some (.ref (ad (z_mo (σ 35 (0 : Int32).toNatClampNeg).toNatClampNeg))), some (.int z.1)]) (sg := fun z => z.2) (x := 35) zfuel (1, σ) rfl rfl (fun z K hc hx => t_X5_dropOldest_L9 hC ((σ 35 (0 : Int32).toNatClampNeg).toNatClampNeg) h2 z K (fun x0 s' => hc (x0, s')) (fun x0 s' => hx (x0, s'))) (fun a8 => ?_)
  refine z_aload_n hC dX5_dropOldest_35 rfl ?_
  refine z_getr hC wf_X5_11 dX5_dropOldest_36 ltC_34 layC_34 rfl ?_
  refine z_bipush hC dX5_dropOldest_39 kb_7 ?_
  refine z_aload_n hC dX5_dropOldest_41 rfl ?_
  refine z_aast (x := (σ 35 (0 : Int32).toNatClampNeg)) hC dX5_dropOldest_42 ltC_35 layC_35 (ltC_m0 h2) (layC_m0 h2) (fun h9 => ?_)
  refine z_let (fun σ10 _ => ?_)
  refine z_aload_n hC dX5_dropOldest_43 rfl ?_
  refine z_bipush hC dX5_dropOldest_44 kb_7 ?_
  refine z_puti hC wp_X5_18 dX5_dropOldest_46 ltC_34 layC_34 rfl ?_
  refine z_let (fun σ11 _ => ?_)
  exact z_vret hC dX5_dropOldest_49
theorem c_X5_dropOldest : zM layC nC yX5_dropOldest cX5_dropOldest 3 none (zRm 0 0) (fun ad => [.ref (ad 34)]) (f_X5_dropOldest) := zM_of (own := RX5) (by decide) rfl (fun ad w hw => by simp only [List.mem_cons, List.not_mem_nil, or_false] at hw; (first | exact hw.elim | (rcases hw with rfl <;> rfl))) (fun ad => Nat.le_of_ble_eq_true rfl) (fun Γ ad hC σ => w_X5_dropOldest hC σ)
set_option maxRecDepth 100000 in
set_option maxHeartbeats 4000000 in
theorem w_X5_giveBack {Γ : zG} {ad : Nat → Nat} (hC : zX Γ layC nC ad cX5_giveBack RX5 2 (zRm 2 69) none) (σ : zS) : zK Γ layC nC ad 2 none 0 [some (.ref (ad 34)), some (.ref (ad 24))] [] σ (f_X5_giveBack σ) some := by
  unfold f_X5_giveBack
  refine z_aload_n hC dX5_giveBack_0 rfl ?_
  refine z_geti hC wf_X5_18 dX5_giveBack_1 ltC_34 layC_34 rfl ?_
  refine z_if_le hC 30 dX5_giveBack_4 (by decide) (fun h1 => ?_) (fun h1 => ?_)
  · exact z_vret hC dX5_giveBack_30
  · refine z_aload_n hC dX5_giveBack_7 rfl ?_
    refine z_dup hC dX5_giveBack_8 rfl ?_
    refine z_geti hC wf_X5_18 dX5_giveBack_9 ltC_34 layC_34 rfl ?_
    refine z_iconst hC dX5_giveBack_12 ki_1 ?_
    refine z_isub hC dX5_giveBack_13 ?_
    refine z_puti hC wp_X5_18 dX5_giveBack_14 ltC_34 layC_34 rfl ?_
    refine z_let (fun σ2 _ => ?_)
    refine z_aload_n hC dX5_giveBack_17 rfl ?_
    refine z_aload_n hC dX5_giveBack_18 rfl ?_
    refine z_getr hC wf_X5_11 dX5_giveBack_19 ltC_34 layC_34 rfl ?_
    refine z_aload_n hC dX5_giveBack_22 rfl ?_
    refine z_geti hC wf_X5_18 dX5_giveBack_23 ltC_34 layC_34 rfl ?_
    refine z_aald hC dX5_giveBack_26 ltC_35 layC_35 (fun h3 => ?_)
    refine z_chk (fun h4 => ?_)
    refine z_callVv hC [.ref (ad (z_mo (σ2 35 (σ2 34 0).toNatClampNeg).toNatClampNeg))] (c_X4_copyFrom 0 ((σ2 35 (σ2 34 0).toNatClampNeg).toNatClampNeg) (by decide) h4) yy_X4_copyFrom wl_X5_25 dX5_giveBack_27 ltC_24 layC_24 vcz_X4 rfl rfl rfl (Nat.le_of_ble_eq_true rfl) (by decide) (fun r5 σ6 _ => ?_)
    exact z_vret hC dX5_giveBack_30
theorem c_X5_giveBack : zM layC nC yX5_giveBack cX5_giveBack 2 none (zRm 2 69) (fun ad => [.ref (ad 34), .ref (ad 24)]) (f_X5_giveBack) := zM_of (own := RX5) (by decide) rfl (fun ad w hw => by simp only [List.mem_cons, List.not_mem_nil, or_false] at hw; (first | exact hw.elim | (rcases hw with rfl | rfl <;> rfl))) (fun ad => Nat.le_of_ble_eq_true rfl) (fun Γ ad hC σ => w_X5_giveBack hC σ)
set_option maxRecDepth 100000 in
set_option maxHeartbeats 4000000 in
theorem w_X5_keep {Γ : zG} {ad : Nat → Nat} (hC : zX Γ layC nC ad cX5_keep RX5 2 (zRm 2 69) none) (σ : zS) : zK Γ layC nC ad 2 none 0 [some (.ref (ad 34)), some (.ref (ad 24))] [] σ (f_X5_keep σ) some := by
  unfold f_X5_keep
  refine z_aload_n hC dX5_keep_0 rfl ?_
  refine z_geti hC wf_X5_18 dX5_keep_1 ltC_34 layC_34 rfl ?_
  refine z_bipush hC dX5_keep_4 kb_8 ?_
  refine z_icmp_lt hC 13 dX5_keep_6 (by decide) (fun h1 => ?_) (fun h1 => ?_)
  · refine z_aload_n hC dX5_keep_13 rfl ?_
    refine z_getr hC wf_X5_11 dX5_keep_14 ltC_34 layC_34 rfl ?_
    refine z_aload_n hC dX5_keep_17 rfl ?_
    refine z_geti hC wf_X5_18 dX5_keep_18 ltC_34 layC_34 rfl ?_
    refine z_aald hC dX5_keep_21 ltC_35 layC_35 (fun h2 => ?_)
    refine z_chk (fun h3 => ?_)
    refine z_aload_n hC dX5_keep_22 rfl ?_
    refine z_callVv hC [.ref (ad 24)] (c_X4_copyFrom ((σ 35 (σ 34 0).toNatClampNeg).toNatClampNeg) 0 h3 (by decide)) yy_X4_copyFrom wl_X5_25 dX5_keep_23 (ltC_m0 h3) (layC_m0 h3) vcz_X4 rfl rfl rfl (Nat.le_of_ble_eq_true rfl) (by decide) (fun r4 σ5 _ => ?_)
    refine z_aload_n hC dX5_keep_26 rfl ?_
    refine z_dup hC dX5_keep_27 rfl ?_
    refine z_geti hC wf_X5_18 dX5_keep_28 ltC_34 layC_34 rfl ?_
    refine z_iconst hC dX5_keep_31 ki_1 ?_
    refine z_iadd hC dX5_keep_32 ?_
    refine z_puti hC wp_X5_18 dX5_keep_33 ltC_34 layC_34 rfl ?_
    refine z_let (fun σ6 _ => ?_)
    exact z_vret hC dX5_keep_36
  · refine z_aload_n hC dX5_keep_9 rfl ?_
    refine z_callVv hC [] c_X5_dropOldest yy_X5_dropOldest wl_X5_22 dX5_keep_10 ltC_34 layC_34 vcz_X5 rfl rfl rfl (Nat.le_of_ble_eq_true rfl) (by decide) (fun r7 σ8 _ => ?_)
    refine z_aload_n hC dX5_keep_13 rfl ?_
    refine z_getr hC wf_X5_11 dX5_keep_14 ltC_34 layC_34 rfl ?_
    refine z_aload_n hC dX5_keep_17 rfl ?_
    refine z_geti hC wf_X5_18 dX5_keep_18 ltC_34 layC_34 rfl ?_
    refine z_aald hC dX5_keep_21 ltC_35 layC_35 (fun h9 => ?_)
    refine z_chk (fun h10 => ?_)
    refine z_aload_n hC dX5_keep_22 rfl ?_
    refine z_callVv hC [.ref (ad 24)] (c_X4_copyFrom ((σ8 35 (σ8 34 0).toNatClampNeg).toNatClampNeg) 0 h10 (by decide)) yy_X4_copyFrom wl_X5_25 dX5_keep_23 (ltC_m0 h10) (layC_m0 h10) vcz_X4 rfl rfl rfl (Nat.le_of_ble_eq_true rfl) (by decide) (fun r11 σ12 _ => ?_)
    refine z_aload_n hC dX5_keep_26 rfl ?_
    refine z_dup hC dX5_keep_27 rfl ?_
    refine z_geti hC wf_X5_18 dX5_keep_28 ltC_34 layC_34 rfl ?_
    refine z_iconst hC dX5_keep_31 ki_1 ?_
    refine z_iadd hC dX5_keep_32 ?_
    refine z_puti hC wp_X5_18 dX5_keep_33 ltC_34 layC_34 rfl ?_
    refine z_let (fun σ13 _ => ?_)
    exact z_vret hC dX5_keep_36
theorem c_X5_keep : zM layC nC yX5_keep cX5_keep 2 none (zRm 2 69) (fun ad => [.ref (ad 34), .ref (ad 24)]) (f_X5_keep) := zM_of (own := RX5) (by decide) rfl (fun ad w hw => by simp only [List.mem_cons, List.not_mem_nil, or_false] at hw; (first | exact hw.elim | (rcases hw with rfl | rfl <;> rfl))) (fun ad => Nat.le_of_ble_eq_true rfl) (fun Γ ad hC σ => w_X5_keep hC σ)
set_option maxRecDepth 100000 in
set_option maxHeartbeats 4000000 in
theorem w_X7_startTimer {Γ : zG} {ad : Nat → Nat} (hC : zX Γ layC nC ad cX7_startTimer RX7 2 (zRm 1 21) none) (p1 : Int32) (σ : zS) : zK Γ layC nC ad 2 none 0 [some (.ref (ad 0)), some (.int p1)] [] σ (f_X7_startTimer p1 σ) some := by
  unfold f_X7_startTimer
  refine z_iload_n hC dX7_startTimer_0 rfl ?_
  refine z_aload_n hC dX7_startTimer_1 rfl ?_
  refine z_getr hC wf_X7_33 dX7_startTimer_2 ltC_0 layC_0 rfl ?_
  refine z_geti hC wf_X7_178 dX7_startTimer_5 ltC_17 layC_17 rfl ?_
  refine z_callSi hC [.int p1, .int (σ 17 0)] (c_X7_isThere p1 (σ 17 0)) yy_X7_isThere wl_X7_74 dX7_startTimer_8 rfl rfl rfl (Nat.le_of_ble_eq_true rfl) (by decide) (fun r1 σ2 _ => ?_)
  refine z_if_eq hC 39 dX7_startTimer_11 (by decide) (fun h3 => ?_) (fun h3 => ?_)
  · exact z_vret hC dX7_startTimer_39
  · refine z_aload_n hC dX7_startTimer_14 rfl ?_
    refine z_getr hC wf_X7_47 dX7_startTimer_15 ltC_0 layC_0 rfl ?_
    refine z_getr hC wf_X7_183 dX7_startTimer_18 ltC_24 layC_24 rfl ?_
    refine z_iload_n hC dX7_startTimer_21 rfl ?_
    refine z_aload_n hC dX7_startTimer_22 rfl ?_
    refine z_getr hC wf_X7_33 dX7_startTimer_23 ltC_0 layC_0 rfl ?_
    refine z_getr hC wf_X7_251 dX7_startTimer_26 ltC_17 layC_17 rfl ?_
    refine z_iload_n hC dX7_startTimer_29 rfl ?_
    refine z_iald hC dX7_startTimer_30 ltC_19 layC_19 (fun h4 => ?_)
    refine z_iast hC dX7_startTimer_31 ltC_31 layC_31 (fun h5 => ?_)
    refine z_let (fun σ6 _ => ?_)
    refine z_aload_n hC dX7_startTimer_32 rfl ?_
    refine z_getr hC wf_X7_58 dX7_startTimer_33 ltC_0 layC_0 rfl ?_
    refine z_iload_n hC dX7_startTimer_36 rfl ?_
    refine z_iconst hC dX7_startTimer_37 ki_1 ?_
    refine z_zast hC dX7_startTimer_38 ltC_116 layC_116 (fun h7 => ?_)
    refine z_let (fun σ8 _ => ?_)
    exact z_vret hC dX7_startTimer_39
theorem c_X7_startTimer (p1 : Int32) : zM layC nC yX7_startTimer cX7_startTimer 2 none (zRm 1 21) (fun ad => [.ref (ad 0), .int p1]) (f_X7_startTimer p1) := zM_of (own := RX7) (by decide) rfl (fun ad w hw => by simp only [List.mem_cons, List.not_mem_nil, or_false] at hw; (first | exact hw.elim | (rcases hw with rfl | rfl <;> rfl))) (fun ad => Nat.le_of_ble_eq_true rfl) (fun Γ ad hC σ => w_X7_startTimer hC p1 σ)
set_option maxRecDepth 100000 in
set_option maxHeartbeats 4000000 in
theorem w_X7_stopTimer {Γ : zG} {ad : Nat → Nat} (hC : zX Γ layC nC ad cX7_stopTimer RX7 2 (zRm 1 21) none) (p1 : Int32) (σ : zS) : zK Γ layC nC ad 2 none 0 [some (.ref (ad 0)), some (.int p1)] [] σ (f_X7_stopTimer p1 σ) some := by
  unfold f_X7_stopTimer
  refine z_iload_n hC dX7_stopTimer_0 rfl ?_
  refine z_aload_n hC dX7_stopTimer_1 rfl ?_
  refine z_getr hC wf_X7_33 dX7_stopTimer_2 ltC_0 layC_0 rfl ?_
  refine z_geti hC wf_X7_178 dX7_stopTimer_5 ltC_17 layC_17 rfl ?_
  refine z_callSi hC [.int p1, .int (σ 17 0)] (c_X7_isThere p1 (σ 17 0)) yy_X7_isThere wl_X7_74 dX7_stopTimer_8 rfl rfl rfl (Nat.le_of_ble_eq_true rfl) (by decide) (fun r1 σ2 _ => ?_)
  refine z_if_eq hC 24 dX7_stopTimer_11 (by decide) (fun h3 => ?_) (fun h3 => ?_)
  · exact z_vret hC dX7_stopTimer_24
  · refine z_aload_n hC dX7_stopTimer_14 rfl ?_
    refine z_getr hC wf_X7_47 dX7_stopTimer_15 ltC_0 layC_0 rfl ?_
    refine z_getr hC wf_X7_183 dX7_stopTimer_18 ltC_24 layC_24 rfl ?_
    refine z_iload_n hC dX7_stopTimer_21 rfl ?_
    refine z_iconst hC dX7_stopTimer_22 ki_0 ?_
    refine z_iast hC dX7_stopTimer_23 ltC_31 layC_31 (fun h4 => ?_)
    refine z_let (fun σ5 _ => ?_)
    exact z_vret hC dX7_stopTimer_24
theorem c_X7_stopTimer (p1 : Int32) : zM layC nC yX7_stopTimer cX7_stopTimer 2 none (zRm 1 21) (fun ad => [.ref (ad 0), .int p1]) (f_X7_stopTimer p1) := zM_of (own := RX7) (by decide) rfl (fun ad w hw => by simp only [List.mem_cons, List.not_mem_nil, or_false] at hw; (first | exact hw.elim | (rcases hw with rfl | rfl <;> rfl))) (fun ad => Nat.le_of_ble_eq_true rfl) (fun Γ ad hC σ => w_X7_stopTimer hC p1 σ)
set_option maxRecDepth 100000 in
set_option maxHeartbeats 4000000 in
theorem w_X7_switchDaemon {Γ : zG} {ad : Nat → Nat} (hC : zX Γ layC nC ad cX7_switchDaemon RX7 3 (zRm 1 21) none) (p1 : Int32) (p2 : Int32) (σ : zS) : zK Γ layC nC ad 3 none 0 [some (.ref (ad 0)), some (.int p1), some (.int p2)] [] σ (f_X7_switchDaemon p1 p2 σ) some := by
  unfold f_X7_switchDaemon
  refine z_iload_n hC dX7_switchDaemon_0 rfl ?_
  refine z_aload_n hC dX7_switchDaemon_1 rfl ?_
  refine z_getr hC wf_X7_40 dX7_switchDaemon_2 ltC_0 layC_0 rfl ?_
  refine z_geti hC wf_X7_179 dX7_switchDaemon_5 ltC_21 layC_21 rfl ?_
  refine z_callSi hC [.int p1, .int (σ 21 0)] (c_X7_isThere p1 (σ 21 0)) yy_X7_isThere wl_X7_74 dX7_switchDaemon_8 rfl rfl rfl (Nat.le_of_ble_eq_true rfl) (by decide) (fun r1 σ2 _ => ?_)
  refine z_if_eq hC 24 dX7_switchDaemon_11 (by decide) (fun h3 => ?_) (fun h3 => ?_)
  · exact z_vret hC dX7_switchDaemon_24
  · refine z_aload_n hC dX7_switchDaemon_14 rfl ?_
    refine z_getr hC wf_X7_47 dX7_switchDaemon_15 ltC_0 layC_0 rfl ?_
    refine z_getr hC wf_X7_186 dX7_switchDaemon_18 ltC_24 layC_24 rfl ?_
    refine z_iload_n hC dX7_switchDaemon_21 rfl ?_
    refine z_iload_n hC dX7_switchDaemon_22 rfl ?_
    refine z_zast hC dX7_switchDaemon_23 ltC_32 layC_32 (fun h4 => ?_)
    refine z_let (fun σ5 _ => ?_)
    exact z_vret hC dX7_switchDaemon_24
theorem c_X7_switchDaemon (p1 : Int32) (p2 : Int32) : zM layC nC yX7_switchDaemon cX7_switchDaemon 3 none (zRm 1 21) (fun ad => [.ref (ad 0), .int p1, .int p2]) (f_X7_switchDaemon p1 p2) := zM_of (own := RX7) (by decide) rfl (fun ad w hw => by simp only [List.mem_cons, List.not_mem_nil, or_false] at hw; (first | exact hw.elim | (rcases hw with rfl | rfl | rfl <;> rfl))) (fun ad => Nat.le_of_ble_eq_true rfl) (fun Γ ad hC σ => w_X7_switchDaemon hC p1 p2 σ)
set_option maxRecDepth 100000 in
set_option maxHeartbeats 4000000 in
theorem w_X7_turnDoor {Γ : zG} {ad : Nat → Nat} (hC : zX Γ layC nC ad cX7_turnDoor RX7 2 (zRm 1 21) none) (p1 : Int32) (σ : zS) : zK Γ layC nC ad 2 none 0 [some (.ref (ad 0)), some (.int p1)] [] σ (f_X7_turnDoor p1 σ) some := by
  unfold f_X7_turnDoor
  refine z_iload_n hC dX7_turnDoor_0 rfl ?_
  refine z_aload_n hC dX7_turnDoor_1 rfl ?_
  refine z_getr hC wf_X7_12 dX7_turnDoor_2 ltC_0 layC_0 rfl ?_
  refine z_geti hC wf_X7_174 dX7_turnDoor_5 ltC_1 layC_1 rfl ?_
  refine z_callSi hC [.int p1, .int (σ 1 1)] (c_X7_isThere p1 (σ 1 1)) yy_X7_isThere wl_X7_74 dX7_turnDoor_8 rfl rfl rfl (Nat.le_of_ble_eq_true rfl) (by decide) (fun r1 σ2 _ => ?_)
  refine z_if_eq hC 40 dX7_turnDoor_11 (by decide) (fun h3 => ?_) (fun h3 => ?_)
  · exact z_vret hC dX7_turnDoor_40
  · refine z_aload_n hC dX7_turnDoor_14 rfl ?_
    refine z_getr hC wf_X7_47 dX7_turnDoor_15 ltC_0 layC_0 rfl ?_
    refine z_getr hC wf_X7_193 dX7_turnDoor_18 ltC_24 layC_24 rfl ?_
    refine z_iload_n hC dX7_turnDoor_21 rfl ?_
    refine z_aload_n hC dX7_turnDoor_22 rfl ?_
    refine z_getr hC wf_X7_47 dX7_turnDoor_23 ltC_0 layC_0 rfl ?_
    refine z_getr hC wf_X7_193 dX7_turnDoor_26 ltC_24 layC_24 rfl ?_
    refine z_iload_n hC dX7_turnDoor_29 rfl ?_
    refine z_zald hC dX7_turnDoor_30 ltC_28 layC_28 (fun h4 => ?_)
    refine z_if_ne hC 38 dX7_turnDoor_31 (by decide) (fun h5 => ?_) (fun h5 => ?_)
    · refine z_iconst hC dX7_turnDoor_38 ki_0 ?_
      refine z_zast hC dX7_turnDoor_39 ltC_28 layC_28 (fun h6 => ?_)
      refine z_let (fun σ7 _ => ?_)
      exact z_vret hC dX7_turnDoor_40
    · refine z_iconst hC dX7_turnDoor_34 ki_1 ?_
      refine z_goto hC 39 dX7_turnDoor_35 (by decide) ?_
      refine z_zast hC dX7_turnDoor_39 ltC_28 layC_28 (fun h8 => ?_)
      refine z_let (fun σ9 _ => ?_)
      exact z_vret hC dX7_turnDoor_40
theorem c_X7_turnDoor (p1 : Int32) : zM layC nC yX7_turnDoor cX7_turnDoor 2 none (zRm 1 21) (fun ad => [.ref (ad 0), .int p1]) (f_X7_turnDoor p1) := zM_of (own := RX7) (by decide) rfl (fun ad w hw => by simp only [List.mem_cons, List.not_mem_nil, or_false] at hw; (first | exact hw.elim | (rcases hw with rfl | rfl <;> rfl))) (fun ad => Nat.le_of_ble_eq_true rfl) (fun Γ ad hC σ => w_X7_turnDoor hC p1 σ)
set_option maxRecDepth 100000 in
set_option maxHeartbeats 4000000 in
theorem w_X7_giveGoal {Γ : zG} {ad : Nat → Nat} (hC : zX Γ layC nC ad cX7_giveGoal RX7 3 (zRm 1 21) none) (p1 : Int32) (p2 : Int32) (σ : zS) : zK Γ layC nC ad 3 none 0 [some (.ref (ad 0)), some (.int p1), some (.int p2)] [] σ (f_X7_giveGoal p1 p2 σ) some := by
  unfold f_X7_giveGoal
  refine z_iload_n hC dX7_giveGoal_0 rfl ?_
  refine z_aload_n hC dX7_giveGoal_1 rfl ?_
  refine z_getr hC wf_X7_12 dX7_giveGoal_2 ltC_0 layC_0 rfl ?_
  refine z_geti hC wf_X7_85 dX7_giveGoal_5 ltC_1 layC_1 rfl ?_
  refine z_callSi hC [.int p1, .int (σ 1 2)] (c_X7_isThere p1 (σ 1 2)) yy_X7_isThere wl_X7_74 dX7_giveGoal_8 rfl rfl rfl (Nat.le_of_ble_eq_true rfl) (by decide) (fun r1 σ2 _ => ?_)
  refine z_if_eq hC 55 dX7_giveGoal_11 (by decide) (fun h3 => ?_) (fun h3 => ?_)
  · exact z_vret hC dX7_giveGoal_55
  · refine z_iload_n hC dX7_giveGoal_14 rfl ?_
    refine z_aload_n hC dX7_giveGoal_15 rfl ?_
    refine z_getr hC wf_X7_12 dX7_giveGoal_16 ltC_0 layC_0 rfl ?_
    refine z_geti hC wf_X7_70 dX7_giveGoal_19 ltC_1 layC_1 rfl ?_
    refine z_callSi hC [.int p2, .int (σ2 1 0)] (c_X7_isThere p2 (σ2 1 0)) yy_X7_isThere wl_X7_74 dX7_giveGoal_22 rfl rfl rfl (Nat.le_of_ble_eq_true rfl) (by decide) (fun r4 σ5 _ => ?_)
    refine z_if_eq hC 55 dX7_giveGoal_25 (by decide) (fun h6 => ?_) (fun h6 => ?_)
    · exact z_vret hC dX7_giveGoal_55
    · refine z_aload_n hC dX7_giveGoal_28 rfl ?_
      refine z_getr hC wf_X7_47 dX7_giveGoal_29 ltC_0 layC_0 rfl ?_
      refine z_getr hC wf_X7_92 dX7_giveGoal_32 ltC_24 layC_24 rfl ?_
      refine z_iload_n hC dX7_giveGoal_35 rfl ?_
      refine z_aload_n hC dX7_giveGoal_36 rfl ?_
      refine z_getr hC wf_X7_47 dX7_giveGoal_37 ltC_0 layC_0 rfl ?_
      refine z_getr hC wf_X7_88 dX7_giveGoal_40 ltC_24 layC_24 rfl ?_
      refine z_iload_n hC dX7_giveGoal_43 rfl ?_
      refine z_iald hC dX7_giveGoal_44 ltC_29 layC_29 (fun h7 => ?_)
      refine z_iload_n hC dX7_giveGoal_45 rfl ?_
      refine z_icmp_ne hC 53 dX7_giveGoal_46 (by decide) (fun h8 => ?_) (fun h8 => ?_)
      · refine z_iload_n hC dX7_giveGoal_53 rfl ?_
        refine z_iast hC dX7_giveGoal_54 ltC_30 layC_30 (fun h9 => ?_)
        refine z_let (fun σ10 _ => ?_)
        exact z_vret hC dX7_giveGoal_55
      · refine z_iconst hC dX7_giveGoal_49 ki_m1 ?_
        refine z_goto hC 54 dX7_giveGoal_50 (by decide) ?_
        refine z_iast hC dX7_giveGoal_54 ltC_30 layC_30 (fun h11 => ?_)
        refine z_let (fun σ12 _ => ?_)
        exact z_vret hC dX7_giveGoal_55
theorem c_X7_giveGoal (p1 : Int32) (p2 : Int32) : zM layC nC yX7_giveGoal cX7_giveGoal 3 none (zRm 1 21) (fun ad => [.ref (ad 0), .int p1, .int p2]) (f_X7_giveGoal p1 p2) := zM_of (own := RX7) (by decide) rfl (fun ad w hw => by simp only [List.mem_cons, List.not_mem_nil, or_false] at hw; (first | exact hw.elim | (rcases hw with rfl | rfl | rfl <;> rfl))) (fun ad => Nat.le_of_ble_eq_true rfl) (fun Γ ad hC σ => w_X7_giveGoal hC p1 p2 σ)
set_option maxRecDepth 100000 in
set_option maxHeartbeats 4000000 in
theorem w_X7_carryOut {Γ : zG} {ad : Nat → Nat} (hC : zX Γ layC nC ad cX7_carryOut RX7 4 (zRm 2 43) none) (p1 : Int32) (p2 : Int32) (p3 : Int32) (σ : zS) : zK Γ layC nC ad 4 none 0 [some (.ref (ad 0)), some (.int p1), some (.int p2), some (.int p3)] [] σ (f_X7_carryOut p1 p2 p3 σ) some := by
  unfold f_X7_carryOut
  refine z_iload_n hC dX7_carryOut_0 rfl ?_
  refine z_ite (fun h1 => ?_) (fun h1 => ?_)
  · refine z_tabIn hC 52 dX7_carryOut_1 0 h1 (by decide) (by decide) rfl (by decide) ?_
    refine z_aload_n hC dX7_carryOut_52 rfl ?_
    refine z_getr hC wf_X7_47 dX7_carryOut_53 ltC_0 layC_0 rfl ?_
    refine z_iload_n hC dX7_carryOut_56 rfl ?_
    refine z_iload_n hC dX7_carryOut_57 rfl ?_
    refine z_callVv hC [.int p2, .int p3] (c_X4_growCounter p2 p3) yy_X4_growCounter wl_X7_281 dX7_carryOut_58 ltC_24 layC_24 vcz_X4 rfl rfl rfl (Nat.le_of_ble_eq_true rfl) (by decide) (fun r2 σ3 _ => ?_)
    refine z_goto hC 148 dX7_carryOut_61 (by decide) ?_
    exact z_vret hC dX7_carryOut_148
  refine z_ite (fun h4 => ?_) (fun h4 => ?_)
  · refine z_tabIn hC 64 dX7_carryOut_1 1 h4 (by decide) (by decide) rfl (by decide) ?_
    refine z_aload_n hC dX7_carryOut_64 rfl ?_
    refine z_iload_n hC dX7_carryOut_65 rfl ?_
    refine z_callVv hC [.int p2] (c_X7_startTimer p2) yy_X7_startTimer wl_X7_284 dX7_carryOut_66 ltC_0 layC_0 vcz_X7 rfl rfl rfl (Nat.le_of_ble_eq_true rfl) (by decide) (fun r5 σ6 _ => ?_)
    refine z_goto hC 148 dX7_carryOut_69 (by decide) ?_
    exact z_vret hC dX7_carryOut_148
  refine z_ite (fun h7 => ?_) (fun h7 => ?_)
  · refine z_tabIn hC 72 dX7_carryOut_1 2 h7 (by decide) (by decide) rfl (by decide) ?_
    refine z_aload_n hC dX7_carryOut_72 rfl ?_
    refine z_iload_n hC dX7_carryOut_73 rfl ?_
    refine z_callVv hC [.int p2] (c_X7_stopTimer p2) yy_X7_stopTimer wl_X7_287 dX7_carryOut_74 ltC_0 layC_0 vcz_X7 rfl rfl rfl (Nat.le_of_ble_eq_true rfl) (by decide) (fun r8 σ9 _ => ?_)
    refine z_goto hC 148 dX7_carryOut_77 (by decide) ?_
    exact z_vret hC dX7_carryOut_148
  refine z_ite (fun h10 => ?_) (fun h10 => ?_)
  · refine z_tabIn hC 80 dX7_carryOut_1 3 h10 (by decide) (by decide) rfl (by decide) ?_
    refine z_aload_n hC dX7_carryOut_80 rfl ?_
    refine z_iload_n hC dX7_carryOut_81 rfl ?_
    refine z_iconst hC dX7_carryOut_82 ki_1 ?_
    refine z_callVv hC [.int p2, .int 1] (c_X7_switchDaemon p2 1) yy_X7_switchDaemon wl_X7_290 dX7_carryOut_83 ltC_0 layC_0 vcz_X7 rfl rfl rfl (Nat.le_of_ble_eq_true rfl) (by decide) (fun r11 σ12 _ => ?_)
    refine z_goto hC 148 dX7_carryOut_86 (by decide) ?_
    exact z_vret hC dX7_carryOut_148
  refine z_ite (fun h13 => ?_) (fun h13 => ?_)
  · refine z_tabIn hC 89 dX7_carryOut_1 4 h13 (by decide) (by decide) rfl (by decide) ?_
    refine z_aload_n hC dX7_carryOut_89 rfl ?_
    refine z_iload_n hC dX7_carryOut_90 rfl ?_
    refine z_iconst hC dX7_carryOut_91 ki_0 ?_
    refine z_callVv hC [.int p2, .int 0] (c_X7_switchDaemon p2 0) yy_X7_switchDaemon wl_X7_290 dX7_carryOut_92 ltC_0 layC_0 vcz_X7 rfl rfl rfl (Nat.le_of_ble_eq_true rfl) (by decide) (fun r14 σ15 _ => ?_)
    refine z_goto hC 148 dX7_carryOut_95 (by decide) ?_
    exact z_vret hC dX7_carryOut_148
  refine z_ite (fun h16 => ?_) (fun h16 => ?_)
  · refine z_tabIn hC 98 dX7_carryOut_1 5 h16 (by decide) (by decide) rfl (by decide) ?_
    refine z_aload_n hC dX7_carryOut_98 rfl ?_
    refine z_iload_n hC dX7_carryOut_99 rfl ?_
    refine z_callVv hC [.int p2] (c_X7_turnDoor p2) yy_X7_turnDoor wl_X7_294 dX7_carryOut_100 ltC_0 layC_0 vcz_X7 rfl rfl rfl (Nat.le_of_ble_eq_true rfl) (by decide) (fun r17 σ18 _ => ?_)
    refine z_goto hC 148 dX7_carryOut_103 (by decide) ?_
    exact z_vret hC dX7_carryOut_148
  refine z_ite (fun h19 => ?_) (fun h19 => ?_)
  · refine z_tabIn hC 106 dX7_carryOut_1 6 h19 (by decide) (by decide) rfl (by decide) ?_
    refine z_aload_n hC dX7_carryOut_106 rfl ?_
    refine z_iload_n hC dX7_carryOut_107 rfl ?_
    refine z_iload_n hC dX7_carryOut_108 rfl ?_
    refine z_callVv hC [.int p2, .int p3] (c_X7_giveGoal p2 p3) yy_X7_giveGoal wl_X7_297 dX7_carryOut_109 ltC_0 layC_0 vcz_X7 rfl rfl rfl (Nat.le_of_ble_eq_true rfl) (by decide) (fun r20 σ21 _ => ?_)
    refine z_goto hC 148 dX7_carryOut_112 (by decide) ?_
    exact z_vret hC dX7_carryOut_148
  refine z_ite (fun h22 => ?_) (fun h22 => ?_)
  · refine z_tabIn hC 115 dX7_carryOut_1 7 h22 (by decide) (by decide) rfl (by decide) ?_
    refine z_aload_n hC dX7_carryOut_115 rfl ?_
    refine z_iconst hC dX7_carryOut_116 ki_1 ?_
    refine z_putz hC wp_X7_145 (by decide) dX7_carryOut_117 ltC_0 layC_0 rfl ?_
    refine z_let (fun σ23 _ => ?_)
    refine z_goto hC 148 dX7_carryOut_120 (by decide) ?_
    exact z_vret hC dX7_carryOut_148
  refine z_ite (fun h24 => ?_) (fun h24 => ?_)
  · refine z_tabIn hC 123 dX7_carryOut_1 8 h24 (by decide) (by decide) rfl (by decide) ?_
    refine z_aload_n hC dX7_carryOut_123 rfl ?_
    refine z_getr hC wf_X7_47 dX7_carryOut_124 ltC_0 layC_0 rfl ?_
    refine z_aload_n hC dX7_carryOut_127 rfl ?_
    refine z_getr hC wf_X7_47 dX7_carryOut_128 ltC_0 layC_0 rfl ?_
    refine z_geti hC wf_X7_171 dX7_carryOut_131 ltC_24 layC_24 rfl ?_
    refine z_iload_n hC dX7_carryOut_134 rfl ?_
    refine z_iadd hC dX7_carryOut_135 ?_
    refine z_sipush hC dX7_carryOut_136 ks_600 ?_
    refine z_mmin hC wl_X7_300 wm_mins wm_mth wm_minc dX7_carryOut_139 (by exact ⟨Nat.le_of_ble_eq_true rfl, Nat.le_of_ble_eq_true rfl⟩) ?_
    refine z_puti hC wp_X7_171 dX7_carryOut_142 ltC_24 layC_24 rfl ?_
    refine z_let (fun σ25 _ => ?_)
    refine z_goto hC 148 dX7_carryOut_145 (by decide) ?_
    exact z_vret hC dX7_carryOut_148
  refine z_tabOut hC 148 dX7_carryOut_1 (by have := And.intro (lv_neT h1 (a := 0) (by decide)) (And.intro (lv_neT h4 (a := 1) (by decide)) (And.intro (lv_neT h7 (a := 2) (by decide)) (And.intro (lv_neT h10 (a := 3) (by decide)) (And.intro (lv_neT h13 (a := 4) (by decide)) (And.intro (lv_neT h16 (a := 5) (by decide)) (And.intro (lv_neT h19 (a := 6) (by decide)) (And.intro (lv_neT h22 (a := 7) (by decide)) (lv_neT h24 (a := 8) (by decide))))))))); omega) (by decide) ?_
  exact z_vret hC dX7_carryOut_148
theorem c_X7_carryOut (p1 : Int32) (p2 : Int32) (p3 : Int32) : zM layC nC yX7_carryOut cX7_carryOut 4 none (zRm 2 43) (fun ad => [.ref (ad 0), .int p1, .int p2, .int p3]) (f_X7_carryOut p1 p2 p3) := zM_of (own := RX7) (by decide) rfl (fun ad w hw => by simp only [List.mem_cons, List.not_mem_nil, or_false] at hw; (first | exact hw.elim | (rcases hw with rfl | rfl | rfl | rfl <;> rfl))) (fun ad => Nat.le_of_ble_eq_true rfl) (fun Γ ad hC σ => w_X7_carryOut hC p1 p2 p3 σ)
set_option maxRecDepth 100000 in
set_option maxHeartbeats 4000000 in
theorem q_X7_doDeed_J38 {Γ : zG} {ad : Nat → Nat} (hC : zX Γ layC nC ad cX7_doDeed RX7 3 (zRm 3 66) (some .boolean)) (v1 : Int32) (v2 : Int32) (σ : zS) : zK Γ layC nC ad 3 (some .boolean) 38 [some (.ref (ad 0)), some (.int v1), some (.int v2)] [] σ (j_X7_doDeed_J38 v1 v2 σ) some := by
  unfold j_X7_doDeed_J38
  refine z_aload_n hC dX7_doDeed_38 rfl ?_
  refine z_aload_n hC dX7_doDeed_39 rfl ?_
  refine z_getr hC wf_X7_19 dX7_doDeed_40 ltC_0 layC_0 rfl ?_
  refine z_getr hC wf_X7_269 dX7_doDeed_43 ltC_5 layC_5 rfl ?_
  refine z_iload_n hC dX7_doDeed_46 rfl ?_
  refine z_iald hC dX7_doDeed_47 ltC_6 layC_6 (fun h3 => ?_)
  refine z_aload_n hC dX7_doDeed_48 rfl ?_
  refine z_getr hC wf_X7_19 dX7_doDeed_49 ltC_0 layC_0 rfl ?_
  refine z_getr hC wf_X7_272 dX7_doDeed_52 ltC_5 layC_5 rfl ?_
  refine z_iload_n hC dX7_doDeed_55 rfl ?_
  refine z_iald hC dX7_doDeed_56 ltC_7 layC_7 (fun h4 => ?_)
  refine z_aload_n hC dX7_doDeed_57 rfl ?_
  refine z_getr hC wf_X7_19 dX7_doDeed_58 ltC_0 layC_0 rfl ?_
  refine z_getr hC wf_X7_275 dX7_doDeed_61 ltC_5 layC_5 rfl ?_
  refine z_iload_n hC dX7_doDeed_64 rfl ?_
  refine z_iald hC dX7_doDeed_65 ltC_8 layC_8 (fun h5 => ?_)
  refine z_callVv hC [.int (σ 6 v1.toNatClampNeg), .int (σ 7 v1.toNatClampNeg), .int (σ 8 v1.toNatClampNeg)] (c_X7_carryOut (σ 6 v1.toNatClampNeg) (σ 7 v1.toNatClampNeg) (σ 8 v1.toNatClampNeg)) yy_X7_carryOut wl_X7_278 dX7_doDeed_66 ltC_0 layC_0 vcz_X7 rfl rfl rfl (Nat.le_of_ble_eq_true rfl) (by decide) (fun r6 σ7 _ => ?_)
  refine z_iconst hC dX7_doDeed_69 ki_1 ?_
  exact z_zret hC (by decide) dX7_doDeed_70
set_option maxRecDepth 100000 in
set_option maxHeartbeats 4000000 in
theorem w_X7_doDeed {Γ : zG} {ad : Nat → Nat} (hC : zX Γ layC nC ad cX7_doDeed RX7 3 (zRm 3 66) (some .boolean)) (p1 : Int32) (σ : zS) : zK Γ layC nC ad 3 (some .boolean) 0 [some (.ref (ad 0)), some (.int p1), none] [] σ (f_X7_doDeed p1 σ) some := by
  unfold f_X7_doDeed
  refine z_aload_n hC dX7_doDeed_0 rfl ?_
  refine z_getr hC wf_X7_19 dX7_doDeed_1 ltC_0 layC_0 rfl ?_
  refine z_getr hC wf_X7_113 dX7_doDeed_4 ltC_5 layC_5 rfl ?_
  refine z_iload_n hC dX7_doDeed_7 rfl ?_
  refine z_iald hC dX7_doDeed_8 ltC_9 layC_9 (fun h1 => ?_)
  refine z_istore_n hC dX7_doDeed_9 (lv' := [some (.ref (ad 0)), some (.int p1), some (.int (σ 9 p1.toNatClampNeg))]) (by decide) rfl ?_
  refine z_iload_n hC dX7_doDeed_10 rfl ?_
  refine z_iconst hC dX7_doDeed_11 ki_m1 ?_
  refine z_icmp_eq hC 38 dX7_doDeed_12 (by decide) (fun h2 => ?_) (fun h2 => ?_)
  · exact q_X7_doDeed_J38 hC p1 (σ 9 p1.toNatClampNeg) σ
  · refine z_aload_n hC dX7_doDeed_15 rfl ?_
    refine z_getr hC wf_X7_47 dX7_doDeed_16 ltC_0 layC_0 rfl ?_
    refine z_getr hC wf_X7_180 dX7_doDeed_19 ltC_24 layC_24 rfl ?_
    refine z_iload_n hC dX7_doDeed_22 rfl ?_
    refine z_iald hC dX7_doDeed_23 ltC_27 layC_27 (fun h8 => ?_)
    refine z_aload_n hC dX7_doDeed_24 rfl ?_
    refine z_getr hC wf_X7_19 dX7_doDeed_25 ltC_0 layC_0 rfl ?_
    refine z_getr hC wf_X7_116 dX7_doDeed_28 ltC_5 layC_5 rfl ?_
    refine z_iload_n hC dX7_doDeed_31 rfl ?_
    refine z_iald hC dX7_doDeed_32 ltC_10 layC_10 (fun h9 => ?_)
    refine z_icmp_ge hC 38 dX7_doDeed_33 (by decide) (fun h10 => ?_) (fun h10 => ?_)
    · exact q_X7_doDeed_J38 hC p1 (σ 9 p1.toNatClampNeg) σ
    · refine z_iconst hC dX7_doDeed_36 ki_0 ?_
      exact z_zret hC (by decide) dX7_doDeed_37
theorem c_X7_doDeed (p1 : Int32) : zM layC nC yX7_doDeed cX7_doDeed 3 (some .boolean) (zRm 3 66) (fun ad => [.ref (ad 0), .int p1]) (f_X7_doDeed p1) := zM_of (own := RX7) (by decide) rfl (fun ad w hw => by simp only [List.mem_cons, List.not_mem_nil, or_false] at hw; (first | exact hw.elim | (rcases hw with rfl | rfl <;> rfl))) (fun ad => Nat.le_of_ble_eq_true rfl) (fun Γ ad hC σ => w_X7_doDeed hC p1 σ)
set_option maxRecDepth 100000 in
set_option maxHeartbeats 4000000 in
theorem w_X7_closePast {Γ : zG} {ad : Nat → Nat} (hC : zX Γ layC nC ad cX7_closePast RX7 2 (zRm 0 0) (some .int)) (p1 : Int32) (σ : zS) : zK Γ layC nC ad 2 (some .int) 0 [some (.ref (ad 0)), some (.int p1)] [] σ (f_X7_closePast p1 σ) some := by
  unfold f_X7_closePast
  refine z_iload_n hC dX7_closePast_0 rfl ?_
  refine z_if_lt hC 12 dX7_closePast_1 (by decide) (fun h1 => ?_) (fun h1 => ?_)
  · refine z_iload_n hC dX7_closePast_12 rfl ?_
    exact z_iret hC dX7_closePast_13
  · refine z_aload_n hC dX7_closePast_4 rfl ?_
    refine z_getr hC wf_X7_54 dX7_closePast_5 ltC_0 layC_0 rfl ?_
    refine z_iconst hC dX7_closePast_8 ki_0 ?_
    refine z_puti hC wp_X7_161 dX7_closePast_9 ltC_34 layC_34 rfl ?_
    refine z_let (fun σ2 _ => ?_)
    refine z_iload_n hC dX7_closePast_12 rfl ?_
    exact z_iret hC dX7_closePast_13
theorem c_X7_closePast (p1 : Int32) : zM layC nC yX7_closePast cX7_closePast 2 (some .int) (zRm 0 0) (fun ad => [.ref (ad 0), .int p1]) (f_X7_closePast p1) := zM_of (own := RX7) (by decide) rfl (fun ad w hw => by simp only [List.mem_cons, List.not_mem_nil, or_false] at hw; (first | exact hw.elim | (rcases hw with rfl | rfl <;> rfl))) (fun ad => Nat.le_of_ble_eq_true rfl) (fun Γ ad hC σ => w_X7_closePast hC p1 σ)
set_option maxRecDepth 100000 in
set_option maxHeartbeats 4000000 in
theorem w_X7_act {Γ : zG} {ad : Nat → Nat} (hC : zX Γ layC nC ad cX7_act RX7 2 (zRm 4 88) (some .int)) (p1 : Int32) (σ : zS) : zK Γ layC nC ad 2 (some .int) 0 [some (.ref (ad 0)), some (.int p1)] [] σ (f_X7_act p1 σ) some := by
  unfold f_X7_act
  refine z_iload_n hC dX7_act_0 rfl ?_
  refine z_aload_n hC dX7_act_1 rfl ?_
  refine z_getr hC wf_X7_19 dX7_act_2 ltC_0 layC_0 rfl ?_
  refine z_geti hC wf_X7_110 dX7_act_5 ltC_5 layC_5 rfl ?_
  refine z_callSi hC [.int p1, .int (σ 5 0)] (c_X7_isThere p1 (σ 5 0)) yy_X7_isThere wl_X7_74 dX7_act_8 rfl rfl rfl (Nat.le_of_ble_eq_true rfl) (by decide) (fun r1 σ2 _ => ?_)
  refine z_if_ne hC 17 dX7_act_11 (by decide) (fun h3 => ?_) (fun h3 => ?_)
  · refine z_aload_n hC dX7_act_17 rfl ?_
    refine z_aload_n hC dX7_act_18 rfl ?_
    refine z_iload_n hC dX7_act_19 rfl ?_
    refine z_callVi hC [.int p1] (c_X7_doDeed p1) yy_X7_doDeed wl_X7_129 dX7_act_20 ltC_0 layC_0 vcz_X7 rfl rfl rfl (Nat.le_of_ble_eq_true rfl) (by decide) (fun r4 σ5 _ => ?_)
    refine z_if_eq hC 30 dX7_act_23 (by decide) (fun h6 => ?_) (fun h6 => ?_)
    · refine z_iconst hC dX7_act_30 ki_0 ?_
      refine z_callVi hC [.int 0] (c_X7_closePast 0) yy_X7_closePast wl_X7_66 dX7_act_31 ltC_0 layC_0 vcz_X7 rfl rfl rfl (Nat.le_of_ble_eq_true rfl) (by decide) (fun r7 σ8 _ => ?_)
      exact z_iret hC dX7_act_34
    · refine z_iconst hC dX7_act_26 ki_1 ?_
      refine z_goto hC 31 dX7_act_27 (by decide) ?_
      refine z_callVi hC [.int 1] (c_X7_closePast 1) yy_X7_closePast wl_X7_66 dX7_act_31 ltC_0 layC_0 vcz_X7 rfl rfl rfl (Nat.le_of_ble_eq_true rfl) (by decide) (fun r9 σ10 _ => ?_)
      exact z_iret hC dX7_act_34
  · refine z_bipush hC dX7_act_14 kb_m2 ?_
    exact z_iret hC dX7_act_16
theorem c_X7_act (p1 : Int32) : zM layC nC yX7_act cX7_act 2 (some .int) (zRm 4 88) (fun ad => [.ref (ad 0), .int p1]) (f_X7_act p1) := zM_of (own := RX7) (by decide) rfl (fun ad w hw => by simp only [List.mem_cons, List.not_mem_nil, or_false] at hw; (first | exact hw.elim | (rcases hw with rfl | rfl <;> rfl))) (fun ad => Nat.le_of_ble_eq_true rfl) (fun Γ ad hC σ => w_X7_act hC p1 σ)
set_option maxRecDepth 100000 in
set_option maxHeartbeats 4000000 in
theorem w_X7_asNumber {Γ : zG} {ad : Nat → Nat} (hC : zX Γ layC nC ad cX7_asNumber RX7 1 (zRm 0 0) (some .int)) (p0 : Int32) (σ : zS) : zK Γ layC nC ad 1 (some .int) 0 [some (.int p0)] [] σ (f_X7_asNumber p0 σ) some := by
  unfold f_X7_asNumber
  refine z_iload_n hC dX7_asNumber_0 rfl ?_
  refine z_if_eq hC 8 dX7_asNumber_1 (by decide) (fun h1 => ?_) (fun h1 => ?_)
  · refine z_iconst hC dX7_asNumber_8 ki_0 ?_
    exact z_iret hC dX7_asNumber_9
  · refine z_iconst hC dX7_asNumber_4 ki_1 ?_
    refine z_goto hC 9 dX7_asNumber_5 (by decide) ?_
    exact z_iret hC dX7_asNumber_9
theorem c_X7_asNumber (p0 : Int32) : zM layC nC yX7_asNumber cX7_asNumber 1 (some .int) (zRm 0 0) (fun ad => [.int p0]) (f_X7_asNumber p0) := zM_of (own := RX7) (by decide) rfl (fun ad w hw => by simp only [List.mem_cons, List.not_mem_nil, or_false] at hw; (first | exact hw.elim | (rcases hw with rfl <;> rfl))) (fun ad => Nat.le_of_ble_eq_true rfl) (fun Γ ad hC σ => w_X7_asNumber hC p0 σ)
