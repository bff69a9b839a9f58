set_option maxRecDepth 100000 in
set_option maxHeartbeats 4000000 in
theorem t_X7_moveWalkers_L2 {Γ : zG} {ad : Nat → Nat} (hC : zX Γ layC nC ad cX7_moveWalkers RX7 2 (zRm 4 95) none) (a0 : Int32 × zS) (K : Bool × (Int32 × zS) → Option (Int32 × zS)) (hc : ∀ (x0 : Int32) (s' : zS), zZ Γ layC nC ad 2 none 2 [some (.ref (ad 0)), some (.int x0)] [] s' (K (true, (x0, s')))) (hx : ∀ (x0 : Int32) (s' : zS), zZ Γ layC nC ad 2 none 44 [some (.ref (ad 0)), some (.int x0)] [] s' (K (false, (x0, s')))) : zK Γ layC nC ad 2 none 2 [some (.ref (ad 0)), some (.int a0.1)] [] (a0.2) (b_X7_moveWalkers_L2 a0) K := by
  unfold b_X7_moveWalkers_L2
  refine z_iload_n hC dX7_moveWalkers_2 rfl ?_
  refine z_aload_n hC dX7_moveWalkers_3 rfl ?_
  refine z_getr hC wf_X7_12 dX7_moveWalkers_4 ltC_0 layC_0 rfl ?_
  refine z_geti hC wf_X7_85 dX7_moveWalkers_7 ltC_1 layC_1 rfl ?_
  refine z_icmp_ge hC 44 dX7_moveWalkers_10 (by decide) (fun h1 => ?_) (fun h1 => ?_)
  · exact z_leaf (hx a0.1 a0.2)
  · refine z_aload_n hC dX7_moveWalkers_13 rfl ?_
    refine z_geti hC wf_X7_145 dX7_moveWalkers_14 ltC_0 layC_0 rfl ?_
    refine z_if_ne hC 44 dX7_moveWalkers_17 (by decide) (fun h2 => ?_) (fun h2 => ?_)
    · exact z_leaf (hx a0.1 a0.2)
    · refine z_aload_n hC dX7_moveWalkers_20 rfl ?_
      refine z_getr hC wf_X7_47 dX7_moveWalkers_21 ltC_0 layC_0 rfl ?_
      refine z_getr hC wf_X7_92 dX7_moveWalkers_24 ltC_24 layC_24 rfl ?_
      refine z_iload_n hC dX7_moveWalkers_27 rfl ?_
      refine z_iald hC dX7_moveWalkers_28 ltC_30 layC_30 (fun h3 => ?_)
      refine z_iconst hC dX7_moveWalkers_29 ki_m1 ?_
      refine z_icmp_eq hC 38 dX7_moveWalkers_30 (by decide) (fun h4 => ?_) (fun h4 => ?_)
      · refine z_iinc hC dX7_moveWalkers_38 (lv' := [some (.ref (ad 0)), some (.int (a0.1 + 1))]) rfl (by decide) ki_1 rfl ?_
        refine z_goto hC 2 dX7_moveWalkers_41 (by decide) ?_
        exact z_leaf (hc (a0.1 + 1) a0.2)
      · refine z_aload_n hC dX7_moveWalkers_33 rfl ?_
        refine z_iload_n hC dX7_moveWalkers_34 rfl ?_
        refine z_callVv hC [.int a0.1] (c_X7_moveWalker a0.1) yy_X7_moveWalker wl_X7_262 dX7_moveWalkers_35 ltC_0 layC_0 vcz_X7 rfl rfl rfl (Nat.le_of_ble_eq_true rfl) (by decide) (fun r5 σ6 _ => ?_)
        refine z_iinc hC dX7_moveWalkers_38 (lv' := [some (.ref (ad 0)), some (.int (a0.1 + 1))]) rfl (by decide) ki_1 rfl ?_
        refine z_goto hC 2 dX7_moveWalkers_41 (by decide) ?_
        exact z_leaf (hc (a0.1 + 1) σ6)
set_option maxRecDepth 100000 in
set_option maxHeartbeats 4000000 in
theorem w_X7_moveWalkers {Γ : zG} {ad : Nat → Nat} (hC : zX Γ layC nC ad cX7_moveWalkers RX7 2 (zRm 4 95) none) (σ : zS) : zK Γ layC nC ad 2 none 0 [some (.ref (ad 0)), none] [] σ (f_X7_moveWalkers σ) some := by
  unfold f_X7_moveWalkers
  refine z_iconst hC dX7_moveWalkers_0 ki_0 ?_
  refine z_istore_n hC dX7_moveWalkers_1 (lv' := [some (.ref (ad 0)), some (.int 0)]) (by decide) rfl ?_
  refine z_lpb (lvf := fun z : Int32 × zS => [some (.ref (ad 0)), some (.int z.1)]) (sg := fun z => z.2) (x := 44) zfuel (0, σ) rfl rfl (fun z K hc hx => t_X7_moveWalkers_L2 hC z K (fun x0 s' => hc (x0, s')) (fun x0 s' => hx (x0, s'))) (fun a7 => ?_)
  exact z_vret hC dX7_moveWalkers_44
theorem c_X7_moveWalkers : zM layC nC yX7_moveWalkers cX7_moveWalkers 2 none (zRm 4 95) (fun ad => [.ref (ad 0)]) (f_X7_moveWalkers) := zM_of (own := RX7) (by decide) rfl (fun ad w hw => by simp only [List.mem_cons, List.not_mem_nil, or_false] at hw; (first | exact hw.elim | (rcases hw with rfl <;> rfl))) (fun ad => Nat.le_of_ble_eq_true rfl) (fun Γ ad hC σ => w_X7_moveWalkers hC σ)
set_option maxRecDepth 100000 in
set_option maxHeartbeats 4000000 in
theorem w_X7_pace {Γ : zG} {ad : Nat → Nat} (hC : zX Γ layC nC ad cX7_pace RX7 3 (zRm 1 22) (some .int)) (p1 : Int32) (σ : zS) : zK Γ layC nC ad 3 (some .int) 0 [some (.ref (ad 0)), some (.int p1), none] [] σ (f_X7_pace p1 σ) some := by
  unfold f_X7_pace
  refine z_iload_n hC dX7_pace_0 rfl ?_
  refine z_iconst hC dX7_pace_1 ki_1 ?_
  refine z_bipush hC dX7_pace_2 kb_60 ?_
  refine z_callSi hC [.int p1, .int 1, .int 60] (c_X7_isWithin p1 1 60) yy_X7_isWithin wl_X7_95 dX7_pace_4 rfl rfl rfl (Nat.le_of_ble_eq_true rfl) (by decide) (fun r1 σ2 _ => ?_)
  refine z_if_ne hC 13 dX7_pace_7 (by decide) (fun h3 => ?_) (fun h3 => ?_)
  · refine z_aload_n hC dX7_pace_13 rfl ?_
    refine z_getr hC wf_X7_47 dX7_pace_14 ltC_0 layC_0 rfl ?_
    refine z_geti hC wf_X7_132 dX7_pace_17 ltC_24 layC_24 rfl ?_
    refine z_istore_n hC dX7_pace_20 (lv' := [some (.ref (ad 0)), some (.int p1), some (.int (σ2 24 3))]) (by decide) rfl ?_
    refine z_aload_n hC dX7_pace_21 rfl ?_
    refine z_getr hC wf_X7_47 dX7_pace_22 ltC_0 layC_0 rfl ?_
    refine z_iload_n hC dX7_pace_25 rfl ?_
    refine z_puti hC wp_X7_132 dX7_pace_26 ltC_24 layC_24 rfl ?_
    refine z_let (fun σ4 _ => ?_)
    refine z_aload_n hC dX7_pace_29 rfl ?_
    refine z_iload_n hC dX7_pace_30 rfl ?_
    refine z_callVi hC [.int (σ2 24 3)] (c_X7_closePast (σ2 24 3)) yy_X7_closePast wl_X7_66 dX7_pace_31 ltC_0 layC_0 vcz_X7 rfl rfl rfl (Nat.le_of_ble_eq_true rfl) (by decide) (fun r5 σ6 _ => ?_)
    exact z_iret hC dX7_pace_34
  · refine z_bipush hC dX7_pace_10 kb_m3 ?_
    exact z_iret hC dX7_pace_12
theorem c_X7_pace (p1 : Int32) : zM layC nC yX7_pace cX7_pace 3 (some .int) (zRm 1 22) (fun ad => [.ref (ad 0), .int p1]) (f_X7_pace p1) := zM_of (own := RX7) (by decide) rfl (fun ad w hw => by simp only [List.mem_cons, List.not_mem_nil, or_false] at hw; (first | exact hw.elim | (rcases hw with rfl | rfl <;> rfl))) (fun ad => Nat.le_of_ble_eq_true rfl) (fun Γ ad hC σ => w_X7_pace hC p1 σ)
set_option maxRecDepth 100000 in
set_option maxHeartbeats 4000000 in
theorem w_X7_room {Γ : zG} {ad : Nat → Nat} (hC : zX Γ layC nC ad cX7_room RX7 1 (zRm 1 21) (some .int)) (σ : zS) : zK Γ layC nC ad 1 (some .int) 0 [some (.ref (ad 0))] [] σ (f_X7_room σ) some := by
  unfold f_X7_room
  refine z_aload_n hC dX7_room_0 rfl ?_
  refine z_aload_n hC dX7_room_1 rfl ?_
  refine z_getr hC wf_X7_12 dX7_room_2 ltC_0 layC_0 rfl ?_
  refine z_callVi hC [] c_X3_addRoom yy_X3_addRoom wl_X7_62 dX7_room_5 ltC_1 layC_1 vcz_X3 rfl rfl rfl (Nat.le_of_ble_eq_true rfl) (by decide) (fun r1 σ2 _ => ?_)
  refine z_callVi hC [.int r1] (c_X7_closePast r1) yy_X7_closePast wl_X7_66 dX7_room_8 ltC_0 layC_0 vcz_X7 rfl rfl rfl (Nat.le_of_ble_eq_true rfl) (by decide) (fun r3 σ4 _ => ?_)
  exact z_iret hC dX7_room_11
theorem c_X7_room : zM layC nC yX7_room cX7_room 1 (some .int) (zRm 1 21) (fun ad => [.ref (ad 0)]) (f_X7_room) := zM_of (own := RX7) (by decide) rfl (fun ad w hw => by simp only [List.mem_cons, List.not_mem_nil, or_false] at hw; (first | exact hw.elim | (rcases hw with rfl <;> rfl))) (fun ad => Nat.le_of_ble_eq_true rfl) (fun Γ ad hC σ => w_X7_room hC σ)
set_option maxRecDepth 100000 in
set_option maxHeartbeats 4000000 in
theorem w_X7_row {Γ : zG} {ad : Nat → Nat} (hC : zX Γ layC nC ad cX7_row RX7 3 (zRm 1 22) (some .int)) (p1 : Int32) (p2 : Int32) (σ : zS) : zK Γ layC nC ad 3 (some .int) 0 [some (.ref (ad 0)), some (.int p1), some (.int p2)] [] σ (f_X7_row p1 p2 σ) some := by
  unfold f_X7_row
  refine z_iload_n hC dX7_row_0 rfl ?_
  refine z_iconst hC dX7_row_1 ki_0 ?_
  refine z_iconst hC dX7_row_2 ki_1 ?_
  refine z_callSi hC [.int p2, .int 0, .int 1] (c_X7_isWithin p2 0 1) yy_X7_isWithin wl_X7_95 dX7_row_3 rfl rfl rfl (Nat.le_of_ble_eq_true rfl) (by decide) (fun r1 σ2 _ => ?_)
  refine z_if_ne hC 12 dX7_row_6 (by decide) (fun h3 => ?_) (fun h3 => ?_)
  · refine z_iload_n hC dX7_row_12 rfl ?_
    refine z_aload_n hC dX7_row_13 rfl ?_
    refine z_getr hC wf_X7_47 dX7_row_14 ltC_0 layC_0 rfl ?_
    refine z_geti hC wf_X7_142 dX7_row_17 ltC_24 layC_24 rfl ?_
    refine z_callSi hC [.int p1, .int (σ2 24 5)] (c_X7_isThere p1 (σ2 24 5)) yy_X7_isThere wl_X7_74 dX7_row_20 rfl rfl rfl (Nat.le_of_ble_eq_true rfl) (by decide) (fun r4 σ5 _ => ?_)
    refine z_if_ne hC 28 dX7_row_23 (by decide) (fun h6 => ?_) (fun h6 => ?_)
    · refine z_iload_n hC dX7_row_28 rfl ?_
      refine z_if_ne hC 44 dX7_row_29 (by decide) (fun h7 => ?_) (fun h7 => ?_)
      · refine z_aload_n hC dX7_row_44 rfl ?_
        refine z_getr hC wf_X7_47 dX7_row_45 ltC_0 layC_0 rfl ?_
        refine z_getr hC wf_X7_209 dX7_row_48 ltC_24 layC_24 rfl ?_
        refine z_iload_n hC dX7_row_51 rfl ?_
        refine z_iald hC dX7_row_52 ltC_26 layC_26 (fun h8 => ?_)
        exact z_iret hC dX7_row_53
      · refine z_aload_n hC dX7_row_32 rfl ?_
        refine z_getr hC wf_X7_47 dX7_row_33 ltC_0 layC_0 rfl ?_
        refine z_getr hC wf_X7_206 dX7_row_36 ltC_24 layC_24 rfl ?_
        refine z_iload_n hC dX7_row_39 rfl ?_
        refine z_iald hC dX7_row_40 ltC_25 layC_25 (fun h9 => ?_)
        refine z_goto hC 53 dX7_row_41 (by decide) ?_
        exact z_iret hC dX7_row_53
    · refine z_iconst hC dX7_row_26 ki_m1 ?_
      exact z_iret hC dX7_row_27
  · refine z_bipush hC dX7_row_9 kb_m3 ?_
    exact z_iret hC dX7_row_11
theorem c_X7_row (p1 : Int32) (p2 : Int32) : zM layC nC yX7_row cX7_row 3 (some .int) (zRm 1 22) (fun ad => [.ref (ad 0), .int p1, .int p2]) (f_X7_row p1 p2) := zM_of (own := RX7) (by decide) rfl (fun ad w hw => by simp only [List.mem_cons, List.not_mem_nil, or_false] at hw; (first | exact hw.elim | (rcases hw with rfl | rfl | rfl <;> rfl))) (fun ad => Nat.le_of_ble_eq_true rfl) (fun Γ ad hC σ => w_X7_row hC p1 p2 σ)
set_option maxRecDepth 100000 in
set_option maxHeartbeats 4000000 in
theorem t_X7_runDaemonsOf_L2 {Γ : zG} {ad : Nat → Nat} (hC : zX Γ layC nC ad cX7_runDaemonsOf RX7 3 (zRm 4 88) none) (c1 : Int32) (a0 : Int32 × zS) (K : Bool × (Int32 × zS) → Option (Int32 × zS)) (hc : ∀ (x0 : Int32) (s' : zS), zZ Γ layC nC ad 3 none 2 [some (.ref (ad 0)), some (.int c1), some (.int x0)] [] s' (K (true, (x0, s')))) (hx : ∀ (x0 : Int32) (s' : zS), zZ Γ layC nC ad 3 none 74 [some (.ref (ad 0)), some (.int c1), some (.int x0)] [] s' (K (false, (x0, s')))) : zK Γ layC nC ad 3 none 2 [some (.ref (ad 0)), some (.int c1), some (.int a0.1)] [] (a0.2) (b_X7_runDaemonsOf_L2 c1 a0) K := by
  unfold b_X7_runDaemonsOf_L2
  refine z_iload_n hC dX7_runDaemonsOf_2 rfl ?_
  refine z_aload_n hC dX7_runDaemonsOf_3 rfl ?_
  refine z_getr hC wf_X7_40 dX7_runDaemonsOf_4 ltC_0 layC_0 rfl ?_
  refine z_geti hC wf_X7_179 dX7_runDaemonsOf_7 ltC_21 layC_21 rfl ?_
  refine z_icmp_ge hC 74 dX7_runDaemonsOf_10 (by decide) (fun h1 => ?_) (fun h1 => ?_)
  · exact z_leaf (hx a0.1 a0.2)
  · refine z_aload_n hC dX7_runDaemonsOf_13 rfl ?_
    refine z_geti hC wf_X7_145 dX7_runDaemonsOf_14 ltC_0 layC_0 rfl ?_
    refine z_if_ne hC 74 dX7_runDaemonsOf_17 (by decide) (fun h2 => ?_) (fun h2 => ?_)
    · exact z_leaf (hx a0.1 a0.2)
    · refine z_aload_n hC dX7_runDaemonsOf_20 rfl ?_
      refine z_getr hC wf_X7_40 dX7_runDaemonsOf_21 ltC_0 layC_0 rfl ?_
      refine z_getr hC wf_X7_258 dX7_runDaemonsOf_24 ltC_21 layC_21 rfl ?_
      refine z_iload_n hC dX7_runDaemonsOf_27 rfl ?_
      refine z_iald hC dX7_runDaemonsOf_28 ltC_23 layC_23 (fun h3 => ?_)
      refine z_iload_n hC dX7_runDaemonsOf_29 rfl ?_
      refine z_icmp_ne hC 68 dX7_runDaemonsOf_30 (by decide) (fun h4 => ?_) (fun h4 => ?_)
      · refine z_iinc hC dX7_runDaemonsOf_68 (lv' := [some (.ref (ad 0)), some (.int c1), some (.int (a0.1 + 1))]) rfl (by decide) ki_1 rfl ?_
        refine z_goto hC 2 dX7_runDaemonsOf_71 (by decide) ?_
        exact z_leaf (hc (a0.1 + 1) a0.2)
      · refine z_aload_n hC dX7_runDaemonsOf_33 rfl ?_
        refine z_getr hC wf_X7_47 dX7_runDaemonsOf_34 ltC_0 layC_0 rfl ?_
        refine z_getr hC wf_X7_186 dX7_runDaemonsOf_37 ltC_24 layC_24 rfl ?_
        refine z_iload_n hC dX7_runDaemonsOf_40 rfl ?_
        refine z_zald hC dX7_runDaemonsOf_41 ltC_32 layC_32 (fun h5 => ?_)
        refine z_if_eq hC 68 dX7_runDaemonsOf_42 (by decide) (fun h6 => ?_) (fun h6 => ?_)
        · refine z_iinc hC dX7_runDaemonsOf_68 (lv' := [some (.ref (ad 0)), some (.int c1), some (.int (a0.1 + 1))]) rfl (by decide) ki_1 rfl ?_
          refine z_goto hC 2 dX7_runDaemonsOf_71 (by decide) ?_
          exact z_leaf (hc (a0.1 + 1) a0.2)
        · refine z_aload_n hC dX7_runDaemonsOf_45 rfl ?_
          refine z_getr hC wf_X7_47 dX7_runDaemonsOf_46 ltC_0 layC_0 rfl ?_
          refine z_iconst hC dX7_runDaemonsOf_49 ki_2 ?_
          refine z_iload_n hC dX7_runDaemonsOf_50 rfl ?_
          refine z_callVv hC [.int 2, .int a0.1] (c_X4_addRow 2 a0.1) yy_X4_addRow wl_X7_238 dX7_runDaemonsOf_51 ltC_24 layC_24 vcz_X4 rfl rfl rfl (Nat.le_of_ble_eq_true rfl) (by decide) (fun r7 σ8 _ => ?_)
          refine z_aload_n hC dX7_runDaemonsOf_54 rfl ?_
          refine z_aload_n hC dX7_runDaemonsOf_55 rfl ?_
          refine z_getr hC wf_X7_40 dX7_runDaemonsOf_56 ltC_0 layC_0 rfl ?_
          refine z_getr hC wf_X7_261 dX7_runDaemonsOf_59 ltC_21 layC_21 rfl ?_
          refine z_iload_n hC dX7_runDaemonsOf_62 rfl ?_
          refine z_iald hC dX7_runDaemonsOf_63 ltC_22 layC_22 (fun h9 => ?_)
          refine z_callVi hC [.int (σ8 22 a0.1.toNatClampNeg)] (c_X7_doDeed (σ8 22 a0.1.toNatClampNeg)) yy_X7_doDeed wl_X7_129 dX7_runDaemonsOf_64 ltC_0 layC_0 vcz_X7 rfl rfl rfl (Nat.le_of_ble_eq_true rfl) (by decide) (fun r10 σ11 _ => ?_)
          refine z_pop hC dX7_runDaemonsOf_67 rfl ?_
          refine z_iinc hC dX7_runDaemonsOf_68 (lv' := [some (.ref (ad 0)), some (.int c1), some (.int (a0.1 + 1))]) rfl (by decide) ki_1 rfl ?_
          refine z_goto hC 2 dX7_runDaemonsOf_71 (by decide) ?_
          exact z_leaf (hc (a0.1 + 1) σ11)
set_option maxRecDepth 100000 in
set_option maxHeartbeats 4000000 in
theorem w_X7_runDaemonsOf {Γ : zG} {ad : Nat → Nat} (hC : zX Γ layC nC ad cX7_runDaemonsOf RX7 3 (zRm 4 88) none) (p1 : Int32) (σ : zS) : zK Γ layC nC ad 3 none 0 [some (.ref (ad 0)), some (.int p1), none] [] σ (f_X7_runDaemonsOf p1 σ) some := by
  unfold f_X7_runDaemonsOf
  refine z_iconst hC dX7_runDaemonsOf_0 ki_0 ?_
  refine z_istore_n hC dX7_runDaemonsOf_1 (lv' := [some (.ref (ad 0)), some (.int p1), some (.int 0)]) (by decide) rfl ?_
  refine z_lpb (lvf := fun z : Int32 × zS => [some (.ref (ad 0)), some (.int p1), some (.int z.1)]) (sg := fun z => z.2) (x := 74) zfuel (0, σ) rfl rfl (fun z K hc hx => t_X7_runDaemonsOf_L2 hC p1 z K (fun x0 s' => hc (x0, s')) (fun x0 s' => hx (x0, s'))) (fun a12 => ?_)
  exact z_vret hC dX7_runDaemonsOf_74
theorem c_X7_runDaemonsOf (p1 : Int32) : zM layC nC yX7_runDaemonsOf cX7_runDaemonsOf 3 none (zRm 4 88) (fun ad => [.ref (ad 0), .int p1]) (f_X7_runDaemonsOf p1) := zM_of (own := RX7) (by decide) rfl (fun ad w hw => by simp only [List.mem_cons, List.not_mem_nil, or_false] at hw; (first | exact hw.elim | (rcases hw with rfl | rfl <;> rfl))) (fun ad => Nat.le_of_ble_eq_true rfl) (fun Γ ad hC σ => w_X7_runDaemonsOf hC p1 σ)
set_option maxRecDepth 100000 in
set_option maxHeartbeats 4000000 in
theorem t_X7_runDaemons_L2 {Γ : zG} {ad : Nat → Nat} (hC : zX Γ layC nC ad cX7_runDaemons RX7 2 (zRm 5 110) none) (a0 : Int32 × zS) (K : Bool × (Int32 × zS) → Option (Int32 × zS)) (hc : ∀ (x0 : Int32) (s' : zS), zZ Γ layC nC ad 2 none 2 [some (.ref (ad 0)), some (.int x0)] [] s' (K (true, (x0, s')))) (hx : ∀ (x0 : Int32) (s' : zS), zZ Γ layC nC ad 2 none 19 [some (.ref (ad 0)), some (.int x0)] [] s' (K (false, (x0, s')))) : zK Γ layC nC ad 2 none 2 [some (.ref (ad 0)), some (.int a0.1)] [] (a0.2) (b_X7_runDaemons_L2 a0) K := by
  unfold b_X7_runDaemons_L2
  refine z_iload_n hC dX7_runDaemons_2 rfl ?_
  refine z_bipush hC dX7_runDaemons_3 kb_9 ?_
  refine z_icmp_gt hC 19 dX7_runDaemons_5 (by decide) (fun h1 => ?_) (fun h1 => ?_)
  · exact z_leaf (hx a0.1 a0.2)
  · refine z_aload_n hC dX7_runDaemons_8 rfl ?_
    refine z_iload_n hC dX7_runDaemons_9 rfl ?_
    refine z_callVv hC [.int a0.1] (c_X7_runDaemonsOf a0.1) yy_X7_runDaemonsOf wl_X7_255 dX7_runDaemons_10 ltC_0 layC_0 vcz_X7 rfl rfl rfl (Nat.le_of_ble_eq_true rfl) (by decide) (fun r2 σ3 _ => ?_)
    refine z_iinc hC dX7_runDaemons_13 (lv' := [some (.ref (ad 0)), some (.int (a0.1 + 1))]) rfl (by decide) ki_1 rfl ?_
    refine z_goto hC 2 dX7_runDaemons_16 (by decide) ?_
    exact z_leaf (hc (a0.1 + 1) σ3)
set_option maxRecDepth 100000 in
set_option maxHeartbeats 4000000 in
theorem w_X7_runDaemons {Γ : zG} {ad : Nat → Nat} (hC : zX Γ layC nC ad cX7_runDaemons RX7 2 (zRm 5 110) none) (σ : zS) : zK Γ layC nC ad 2 none 0 [some (.ref (ad 0)), none] [] σ (f_X7_runDaemons σ) some := by
  unfold f_X7_runDaemons
  refine z_iconst hC dX7_runDaemons_0 ki_0 ?_
  refine z_istore_n hC dX7_runDaemons_1 (lv' := [some (.ref (ad 0)), some (.int 0)]) (by decide) rfl ?_
  refine z_lpb (lvf := fun z : Int32 × zS => [some (.ref (ad 0)), some (.int z.1)]) (sg := fun z => z.2) (x := 19) zfuel (0, σ) rfl rfl (fun z K hc hx => t_X7_runDaemons_L2 hC z K (fun x0 s' => hc (x0, s')) (fun x0 s' => hx (x0, s'))) (fun a4 => ?_)
  exact z_vret hC dX7_runDaemons_19
theorem c_X7_runDaemons : zM layC nC yX7_runDaemons cX7_runDaemons 2 none (zRm 5 110) (fun ad => [.ref (ad 0)]) (f_X7_runDaemons) := zM_of (own := RX7) (by decide) rfl (fun ad w hw => by simp only [List.mem_cons, List.not_mem_nil, or_false] at hw; (first | exact hw.elim | (rcases hw with rfl <;> rfl))) (fun ad => Nat.le_of_ble_eq_true rfl) (fun Γ ad hC σ => w_X7_runDaemons hC σ)
set_option maxRecDepth 100000 in
set_option maxHeartbeats 4000000 in
theorem w_X7_runTimer {Γ : zG} {ad : Nat → Nat} (hC : zX Γ layC nC ad cX7_runTimer RX7 2 (zRm 4 88) none) (p1 : Int32) (σ : zS) : zK Γ layC nC ad 2 none 0 [some (.ref (ad 0)), some (.int p1)] [] σ (f_X7_runTimer p1 σ) some := by
  unfold f_X7_runTimer
  refine z_aload_n hC dX7_runTimer_0 rfl ?_
  refine z_getr hC wf_X7_47 dX7_runTimer_1 ltC_0 layC_0 rfl ?_
  refine z_getr hC wf_X7_183 dX7_runTimer_4 ltC_24 layC_24 rfl ?_
  refine z_iload_n hC dX7_runTimer_7 rfl ?_
  refine z_dup2 hC dX7_runTimer_8 rfl rfl ?_
  refine z_iald hC dX7_runTimer_9 ltC_31 layC_31 (fun h1 => ?_)
  refine z_iconst hC dX7_runTimer_10 ki_1 ?_
  refine z_isub hC dX7_runTimer_11 ?_
  refine z_iast hC dX7_runTimer_12 ltC_31 layC_31 (fun h2 => ?_)
  refine z_let (fun σ3 _ => ?_)
  refine z_aload_n hC dX7_runTimer_13 rfl ?_
  refine z_getr hC wf_X7_47 dX7_runTimer_14 ltC_0 layC_0 rfl ?_
  refine z_getr hC wf_X7_183 dX7_runTimer_17 ltC_24 layC_24 rfl ?_
  refine z_iload_n hC dX7_runTimer_20 rfl ?_
  refine z_iald hC dX7_runTimer_21 ltC_31 layC_31 (fun h4 => ?_)
  refine z_if_le hC 26 dX7_runTimer_22 (by decide) (fun h5 => ?_) (fun h5 => ?_)
  · refine z_aload_n hC dX7_runTimer_26 rfl ?_
    refine z_getr hC wf_X7_33 dX7_runTimer_27 ltC_0 layC_0 rfl ?_
    refine z_getr hC wf_X7_248 dX7_runTimer_30 ltC_17 layC_17 rfl ?_
    refine z_iload_n hC dX7_runTimer_33 rfl ?_
    refine z_zald hC dX7_runTimer_34 ltC_20 layC_20 (fun h6 => ?_)
    refine z_if_eq hC 56 dX7_runTimer_35 (by decide) (fun h7 => ?_) (fun h7 => ?_)
    · refine z_aload_n hC dX7_runTimer_56 rfl ?_
      refine z_getr hC wf_X7_47 dX7_runTimer_57 ltC_0 layC_0 rfl ?_
      refine z_iconst hC dX7_runTimer_60 ki_1 ?_
      refine z_iload_n hC dX7_runTimer_61 rfl ?_
      refine z_callVv hC [.int 1, .int p1] (c_X4_addRow 1 p1) yy_X4_addRow wl_X7_238 dX7_runTimer_62 ltC_24 layC_24 vcz_X4 rfl rfl rfl (Nat.le_of_ble_eq_true rfl) (by decide) (fun r8 σ9 _ => ?_)
      refine z_aload_n hC dX7_runTimer_65 rfl ?_
      refine z_aload_n hC dX7_runTimer_66 rfl ?_
      refine z_getr hC wf_X7_33 dX7_runTimer_67 ltC_0 layC_0 rfl ?_
      refine z_getr hC wf_X7_254 dX7_runTimer_70 ltC_17 layC_17 rfl ?_
      refine z_iload_n hC dX7_runTimer_73 rfl ?_
      refine z_iald hC dX7_runTimer_74 ltC_18 layC_18 (fun h10 => ?_)
      refine z_callVi hC [.int (σ9 18 p1.toNatClampNeg)] (c_X7_doDeed (σ9 18 p1.toNatClampNeg)) yy_X7_doDeed wl_X7_129 dX7_runTimer_75 ltC_0 layC_0 vcz_X7 rfl rfl rfl (Nat.le_of_ble_eq_true rfl) (by decide) (fun r11 σ12 _ => ?_)
      refine z_pop hC dX7_runTimer_78 rfl ?_
      exact z_vret hC dX7_runTimer_79
    · refine z_aload_n hC dX7_runTimer_38 rfl ?_
      refine z_getr hC wf_X7_47 dX7_runTimer_39 ltC_0 layC_0 rfl ?_
      refine z_getr hC wf_X7_183 dX7_runTimer_42 ltC_24 layC_24 rfl ?_
      refine z_iload_n hC dX7_runTimer_45 rfl ?_
      refine z_aload_n hC dX7_runTimer_46 rfl ?_
      refine z_getr hC wf_X7_33 dX7_runTimer_47 ltC_0 layC_0 rfl ?_
      refine z_getr hC wf_X7_251 dX7_runTimer_50 ltC_17 layC_17 rfl ?_
      refine z_iload_n hC dX7_runTimer_53 rfl ?_
      refine z_iald hC dX7_runTimer_54 ltC_19 layC_19 (fun h13 => ?_)
      refine z_iast hC dX7_runTimer_55 ltC_31 layC_31 (fun h14 => ?_)
      refine z_let (fun σ15 _ => ?_)
      refine z_aload_n hC dX7_runTimer_56 rfl ?_
      refine z_getr hC wf_X7_47 dX7_runTimer_57 ltC_0 layC_0 rfl ?_
      refine z_iconst hC dX7_runTimer_60 ki_1 ?_
      refine z_iload_n hC dX7_runTimer_61 rfl ?_
      refine z_callVv hC [.int 1, .int p1] (c_X4_addRow 1 p1) yy_X4_addRow wl_X7_238 dX7_runTimer_62 ltC_24 layC_24 vcz_X4 rfl rfl rfl (Nat.le_of_ble_eq_true rfl) (by decide) (fun r16 σ17 _ => ?_)
      refine z_aload_n hC dX7_runTimer_65 rfl ?_
      refine z_aload_n hC dX7_runTimer_66 rfl ?_
      refine z_getr hC wf_X7_33 dX7_runTimer_67 ltC_0 layC_0 rfl ?_
      refine z_getr hC wf_X7_254 dX7_runTimer_70 ltC_17 layC_17 rfl ?_
      refine z_iload_n hC dX7_runTimer_73 rfl ?_
      refine z_iald hC dX7_runTimer_74 ltC_18 layC_18 (fun h18 => ?_)
      refine z_callVi hC [.int (σ17 18 p1.toNatClampNeg)] (c_X7_doDeed (σ17 18 p1.toNatClampNeg)) yy_X7_doDeed wl_X7_129 dX7_runTimer_75 ltC_0 layC_0 vcz_X7 rfl rfl rfl (Nat.le_of_ble_eq_true rfl) (by decide) (fun r19 σ20 _ => ?_)
      refine z_pop hC dX7_runTimer_78 rfl ?_
      exact z_vret hC dX7_runTimer_79
  · exact z_vret hC dX7_runTimer_25
theorem c_X7_runTimer (p1 : Int32) : zM layC nC yX7_runTimer cX7_runTimer 2 none (zRm 4 88) (fun ad => [.ref (ad 0), .int p1]) (f_X7_runTimer p1) := zM_of (own := RX7) (by decide) rfl (fun ad w hw => by simp only [List.mem_cons, List.not_mem_nil, or_false] at hw; (first | exact hw.elim | (rcases hw with rfl | rfl <;> rfl))) (fun ad => Nat.le_of_ble_eq_true rfl) (fun Γ ad hC σ => w_X7_runTimer hC p1 σ)
set_option maxRecDepth 100000 in
set_option maxHeartbeats 4000000 in
theorem t_X7_runTimers_L2 {Γ : zG} {ad : Nat → Nat} (hC : zX Γ layC nC ad cX7_runTimers RX7 2 (zRm 5 109) none) (a0 : Int32 × zS) (K : Bool × (Int32 × zS) → Option (Int32 × zS)) (hc : ∀ (x0 : Int32) (s' : zS), zZ Γ layC nC ad 2 none 2 [some (.ref (ad 0)), some (.int x0)] [] s' (K (true, (x0, s')))) (hx : ∀ (x0 : Int32) (s' : zS), zZ Γ layC nC ad 2 none 26 [some (.ref (ad 0)), some (.int x0)] [] s' (K (false, (x0, s')))) : zK Γ layC nC ad 2 none 2 [some (.ref (ad 0)), some (.int a0.1)] [] (a0.2) (b_X7_runTimers_L2 a0) K := by
  unfold b_X7_runTimers_L2
  refine z_iload_n hC dX7_runTimers_2 rfl ?_
  refine z_aload_n hC dX7_runTimers_3 rfl ?_
  refine z_getr hC wf_X7_33 dX7_runTimers_4 ltC_0 layC_0 rfl ?_
  refine z_geti hC wf_X7_178 dX7_runTimers_7 ltC_17 layC_17 rfl ?_
  refine z_icmp_ge hC 26 dX7_runTimers_10 (by decide) (fun h1 => ?_) (fun h1 => ?_)
  · exact z_leaf (hx a0.1 a0.2)
  · refine z_aload_n hC dX7_runTimers_13 rfl ?_
    refine z_getr hC wf_X7_58 dX7_runTimers_14 ltC_0 layC_0 rfl ?_
    refine z_iload_n hC dX7_runTimers_17 rfl ?_
    refine z_iconst hC dX7_runTimers_18 ki_0 ?_
    refine z_zast hC dX7_runTimers_19 ltC_116 layC_116 (fun h2 => ?_)
    refine z_let (fun σ3 _ => ?_)
    refine z_iinc hC dX7_runTimers_20 (lv' := [some (.ref (ad 0)), some (.int (a0.1 + 1))]) rfl (by decide) ki_1 rfl ?_
    refine z_goto hC 2 dX7_runTimers_23 (by decide) ?_
    exact z_leaf (hc (a0.1 + 1) σ3)
set_option maxRecDepth 100000 in
set_option maxHeartbeats 4000000 in
theorem t_X7_runTimers_L28 {Γ : zG} {ad : Nat → Nat} (hC : zX Γ layC nC ad cX7_runTimers RX7 2 (zRm 5 109) none) (a0 : Int32 × zS) (K : Bool × (Int32 × zS) → Option (Int32 × zS)) (hc : ∀ (x0 : Int32) (s' : zS), zZ Γ layC nC ad 2 none 28 [some (.ref (ad 0)), some (.int x0)] [] s' (K (true, (x0, s')))) (hx : ∀ (x0 : Int32) (s' : zS), zZ Γ layC nC ad 2 none 78 [some (.ref (ad 0)), some (.int x0)] [] s' (K (false, (x0, s')))) : zK Γ layC nC ad 2 none 28 [some (.ref (ad 0)), some (.int a0.1)] [] (a0.2) (b_X7_runTimers_L28 a0) K := by
  unfold b_X7_runTimers_L28
  refine z_iload_n hC dX7_runTimers_28 rfl ?_
  refine z_aload_n hC dX7_runTimers_29 rfl ?_
  refine z_getr hC wf_X7_33 dX7_runTimers_30 ltC_0 layC_0 rfl ?_
  refine z_geti hC wf_X7_178 dX7_runTimers_33 ltC_17 layC_17 rfl ?_
  refine z_icmp_ge hC 78 dX7_runTimers_36 (by decide) (fun h5 => ?_) (fun h5 => ?_)
  · exact z_leaf (hx a0.1 a0.2)
  · refine z_aload_n hC dX7_runTimers_39 rfl ?_
    refine z_geti hC wf_X7_145 dX7_runTimers_40 ltC_0 layC_0 rfl ?_
    refine z_if_ne hC 78 dX7_runTimers_43 (by decide) (fun h6 => ?_) (fun h6 => ?_)
    · exact z_leaf (hx a0.1 a0.2)
    · refine z_aload_n hC dX7_runTimers_46 rfl ?_
      refine z_getr hC wf_X7_47 dX7_runTimers_47 ltC_0 layC_0 rfl ?_
      refine z_getr hC wf_X7_183 dX7_runTimers_50 ltC_24 layC_24 rfl ?_
      refine z_iload_n hC dX7_runTimers_53 rfl ?_
      refine z_iald hC dX7_runTimers_54 ltC_31 layC_31 (fun h7 => ?_)
      refine z_if_le hC 72 dX7_runTimers_55 (by decide) (fun h8 => ?_) (fun h8 => ?_)
      · refine z_iinc hC dX7_runTimers_72 (lv' := [some (.ref (ad 0)), some (.int (a0.1 + 1))]) rfl (by decide) ki_1 rfl ?_
        refine z_goto hC 28 dX7_runTimers_75 (by decide) ?_
        exact z_leaf (hc (a0.1 + 1) a0.2)
      · refine z_aload_n hC dX7_runTimers_58 rfl ?_
        refine z_getr hC wf_X7_58 dX7_runTimers_59 ltC_0 layC_0 rfl ?_
        refine z_iload_n hC dX7_runTimers_62 rfl ?_
        refine z_zald hC dX7_runTimers_63 ltC_116 layC_116 (fun h9 => ?_)
        refine z_if_ne hC 72 dX7_runTimers_64 (by decide) (fun h10 => ?_) (fun h10 => ?_)
        · refine z_iinc hC dX7_runTimers_72 (lv' := [some (.ref (ad 0)), some (.int (a0.1 + 1))]) rfl (by decide) ki_1 rfl ?_
          refine z_goto hC 28 dX7_runTimers_75 (by decide) ?_
          exact z_leaf (hc (a0.1 + 1) a0.2)
        · refine z_aload_n hC dX7_runTimers_67 rfl ?_
          refine z_iload_n hC dX7_runTimers_68 rfl ?_
          refine z_callVv hC [.int a0.1] (c_X7_runTimer a0.1) yy_X7_runTimer wl_X7_245 dX7_runTimers_69 ltC_0 layC_0 vcz_X7 rfl rfl rfl (Nat.le_of_ble_eq_true rfl) (by decide) (fun r11 σ12 _ => ?_)
          refine z_iinc hC dX7_runTimers_72 (lv' := [some (.ref (ad 0)), some (.int (a0.1 + 1))]) rfl (by decide) ki_1 rfl ?_
          refine z_goto hC 28 dX7_runTimers_75 (by decide) ?_
          exact z_leaf (hc (a0.1 + 1) σ12)
set_option maxRecDepth 100000 in
set_option maxHeartbeats 4000000 in
theorem w_X7_runTimers {Γ : zG} {ad : Nat → Nat} (hC : zX Γ layC nC ad cX7_runTimers RX7 2 (zRm 5 109) none) (σ : zS) : zK Γ layC nC ad 2 none 0 [some (.ref (ad 0)), none] [] σ (f_X7_runTimers σ) some := by
  unfold f_X7_runTimers
  refine z_iconst hC dX7_runTimers_0 ki_0 ?_
  refine z_istore_n hC dX7_runTimers_1 (lv' := [some (.ref (ad 0)), some (.int 0)]) (by decide) rfl ?_
  refine z_lpb (lvf := fun z : Int32 × zS => [some (.ref (ad 0)), some (.int z.1)]) (sg := fun z => z.2) (x := 26) zfuel (0, σ) rfl rfl (fun z K hc hx => t_X7_runTimers_L2 hC z K (fun x0 s' => hc (x0, s')) (fun x0 s' => hx (x0, s'))) (fun a4 => ?_)
  refine z_iconst hC dX7_runTimers_26 ki_0 ?_
  refine z_istore_n hC dX7_runTimers_27 (lv' := [some (.ref (ad 0)), some (.int 0)]) (by decide) rfl ?_
  refine z_lpb (lvf := fun z : Int32 × zS => [some (.ref (ad 0)), some (.int z.1)]) (sg := fun z => z.2) (x := 78) zfuel (0, a4.2) rfl rfl (fun z K hc hx => t_X7_runTimers_L28 hC z K (fun x0 s' => hc (x0, s')) (fun x0 s' => hx (x0, s'))) (fun a13 => ?_)
  exact z_vret hC dX7_runTimers_78
theorem c_X7_runTimers : zM layC nC yX7_runTimers cX7_runTimers 2 none (zRm 5 109) (fun ad => [.ref (ad 0)]) (f_X7_runTimers) := zM_of (own := RX7) (by decide) rfl (fun ad w hw => by simp only [List.mem_cons, List.not_mem_nil, or_false] at hw; (first | exact hw.elim | (rcases hw with rfl <;> rfl))) (fun ad => Nat.le_of_ble_eq_true rfl) (fun Γ ad hC σ => w_X7_runTimers hC σ)
set_option maxRecDepth 100000 in
set_option maxHeartbeats 4000000 in
theorem w_X7_timer {Γ : zG} {ad : Nat → Nat} (hC : zX Γ layC nC ad cX7_timer RX7 4 (zRm 1 23) (some .int)) (p1 : Int32) (p2 : Int32) (p3 : Int32) (σ : zS) : zK Γ layC nC ad 4 (some .int) 0 [some (.ref (ad 0)), some (.int p1), some (.int p2), some (.int p3)] [] σ (f_X7_timer p1 p2 p3 σ) some := by
  unfold f_X7_timer
  refine z_iload_n hC dX7_timer_0 rfl ?_
  refine z_aload_n hC dX7_timer_1 rfl ?_
  refine z_getr hC wf_X7_19 dX7_timer_2 ltC_0 layC_0 rfl ?_
  refine z_geti hC wf_X7_110 dX7_timer_5 ltC_5 layC_5 rfl ?_
  refine z_callSi hC [.int p1, .int (σ 5 0)] (c_X7_isThere p1 (σ 5 0)) yy_X7_isThere wl_X7_74 dX7_timer_8 rfl rfl rfl (Nat.le_of_ble_eq_true rfl) (by decide) (fun r1 σ2 _ => ?_)
  refine z_if_ne hC 17 dX7_timer_11 (by decide) (fun h3 => ?_) (fun h3 => ?_)
  · refine z_iload_n hC dX7_timer_17 rfl ?_
    refine z_iconst hC dX7_timer_18 ki_1 ?_
    refine z_bipush hC dX7_timer_19 kb_50 ?_
    refine z_callSi hC [.int p2, .int 1, .int 50] (c_X7_isWithin p2 1 50) yy_X7_isWithin wl_X7_95 dX7_timer_21 rfl rfl rfl (Nat.le_of_ble_eq_true rfl) (by decide) (fun r4 σ5 _ => ?_)
    refine z_if_ne hC 30 dX7_timer_24 (by decide) (fun h6 => ?_) (fun h6 => ?_)
    · refine z_aload_n hC dX7_timer_30 rfl ?_
      refine z_aload_n hC dX7_timer_31 rfl ?_
      refine z_getr hC wf_X7_33 dX7_timer_32 ltC_0 layC_0 rfl ?_
      refine z_iload_n hC dX7_timer_35 rfl ?_
      refine z_iload_n hC dX7_timer_36 rfl ?_
      refine z_iload_n hC dX7_timer_37 rfl ?_
      refine z_callVi hC [.int p1, .int p2, .int p3] (c_X6_addTimer p1 p2 p3) yy_X6_addTimer wl_X7_123 dX7_timer_38 ltC_17 layC_17 vcz_X6 rfl rfl rfl (Nat.le_of_ble_eq_true rfl) (by decide) (fun r7 σ8 _ => ?_)
      refine z_callVi hC [.int r7] (c_X7_closePast r7) yy_X7_closePast wl_X7_66 dX7_timer_41 ltC_0 layC_0 vcz_X7 rfl rfl rfl (Nat.le_of_ble_eq_true rfl) (by decide) (fun r9 σ10 _ => ?_)
      exact z_iret hC dX7_timer_44
    · refine z_bipush hC dX7_timer_27 kb_m3 ?_
      exact z_iret hC dX7_timer_29
  · refine z_bipush hC dX7_timer_14 kb_m2 ?_
    exact z_iret hC dX7_timer_16
theorem c_X7_timer (p1 : Int32) (p2 : Int32) (p3 : Int32) : zM layC nC yX7_timer cX7_timer 4 (some .int) (zRm 1 23) (fun ad => [.ref (ad 0), .int p1, .int p2, .int p3]) (f_X7_timer p1 p2 p3) := zM_of (own := RX7) (by decide) rfl (fun ad w hw => by simp only [List.mem_cons, List.not_mem_nil, or_false] at hw; (first | exact hw.elim | (rcases hw with rfl | rfl | rfl | rfl <;> rfl))) (fun ad => Nat.le_of_ble_eq_true rfl) (fun Γ ad hC σ => w_X7_timer hC p1 p2 p3 σ)
set_option maxRecDepth 100000 in
set_option maxHeartbeats 4000000 in
theorem w_X7_told {Γ : zG} {ad : Nat → Nat} (hC : zX Γ layC nC ad cX7_told RX7 2 (zRm 0 0) (some .int)) (p1 : Int32) (σ : zS) : zK Γ layC nC ad 2 (some .int) 0 [some (.ref (ad 0)), some (.int p1)] [] σ (f_X7_told p1 σ) some := by
  unfold f_X7_told
  refine z_iload_n hC dX7_told_0 rfl ?_
  refine z_ite (fun h1 => ?_) (fun h1 => ?_)
  · refine z_tabIn hC 44 dX7_told_1 0 h1 (by decide) (by decide) rfl (by decide) ?_
    refine z_aload_n hC dX7_told_44 rfl ?_
    refine z_getr hC wf_X7_47 dX7_told_45 ltC_0 layC_0 rfl ?_
    refine z_geti hC wf_X7_165 dX7_told_48 ltC_24 layC_24 rfl ?_
    exact z_iret hC dX7_told_51
  refine z_ite (fun h2 => ?_) (fun h2 => ?_)
  · refine z_tabIn hC 52 dX7_told_1 1 h2 (by decide) (by decide) rfl (by decide) ?_
    refine z_aload_n hC dX7_told_52 rfl ?_
    refine z_getr hC wf_X7_47 dX7_told_53 ltC_0 layC_0 rfl ?_
    refine z_geti hC wf_X7_168 dX7_told_56 ltC_24 layC_24 rfl ?_
    exact z_iret hC dX7_told_59
  refine z_ite (fun h3 => ?_) (fun h3 => ?_)
  · refine z_tabIn hC 60 dX7_told_1 2 h3 (by decide) (by decide) rfl (by decide) ?_
    refine z_aload_n hC dX7_told_60 rfl ?_
    refine z_getr hC wf_X7_47 dX7_told_61 ltC_0 layC_0 rfl ?_
    refine z_geti hC wf_X7_139 dX7_told_64 ltC_24 layC_24 rfl ?_
    exact z_iret hC dX7_told_67
  refine z_ite (fun h4 => ?_) (fun h4 => ?_)
  · refine z_tabIn hC 68 dX7_told_1 3 h4 (by decide) (by decide) rfl (by decide) ?_
    refine z_aload_n hC dX7_told_68 rfl ?_
    refine z_getr hC wf_X7_47 dX7_told_69 ltC_0 layC_0 rfl ?_
    refine z_geti hC wf_X7_132 dX7_told_72 ltC_24 layC_24 rfl ?_
    exact z_iret hC dX7_told_75
  refine z_ite (fun h5 => ?_) (fun h5 => ?_)
  · refine z_tabIn hC 76 dX7_told_1 4 h5 (by decide) (by decide) rfl (by decide) ?_
    refine z_aload_n hC dX7_told_76 rfl ?_
    refine z_getr hC wf_X7_47 dX7_told_77 ltC_0 layC_0 rfl ?_
    refine z_geti hC wf_X7_171 dX7_told_80 ltC_24 layC_24 rfl ?_
    exact z_iret hC dX7_told_83
  refine z_ite (fun h6 => ?_) (fun h6 => ?_)
  · refine z_tabIn hC 84 dX7_told_1 5 h6 (by decide) (by decide) rfl (by decide) ?_
    refine z_aload_n hC dX7_told_84 rfl ?_
    refine z_getr hC wf_X7_54 dX7_told_85 ltC_0 layC_0 rfl ?_
    refine z_geti hC wf_X7_161 dX7_told_88 ltC_34 layC_34 rfl ?_
    exact z_iret hC dX7_told_91
  refine z_ite (fun h7 => ?_) (fun h7 => ?_)
  · refine z_tabIn hC 92 dX7_told_1 6 h7 (by decide) (by decide) rfl (by decide) ?_
    refine z_aload_n hC dX7_told_92 rfl ?_
    refine z_getr hC wf_X7_47 dX7_told_93 ltC_0 layC_0 rfl ?_
    refine z_geti hC wf_X7_142 dX7_told_96 ltC_24 layC_24 rfl ?_
    exact z_iret hC dX7_told_99
  refine z_tabOut hC 100 dX7_told_1 (by have := And.intro (lv_neT h1 (a := 0) (by decide)) (And.intro (lv_neT h2 (a := 1) (by decide)) (And.intro (lv_neT h3 (a := 2) (by decide)) (And.intro (lv_neT h4 (a := 3) (by decide)) (And.intro (lv_neT h5 (a := 4) (by decide)) (And.intro (lv_neT h6 (a := 5) (by decide)) (lv_neT h7 (a := 6) (by decide))))))); omega) (by decide) ?_
  refine z_bipush hC dX7_told_100 kb_m3 ?_
  exact z_iret hC dX7_told_102
theorem c_X7_told (p1 : Int32) : zM layC nC yX7_told cX7_told 2 (some .int) (zRm 0 0) (fun ad => [.ref (ad 0), .int p1]) (f_X7_told p1) := zM_of (own := RX7) (by decide) rfl (fun ad w hw => by simp only [List.mem_cons, List.not_mem_nil, or_false] at hw; (first | exact hw.elim | (rcases hw with rfl | rfl <;> rfl))) (fun ad => Nat.le_of_ble_eq_true rfl) (fun Γ ad hC σ => w_X7_told hC p1 σ)
set_option maxRecDepth 100000 in
set_option maxHeartbeats 4000000 in
theorem w_X7_turn {Γ : zG} {ad : Nat → Nat} (hC : zX Γ layC nC ad cX7_turn RX7 1 (zRm 6 132) (some .int)) (σ : zS) : zK Γ layC nC ad 1 (some .int) 0 [some (.ref (ad 0))] [] σ (f_X7_turn σ) some := by
  unfold f_X7_turn
  refine z_aload_n hC dX7_turn_0 rfl ?_
  refine z_getr hC wf_X7_54 dX7_turn_1 ltC_0 layC_0 rfl ?_
  refine z_aload_n hC dX7_turn_4 rfl ?_
  refine z_getr hC wf_X7_47 dX7_turn_5 ltC_0 layC_0 rfl ?_
  refine z_callVv hC [.ref (ad 24)] c_X5_keep yy_X5_keep wl_X7_135 dX7_turn_8 ltC_34 layC_34 vcz_X5 rfl rfl rfl (Nat.le_of_ble_eq_true rfl) (by decide) (fun r1 σ2 _ => ?_)
  refine z_aload_n hC dX7_turn_11 rfl ?_
  refine z_getr hC wf_X7_47 dX7_turn_12 ltC_0 layC_0 rfl ?_
  refine z_dup hC dX7_turn_15 rfl ?_
  refine z_geti hC wf_X7_139 dX7_turn_16 ltC_24 layC_24 rfl ?_
  refine z_iconst hC dX7_turn_19 ki_1 ?_
  refine z_iadd hC dX7_turn_20 ?_
  refine z_puti hC wp_X7_139 dX7_turn_21 ltC_24 layC_24 rfl ?_
  refine z_let (fun σ3 _ => ?_)
  refine z_aload_n hC dX7_turn_24 rfl ?_
  refine z_getr hC wf_X7_47 dX7_turn_25 ltC_0 layC_0 rfl ?_
  refine z_iconst hC dX7_turn_28 ki_0 ?_
  refine z_puti hC wp_X7_142 dX7_turn_29 ltC_24 layC_24 rfl ?_
  refine z_let (fun σ4 _ => ?_)
  refine z_aload_n hC dX7_turn_32 rfl ?_
  refine z_iconst hC dX7_turn_33 ki_0 ?_
  refine z_putz hC wp_X7_145 (by decide) dX7_turn_34 ltC_0 layC_0 rfl ?_
  refine z_let (fun σ5 _ => ?_)
  refine z_aload_n hC dX7_turn_37 rfl ?_
  refine z_callVv hC [] c_X7_bringEvents yy_X7_bringEvents wl_X7_149 dX7_turn_38 ltC_0 layC_0 vcz_X7 rfl rfl rfl (Nat.le_of_ble_eq_true rfl) (by decide) (fun r6 σ7 _ => ?_)
  refine z_aload_n hC dX7_turn_41 rfl ?_
  refine z_callVv hC [] c_X7_runTimers yy_X7_runTimers wl_X7_152 dX7_turn_42 ltC_0 layC_0 vcz_X7 rfl rfl rfl (Nat.le_of_ble_eq_true rfl) (by decide) (fun r8 σ9 _ => ?_)
  refine z_aload_n hC dX7_turn_45 rfl ?_
  refine z_callVv hC [] c_X7_runDaemons yy_X7_runDaemons wl_X7_155 dX7_turn_46 ltC_0 layC_0 vcz_X7 rfl rfl rfl (Nat.le_of_ble_eq_true rfl) (by decide) (fun r10 σ11 _ => ?_)
  refine z_aload_n hC dX7_turn_49 rfl ?_
  refine z_callVv hC [] c_X7_moveWalkers yy_X7_moveWalkers wl_X7_158 dX7_turn_50 ltC_0 layC_0 vcz_X7 rfl rfl rfl (Nat.le_of_ble_eq_true rfl) (by decide) (fun r12 σ13 _ => ?_)
  refine z_aload_n hC dX7_turn_53 rfl ?_
  refine z_getr hC wf_X7_47 dX7_turn_54 ltC_0 layC_0 rfl ?_
  refine z_geti hC wf_X7_142 dX7_turn_57 ltC_24 layC_24 rfl ?_
  exact z_iret hC dX7_turn_60
theorem c_X7_turn : zM layC nC yX7_turn cX7_turn 1 (some .int) (zRm 6 132) (fun ad => [.ref (ad 0)]) (f_X7_turn) := zM_of (own := RX7) (by decide) rfl (fun ad w hw => by simp only [List.mem_cons, List.not_mem_nil, or_false] at hw; (first | exact hw.elim | (rcases hw with rfl <;> rfl))) (fun ad => Nat.le_of_ble_eq_true rfl) (fun Γ ad hC σ => w_X7_turn hC σ)
set_option maxRecDepth 100000 in
set_option maxHeartbeats 4000000 in
theorem w_X7_walker {Γ : zG} {ad : Nat → Nat} (hC : zX Γ layC nC ad cX7_walker RX7 3 (zRm 1 21) (some .int)) (p1 : Int32) (σ : zS) : zK Γ layC nC ad 3 (some .int) 0 [some (.ref (ad 0)), some (.int p1), none] [] σ (f_X7_walker p1 σ) some := by
  unfold f_X7_walker
  refine z_iload_n hC dX7_walker_0 rfl ?_
  refine z_aload_n hC dX7_walker_1 rfl ?_
  refine z_getr hC wf_X7_12 dX7_walker_2 ltC_0 layC_0 rfl ?_
  refine z_geti hC wf_X7_70 dX7_walker_5 ltC_1 layC_1 rfl ?_
  refine z_callSi hC [.int p1, .int (σ 1 0)] (c_X7_isThere p1 (σ 1 0)) yy_X7_isThere wl_X7_74 dX7_walker_8 rfl rfl rfl (Nat.le_of_ble_eq_true rfl) (by decide) (fun r1 σ2 _ => ?_)
  refine z_if_ne hC 17 dX7_walker_11 (by decide) (fun h3 => ?_) (fun h3 => ?_)
  · refine z_aload_n hC dX7_walker_17 rfl ?_
    refine z_getr hC wf_X7_12 dX7_walker_18 ltC_0 layC_0 rfl ?_
    refine z_callVi hC [] c_X3_addWalker yy_X3_addWalker wl_X7_82 dX7_walker_21 ltC_1 layC_1 vcz_X3 rfl rfl rfl (Nat.le_of_ble_eq_true rfl) (by decide) (fun r4 σ5 _ => ?_)
    refine z_istore_n hC dX7_walker_24 (lv' := [some (.ref (ad 0)), some (.int p1), some (.int r4)]) (by decide) rfl ?_
    refine z_iload_n hC dX7_walker_25 rfl ?_
    refine z_aload_n hC dX7_walker_26 rfl ?_
    refine z_getr hC wf_X7_12 dX7_walker_27 ltC_0 layC_0 rfl ?_
    refine z_geti hC wf_X7_85 dX7_walker_30 ltC_1 layC_1 rfl ?_
    refine z_callSi hC [.int r4, .int (σ5 1 2)] (c_X7_isThere r4 (σ5 1 2)) yy_X7_isThere wl_X7_74 dX7_walker_33 rfl rfl rfl (Nat.le_of_ble_eq_true rfl) (by decide) (fun r6 σ7 _ => ?_)
    refine z_if_eq hC 59 dX7_walker_36 (by decide) (fun h8 => ?_) (fun h8 => ?_)
    · refine z_aload_n hC dX7_walker_59 rfl ?_
      refine z_iload_n hC dX7_walker_60 rfl ?_
      refine z_callVi hC [.int r4] (c_X7_closePast r4) yy_X7_closePast wl_X7_66 dX7_walker_61 ltC_0 layC_0 vcz_X7 rfl rfl rfl (Nat.le_of_ble_eq_true rfl) (by decide) (fun r9 σ10 _ => ?_)
      exact z_iret hC dX7_walker_64
    · refine z_aload_n hC dX7_walker_39 rfl ?_
      refine z_getr hC wf_X7_47 dX7_walker_40 ltC_0 layC_0 rfl ?_
      refine z_getr hC wf_X7_88 dX7_walker_43 ltC_24 layC_24 rfl ?_
      refine z_iload_n hC dX7_walker_46 rfl ?_
      refine z_iload_n hC dX7_walker_47 rfl ?_
      refine z_iast hC dX7_walker_48 ltC_29 layC_29 (fun h11 => ?_)
      refine z_let (fun σ12 _ => ?_)
      refine z_aload_n hC dX7_walker_49 rfl ?_
      refine z_getr hC wf_X7_47 dX7_walker_50 ltC_0 layC_0 rfl ?_
      refine z_getr hC wf_X7_92 dX7_walker_53 ltC_24 layC_24 rfl ?_
      refine z_iload_n hC dX7_walker_56 rfl ?_
      refine z_iconst hC dX7_walker_57 ki_m1 ?_
      refine z_iast hC dX7_walker_58 ltC_30 layC_30 (fun h13 => ?_)
      refine z_let (fun σ14 _ => ?_)
      refine z_aload_n hC dX7_walker_59 rfl ?_
      refine z_iload_n hC dX7_walker_60 rfl ?_
      refine z_callVi hC [.int r4] (c_X7_closePast r4) yy_X7_closePast wl_X7_66 dX7_walker_61 ltC_0 layC_0 vcz_X7 rfl rfl rfl (Nat.le_of_ble_eq_true rfl) (by decide) (fun r15 σ16 _ => ?_)
      exact z_iret hC dX7_walker_64
  · refine z_bipush hC dX7_walker_14 kb_m2 ?_
    exact z_iret hC dX7_walker_16
theorem c_X7_walker (p1 : Int32) : zM layC nC yX7_walker cX7_walker 3 (some .int) (zRm 1 21) (fun ad => [.ref (ad 0), .int p1]) (f_X7_walker p1) := zM_of (own := RX7) (by decide) rfl (fun ad w hw => by simp only [List.mem_cons, List.not_mem_nil, or_false] at hw; (first | exact hw.elim | (rcases hw with rfl | rfl <;> rfl))) (fun ad => Nat.le_of_ble_eq_true rfl) (fun Γ ad hC σ => w_X7_walker hC p1 σ)
set_option maxRecDepth 100000 in
set_option maxHeartbeats 4000000 in
theorem w_X7_walks {Γ : zG} {ad : Nat → Nat} (hC : zX Γ layC nC ad cX7_walks RX7 3 (zRm 1 21) (some .int)) (p1 : Int32) (p2 : Int32) (σ : zS) : zK Γ layC nC ad 3 (some .int) 0 [some (.ref (ad 0)), some (.int p1), some (.int p2)] [] σ (f_X7_walks p1 p2 σ) some := by
  unfold f_X7_walks
  refine z_iload_n hC dX7_walks_0 rfl ?_
  refine z_aload_n hC dX7_walks_1 rfl ?_
  refine z_getr hC wf_X7_12 dX7_walks_2 ltC_0 layC_0 rfl ?_
  refine z_geti hC wf_X7_85 dX7_walks_5 ltC_1 layC_1 rfl ?_
  refine z_callSi hC [.int p1, .int (σ 1 2)] (c_X7_isThere p1 (σ 1 2)) yy_X7_isThere wl_X7_74 dX7_walks_8 rfl rfl rfl (Nat.le_of_ble_eq_true rfl) (by decide) (fun r1 σ2 _ => ?_)
  refine z_if_ne hC 17 dX7_walks_11 (by decide) (fun h3 => ?_) (fun h3 => ?_)
  · refine z_iload_n hC dX7_walks_17 rfl ?_
    refine z_ite (fun h4 => ?_) (fun h4 => ?_)
    · refine z_look (off := 26) hC 44 dX7_walks_18 (by decide) (by rw [h4]; first | done | rfl) (by decide) ?_
      refine z_aload_n hC dX7_walks_44 rfl ?_
      refine z_getr hC wf_X7_47 dX7_walks_45 ltC_0 layC_0 rfl ?_
      refine z_getr hC wf_X7_88 dX7_walks_48 ltC_24 layC_24 rfl ?_
      refine z_iload_n hC dX7_walks_51 rfl ?_
      refine z_iald hC dX7_walks_52 ltC_29 layC_29 (fun h5 => ?_)
      exact z_iret hC dX7_walks_53
    refine z_ite (fun h6 => ?_) (fun h6 => ?_)
    · refine z_look (off := 36) hC 54 dX7_walks_18 (by decide) (by rw [h6]; first | done | rfl) (by decide) ?_
      refine z_aload_n hC dX7_walks_54 rfl ?_
      refine z_getr hC wf_X7_47 dX7_walks_55 ltC_0 layC_0 rfl ?_
      refine z_getr hC wf_X7_92 dX7_walks_58 ltC_24 layC_24 rfl ?_
      refine z_iload_n hC dX7_walks_61 rfl ?_
      refine z_iald hC dX7_walks_62 ltC_30 layC_30 (fun h7 => ?_)
      exact z_iret hC dX7_walks_63
    refine z_look (off := 46) hC 64 dX7_walks_18 (by decide) (by show Op.lookupswitch.offset [(0, 26), (1, 36)] _ _ = _; rw [lv_osw h4 (by decide), lv_osw h6 (by decide)]; first | done | rfl) (by decide) ?_
    refine z_bipush hC dX7_walks_64 kb_m3 ?_
    exact z_iret hC dX7_walks_66
  · refine z_bipush hC dX7_walks_14 kb_m2 ?_
    exact z_iret hC dX7_walks_16
theorem c_X7_walks (p1 : Int32) (p2 : Int32) : zM layC nC yX7_walks cX7_walks 3 (some .int) (zRm 1 21) (fun ad => [.ref (ad 0), .int p1, .int p2]) (f_X7_walks p1 p2) := zM_of (own := RX7) (by decide) rfl (fun ad w hw => by simp only [List.mem_cons, List.not_mem_nil, or_false] at hw; (first | exact hw.elim | (rcases hw with rfl | rfl | rfl <;> rfl))) (fun ad => Nat.le_of_ble_eq_true rfl) (fun Γ ad hC σ => w_X7_walks hC p1 p2 σ)
set_option maxRecDepth 100000 in
set_option maxHeartbeats 4000000 in
theorem w_X7_way {Γ : zG} {ad : Nat → Nat} (hC : zX Γ layC nC ad cX7_way RX7 3 (zRm 2 47) (some .int)) (p1 : Int32) (p2 : Int32) (σ : zS) : zK Γ layC nC ad 3 (some .int) 0 [some (.ref (ad 0)), some (.int p1), some (.int p2)] [] σ (f_X7_way p1 p2 σ) some := by
  unfold f_X7_way
  refine z_iload_n hC dX7_way_0 rfl ?_
  refine z_aload_n hC dX7_way_1 rfl ?_
  refine z_getr hC wf_X7_12 dX7_way_2 ltC_0 layC_0 rfl ?_
  refine z_geti hC wf_X7_70 dX7_way_5 ltC_1 layC_1 rfl ?_
  refine z_callSi hC [.int p1, .int (σ 1 0)] (c_X7_isThere p1 (σ 1 0)) yy_X7_isThere wl_X7_74 dX7_way_8 rfl rfl rfl (Nat.le_of_ble_eq_true rfl) (by decide) (fun r1 σ2 _ => ?_)
  refine z_if_eq hC 28 dX7_way_11 (by decide) (fun h3 => ?_) (fun h3 => ?_)
  · refine z_bipush hC dX7_way_28 kb_m2 ?_
    exact z_iret hC dX7_way_30
  · refine z_iload_n hC dX7_way_14 rfl ?_
    refine z_aload_n hC dX7_way_15 rfl ?_
    refine z_getr hC wf_X7_12 dX7_way_16 ltC_0 layC_0 rfl ?_
    refine z_geti hC wf_X7_70 dX7_way_19 ltC_1 layC_1 rfl ?_
    refine z_callSi hC [.int p2, .int (σ2 1 0)] (c_X7_isThere p2 (σ2 1 0)) yy_X7_isThere wl_X7_74 dX7_way_22 rfl rfl rfl (Nat.le_of_ble_eq_true rfl) (by decide) (fun r4 σ5 _ => ?_)
    refine z_if_ne hC 31 dX7_way_25 (by decide) (fun h6 => ?_) (fun h6 => ?_)
    · refine z_aload_n hC dX7_way_31 rfl ?_
      refine z_getr hC wf_X7_12 dX7_way_32 ltC_0 layC_0 rfl ?_
      refine z_iload_n hC dX7_way_35 rfl ?_
      refine z_aload_n hC dX7_way_36 rfl ?_
      refine z_getr hC wf_X7_47 dX7_way_37 ltC_0 layC_0 rfl ?_
      refine z_getr hC wf_X7_193 dX7_way_40 ltC_24 layC_24 rfl ?_
      refine z_callVv hC [.int p2, .ref (ad 28)] (c_X3_measureTo p2) yy_X3_measureTo wl_X7_199 dX7_way_43 ltC_1 layC_1 vcz_X3 rfl rfl rfl (Nat.le_of_ble_eq_true rfl) (by decide) (fun r7 σ8 _ => ?_)
      refine z_aload_n hC dX7_way_46 rfl ?_
      refine z_getr hC wf_X7_12 dX7_way_47 ltC_0 layC_0 rfl ?_
      refine z_getr hC wf_X7_203 dX7_way_50 ltC_1 layC_1 rfl ?_
      refine z_iload_n hC dX7_way_53 rfl ?_
      refine z_iald hC dX7_way_54 ltC_4 layC_4 (fun h9 => ?_)
      exact z_iret hC dX7_way_55
    · refine z_bipush hC dX7_way_28 kb_m2 ?_
      exact z_iret hC dX7_way_30
theorem c_X7_way (p1 : Int32) (p2 : Int32) : zM layC nC yX7_way cX7_way 3 (some .int) (zRm 2 47) (fun ad => [.ref (ad 0), .int p1, .int p2]) (f_X7_way p1 p2) := zM_of (own := RX7) (by decide) rfl (fun ad w hw => by simp only [List.mem_cons, List.not_mem_nil, or_false] at hw; (first | exact hw.elim | (rcases hw with rfl | rfl | rfl <;> rfl))) (fun ad => Nat.le_of_ble_eq_true rfl) (fun Γ ad hC σ => w_X7_way hC p1 p2 σ)
