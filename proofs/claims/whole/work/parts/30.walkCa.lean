set_option maxRecDepth 100000 in
set_option maxHeartbeats 4000000 in
theorem w_X0_addDaemon {Γ : zG} {ad : Nat → Nat} (hC : zX Γ layC nC ad cX0_addDaemon RX0 3 (zRm 0 0) (some .int)) (p1 : Int32) (p2 : Int32) (σ : zS) : zK Γ layC nC ad 3 (some .int) 0 [some (.ref (ad 21)), some (.int p1), some (.int p2)] [] σ (f_X0_addDaemon p1 p2 σ) some := by
  unfold f_X0_addDaemon
  refine z_aload_n hC dX0_addDaemon_0 rfl ?_
  refine z_geti hC wf_X0_18 dX0_addDaemon_1 ltC_21 layC_21 rfl ?_
  refine z_bipush hC dX0_addDaemon_4 kb_12 ?_
  refine z_icmp_lt hC 12 dX0_addDaemon_6 (by decide) (fun h1 => ?_) (fun h1 => ?_)
  · refine z_aload_n hC dX0_addDaemon_12 rfl ?_
    refine z_getr hC wf_X0_9 dX0_addDaemon_13 ltC_21 layC_21 rfl ?_
    refine z_aload_n hC dX0_addDaemon_16 rfl ?_
    refine z_geti hC wf_X0_18 dX0_addDaemon_17 ltC_21 layC_21 rfl ?_
    refine z_iload_n hC dX0_addDaemon_20 rfl ?_
    refine z_iast hC dX0_addDaemon_21 ltC_22 layC_22 (fun h2 => ?_)
    refine z_let (fun σ3 _ => ?_)
    refine z_aload_n hC dX0_addDaemon_22 rfl ?_
    refine z_getr hC wf_X0_15 dX0_addDaemon_23 ltC_21 layC_21 rfl ?_
    refine z_aload_n hC dX0_addDaemon_26 rfl ?_
    refine z_geti hC wf_X0_18 dX0_addDaemon_27 ltC_21 layC_21 rfl ?_
    refine z_iload_n hC dX0_addDaemon_30 rfl ?_
    refine z_iast hC dX0_addDaemon_31 ltC_23 layC_23 (fun h4 => ?_)
    refine z_let (fun σ5 _ => ?_)
    refine z_aload_n hC dX0_addDaemon_32 rfl ?_
    refine z_dup hC dX0_addDaemon_33 rfl ?_
    refine z_geti hC wf_X0_18 dX0_addDaemon_34 ltC_21 layC_21 rfl ?_
    refine z_iconst hC dX0_addDaemon_37 ki_1 ?_
    refine z_iadd hC dX0_addDaemon_38 ?_
    refine z_puti hC wp_X0_18 dX0_addDaemon_39 ltC_21 layC_21 rfl ?_
    refine z_let (fun σ6 _ => ?_)
    refine z_aload_n hC dX0_addDaemon_42 rfl ?_
    refine z_geti hC wf_X0_18 dX0_addDaemon_43 ltC_21 layC_21 rfl ?_
    refine z_iconst hC dX0_addDaemon_46 ki_1 ?_
    refine z_isub hC dX0_addDaemon_47 ?_
    exact z_iret hC dX0_addDaemon_48
  · refine z_bipush hC dX0_addDaemon_9 kb_m5 ?_
    exact z_iret hC dX0_addDaemon_11
theorem c_X0_addDaemon (p1 : Int32) (p2 : Int32) : zM layC nC yX0_addDaemon cX0_addDaemon 3 (some .int) (zRm 0 0) (fun ad => [.ref (ad 21), .int p1, .int p2]) (f_X0_addDaemon p1 p2) := zM_of (own := RX0) (by decide) rfl (fun ad w hw => by simp only [List.mem_cons, List.not_mem_nil, or_false] at hw; (first | exact hw.elim | (rcases hw with rfl | rfl | rfl <;> rfl))) (fun ad => Nat.le_of_ble_eq_true rfl) (fun Γ ad hC σ => w_X0_addDaemon hC p1 p2 σ)
set_option maxRecDepth 100000 in
set_option maxHeartbeats 4000000 in
theorem w_X1_addDeed {Γ : zG} {ad : Nat → Nat} (hC : zX Γ layC nC ad cX1_addDeed RX1 4 (zRm 0 0) (some .int)) (p1 : Int32) (p2 : Int32) (p3 : Int32) (σ : zS) : zK Γ layC nC ad 4 (some .int) 0 [some (.ref (ad 5)), some (.int p1), some (.int p2), some (.int p3)] [] σ (f_X1_addDeed p1 p2 p3 σ) some := by
  unfold f_X1_addDeed
  refine z_aload_n hC dX1_addDeed_0 rfl ?_
  refine z_geti hC wf_X1_27 dX1_addDeed_1 ltC_5 layC_5 rfl ?_
  refine z_bipush hC dX1_addDeed_4 kb_40 ?_
  refine z_icmp_lt hC 12 dX1_addDeed_6 (by decide) (fun h1 => ?_) (fun h1 => ?_)
  · refine z_aload_n hC dX1_addDeed_12 rfl ?_
    refine z_getr hC wf_X1_9 dX1_addDeed_13 ltC_5 layC_5 rfl ?_
    refine z_aload_n hC dX1_addDeed_16 rfl ?_
    refine z_geti hC wf_X1_27 dX1_addDeed_17 ltC_5 layC_5 rfl ?_
    refine z_iload_n hC dX1_addDeed_20 rfl ?_
    refine z_iast hC dX1_addDeed_21 ltC_6 layC_6 (fun h2 => ?_)
    refine z_let (fun σ3 _ => ?_)
    refine z_aload_n hC dX1_addDeed_22 rfl ?_
    refine z_getr hC wf_X1_15 dX1_addDeed_23 ltC_5 layC_5 rfl ?_
    refine z_aload_n hC dX1_addDeed_26 rfl ?_
    refine z_geti hC wf_X1_27 dX1_addDeed_27 ltC_5 layC_5 rfl ?_
    refine z_iload_n hC dX1_addDeed_30 rfl ?_
    refine z_iast hC dX1_addDeed_31 ltC_7 layC_7 (fun h4 => ?_)
    refine z_let (fun σ5 _ => ?_)
    refine z_aload_n hC dX1_addDeed_32 rfl ?_
    refine z_getr hC wf_X1_18 dX1_addDeed_33 ltC_5 layC_5 rfl ?_
    refine z_aload_n hC dX1_addDeed_36 rfl ?_
    refine z_geti hC wf_X1_27 dX1_addDeed_37 ltC_5 layC_5 rfl ?_
    refine z_iload_n hC dX1_addDeed_40 rfl ?_
    refine z_iast hC dX1_addDeed_41 ltC_8 layC_8 (fun h6 => ?_)
    refine z_let (fun σ7 _ => ?_)
    refine z_aload_n hC dX1_addDeed_42 rfl ?_
    refine z_getr hC wf_X1_21 dX1_addDeed_43 ltC_5 layC_5 rfl ?_
    refine z_aload_n hC dX1_addDeed_46 rfl ?_
    refine z_geti hC wf_X1_27 dX1_addDeed_47 ltC_5 layC_5 rfl ?_
    refine z_iconst hC dX1_addDeed_50 ki_m1 ?_
    refine z_iast hC dX1_addDeed_51 ltC_9 layC_9 (fun h8 => ?_)
    refine z_let (fun σ9 _ => ?_)
    refine z_aload_n hC dX1_addDeed_52 rfl ?_
    refine z_dup hC dX1_addDeed_53 rfl ?_
    refine z_geti hC wf_X1_27 dX1_addDeed_54 ltC_5 layC_5 rfl ?_
    refine z_iconst hC dX1_addDeed_57 ki_1 ?_
    refine z_iadd hC dX1_addDeed_58 ?_
    refine z_puti hC wp_X1_27 dX1_addDeed_59 ltC_5 layC_5 rfl ?_
    refine z_let (fun σ10 _ => ?_)
    refine z_aload_n hC dX1_addDeed_62 rfl ?_
    refine z_geti hC wf_X1_27 dX1_addDeed_63 ltC_5 layC_5 rfl ?_
    refine z_iconst hC dX1_addDeed_66 ki_1 ?_
    refine z_isub hC dX1_addDeed_67 ?_
    exact z_iret hC dX1_addDeed_68
  · refine z_bipush hC dX1_addDeed_9 kb_m5 ?_
    exact z_iret hC dX1_addDeed_11
theorem c_X1_addDeed (p1 : Int32) (p2 : Int32) (p3 : Int32) : zM layC nC yX1_addDeed cX1_addDeed 4 (some .int) (zRm 0 0) (fun ad => [.ref (ad 5), .int p1, .int p2, .int p3]) (f_X1_addDeed p1 p2 p3) := zM_of (own := RX1) (by decide) rfl (fun ad w hw => by simp only [List.mem_cons, List.not_mem_nil, or_false] at hw; (first | exact hw.elim | (rcases hw with rfl | rfl | rfl | rfl <;> rfl))) (fun ad => Nat.le_of_ble_eq_true rfl) (fun Γ ad hC σ => w_X1_addDeed hC p1 p2 p3 σ)
set_option maxRecDepth 100000 in
set_option maxHeartbeats 4000000 in
theorem w_X2_addEvent {Γ : zG} {ad : Nat → Nat} (hC : zX Γ layC nC ad cX2_addEvent RX2 4 (zRm 0 0) (some .int)) (p1 : Int32) (p2 : Int32) (p3 : Int32) (σ : zS) : zK Γ layC nC ad 4 (some .int) 0 [some (.ref (ad 11)), some (.int p1), some (.int p2), some (.int p3)] [] σ (f_X2_addEvent p1 p2 p3 σ) some := by
  unfold f_X2_addEvent
  refine z_aload_n hC dX2_addEvent_0 rfl ?_
  refine z_geti hC wf_X2_28 dX2_addEvent_1 ltC_11 layC_11 rfl ?_
  refine z_bipush hC dX2_addEvent_4 kb_12 ?_
  refine z_icmp_lt hC 12 dX2_addEvent_6 (by decide) (fun h1 => ?_) (fun h1 => ?_)
  · refine z_aload_n hC dX2_addEvent_12 rfl ?_
    refine z_getr hC wf_X2_9 dX2_addEvent_13 ltC_11 layC_11 rfl ?_
    refine z_aload_n hC dX2_addEvent_16 rfl ?_
    refine z_geti hC wf_X2_28 dX2_addEvent_17 ltC_11 layC_11 rfl ?_
    refine z_iload_n hC dX2_addEvent_20 rfl ?_
    refine z_iast hC dX2_addEvent_21 ltC_12 layC_12 (fun h2 => ?_)
    refine z_let (fun σ3 _ => ?_)
    refine z_aload_n hC dX2_addEvent_22 rfl ?_
    refine z_getr hC wf_X2_15 dX2_addEvent_23 ltC_11 layC_11 rfl ?_
    refine z_aload_n hC dX2_addEvent_26 rfl ?_
    refine z_geti hC wf_X2_28 dX2_addEvent_27 ltC_11 layC_11 rfl ?_
    refine z_iload_n hC dX2_addEvent_30 rfl ?_
    refine z_iast hC dX2_addEvent_31 ltC_13 layC_13 (fun h4 => ?_)
    refine z_let (fun σ5 _ => ?_)
    refine z_aload_n hC dX2_addEvent_32 rfl ?_
    refine z_getr hC wf_X2_18 dX2_addEvent_33 ltC_11 layC_11 rfl ?_
    refine z_aload_n hC dX2_addEvent_36 rfl ?_
    refine z_geti hC wf_X2_28 dX2_addEvent_37 ltC_11 layC_11 rfl ?_
    refine z_iload_n hC dX2_addEvent_40 rfl ?_
    refine z_zast hC dX2_addEvent_41 ltC_14 layC_14 (fun h6 => ?_)
    refine z_let (fun σ7 _ => ?_)
    refine z_aload_n hC dX2_addEvent_42 rfl ?_
    refine z_dup hC dX2_addEvent_43 rfl ?_
    refine z_geti hC wf_X2_28 dX2_addEvent_44 ltC_11 layC_11 rfl ?_
    refine z_iconst hC dX2_addEvent_47 ki_1 ?_
    refine z_iadd hC dX2_addEvent_48 ?_
    refine z_puti hC wp_X2_28 dX2_addEvent_49 ltC_11 layC_11 rfl ?_
    refine z_let (fun σ8 _ => ?_)
    refine z_aload_n hC dX2_addEvent_52 rfl ?_
    refine z_geti hC wf_X2_28 dX2_addEvent_53 ltC_11 layC_11 rfl ?_
    refine z_iconst hC dX2_addEvent_56 ki_1 ?_
    refine z_isub hC dX2_addEvent_57 ?_
    exact z_iret hC dX2_addEvent_58
  · refine z_bipush hC dX2_addEvent_9 kb_m5 ?_
    exact z_iret hC dX2_addEvent_11
theorem c_X2_addEvent (p1 : Int32) (p2 : Int32) (p3 : Int32) : zM layC nC yX2_addEvent cX2_addEvent 4 (some .int) (zRm 0 0) (fun ad => [.ref (ad 11), .int p1, .int p2, .int p3]) (f_X2_addEvent p1 p2 p3) := zM_of (own := RX2) (by decide) rfl (fun ad w hw => by simp only [List.mem_cons, List.not_mem_nil, or_false] at hw; (first | exact hw.elim | (rcases hw with rfl | rfl | rfl | rfl <;> rfl))) (fun ad => Nat.le_of_ble_eq_true rfl) (fun Γ ad hC σ => w_X2_addEvent hC p1 p2 p3 σ)
set_option maxRecDepth 100000 in
set_option maxHeartbeats 4000000 in
theorem t_X2_putInOrder_L10 {Γ : zG} {ad : Nat → Nat} (hC : zX Γ layC nC ad cX2_putInOrder RX2 5 (zRm 0 0) none) (c1 : Int32) (c2 : Int32) (c3 : Int32) (a0 : Int32 × zS) (K : Bool × (Int32 × zS) → Option (Int32 × zS)) (hc : ∀ (x0 : Int32) (s' : zS), zZ Γ layC nC ad 5 none 10 [some (.ref (ad 11)), some (.int c1), some (.int c2), some (.int c3), some (.int x0)] [] s' (K (true, (x0, s')))) (hx : ∀ (x0 : Int32) (s' : zS), zZ Γ layC nC ad 5 none 66 [some (.ref (ad 11)), some (.int c1), some (.int c2), some (.int c3), some (.int x0)] [] s' (K (false, (x0, s')))) : zK Γ layC nC ad 5 none 10 [some (.ref (ad 11)), some (.int c1), some (.int c2), some (.int c3), some (.int a0.1)] [] (a0.2) (b_X2_putInOrder_L10 c1 c2 c3 a0) K := by
  unfold b_X2_putInOrder_L10
  refine z_iload hC dX2_putInOrder_10 rfl ?_
  refine z_if_le hC 66 dX2_putInOrder_12 (by decide) (fun h2 => ?_) (fun h2 => ?_)
  · exact z_leaf (hx a0.1 a0.2)
  · refine z_aload_n hC dX2_putInOrder_15 rfl ?_
    refine z_getr hC wf_X2_25 dX2_putInOrder_16 ltC_11 layC_11 rfl ?_
    refine z_iload hC dX2_putInOrder_19 rfl ?_
    refine z_iconst hC dX2_putInOrder_21 ki_1 ?_
    refine z_isub hC dX2_putInOrder_22 ?_
    refine z_iald hC dX2_putInOrder_23 ltC_16 layC_16 (fun h3 => ?_)
    refine z_iload_n hC dX2_putInOrder_24 rfl ?_
    refine z_icmp_le hC 66 dX2_putInOrder_25 (by decide) (fun h4 => ?_) (fun h4 => ?_)
    · exact z_leaf (hx a0.1 a0.2)
    · refine z_aload_n hC dX2_putInOrder_28 rfl ?_
      refine z_getr hC wf_X2_22 dX2_putInOrder_29 ltC_11 layC_11 rfl ?_
      refine z_iload hC dX2_putInOrder_32 rfl ?_
      refine z_aload_n hC dX2_putInOrder_34 rfl ?_
      refine z_getr hC wf_X2_22 dX2_putInOrder_35 ltC_11 layC_11 rfl ?_
      refine z_iload hC dX2_putInOrder_38 rfl ?_
      refine z_iconst hC dX2_putInOrder_40 ki_1 ?_
      refine z_isub hC dX2_putInOrder_41 ?_
      refine z_iald hC dX2_putInOrder_42 ltC_15 layC_15 (fun h5 => ?_)
      refine z_iast hC dX2_putInOrder_43 ltC_15 layC_15 (fun h6 => ?_)
      refine z_let (fun σ7 _ => ?_)
      refine z_aload_n hC dX2_putInOrder_44 rfl ?_
      refine z_getr hC wf_X2_25 dX2_putInOrder_45 ltC_11 layC_11 rfl ?_
      refine z_iload hC dX2_putInOrder_48 rfl ?_
      refine z_aload_n hC dX2_putInOrder_50 rfl ?_
      refine z_getr hC wf_X2_25 dX2_putInOrder_51 ltC_11 layC_11 rfl ?_
      refine z_iload hC dX2_putInOrder_54 rfl ?_
      refine z_iconst hC dX2_putInOrder_56 ki_1 ?_
      refine z_isub hC dX2_putInOrder_57 ?_
      refine z_iald hC dX2_putInOrder_58 ltC_16 layC_16 (fun h8 => ?_)
      refine z_iast hC dX2_putInOrder_59 ltC_16 layC_16 (fun h9 => ?_)
      refine z_let (fun σ10 _ => ?_)
      refine z_iinc hC dX2_putInOrder_60 (lv' := [some (.ref (ad 11)), some (.int c1), some (.int c2), some (.int c3), some (.int (a0.1 + (-1)))]) rfl (by decide) ki_m1 rfl ?_
      refine z_goto hC 10 dX2_putInOrder_63 (by decide) ?_
      exact z_leaf (hc (a0.1 + (-1)) σ10)
set_option maxRecDepth 100000 in
set_option maxHeartbeats 4000000 in
theorem w_X2_putInOrder {Γ : zG} {ad : Nat → Nat} (hC : zX Γ layC nC ad cX2_putInOrder RX2 5 (zRm 0 0) none) (p1 : Int32) (p2 : Int32) (p3 : Int32) (σ : zS) : zK Γ layC nC ad 5 none 0 [some (.ref (ad 11)), some (.int p1), some (.int p2), some (.int p3), none] [] σ (f_X2_putInOrder p1 p2 p3 σ) some := by
  unfold f_X2_putInOrder
  refine z_iload_n hC dX2_putInOrder_0 rfl ?_
  refine z_bipush hC dX2_putInOrder_1 kb_12 ?_
  refine z_icmp_lt hC 7 dX2_putInOrder_3 (by decide) (fun h1 => ?_) (fun h1 => ?_)
  · refine z_iload_n hC dX2_putInOrder_7 rfl ?_
    refine z_istore hC dX2_putInOrder_8 (lv' := [some (.ref (ad 11)), some (.int p1), some (.int p2), some (.int p3), some (.int p3)]) (by decide) rfl ?_
    refine z_lpb (lvf := fun z : Int32 × zS => [some (.ref (ad 11)), some (.int p1), some (.int p2), some (.int p3), some (.int z.1)]) (sg := fun z => z.2) (x := 66) zfuel (p3, σ) rfl rfl (fun z K hc hx => t_X2_putInOrder_L10 hC p1 p2 p3 z K (fun x0 s' => hc (x0, s')) (fun x0 s' => hx (x0, s'))) (fun a11 => ?_)
    refine z_aload_n hC dX2_putInOrder_66 rfl ?_
    refine z_getr hC wf_X2_22 dX2_putInOrder_67 ltC_11 layC_11 rfl ?_
    refine z_iload hC dX2_putInOrder_70 rfl ?_
    refine z_iload_n hC dX2_putInOrder_72 rfl ?_
    refine z_iast hC dX2_putInOrder_73 ltC_15 layC_15 (fun h12 => ?_)
    refine z_let (fun σ13 _ => ?_)
    refine z_aload_n hC dX2_putInOrder_74 rfl ?_
    refine z_getr hC wf_X2_25 dX2_putInOrder_75 ltC_11 layC_11 rfl ?_
    refine z_iload hC dX2_putInOrder_78 rfl ?_
    refine z_iload_n hC dX2_putInOrder_80 rfl ?_
    refine z_iast hC dX2_putInOrder_81 ltC_16 layC_16 (fun h14 => ?_)
    refine z_let (fun σ15 _ => ?_)
    exact z_vret hC dX2_putInOrder_82
  · exact z_vret hC dX2_putInOrder_6
theorem c_X2_putInOrder (p1 : Int32) (p2 : Int32) (p3 : Int32) : zM layC nC yX2_putInOrder cX2_putInOrder 5 none (zRm 0 0) (fun ad => [.ref (ad 11), .int p1, .int p2, .int p3]) (f_X2_putInOrder p1 p2 p3) := zM_of (own := RX2) (by decide) rfl (fun ad w hw => by simp only [List.mem_cons, List.not_mem_nil, or_false] at hw; (first | exact hw.elim | (rcases hw with rfl | rfl | rfl | rfl <;> rfl))) (fun ad => Nat.le_of_ble_eq_true rfl) (fun Γ ad hC σ => w_X2_putInOrder hC p1 p2 p3 σ)
set_option maxRecDepth 100000 in
set_option maxHeartbeats 4000000 in
theorem w_X3_addDoor {Γ : zG} {ad : Nat → Nat} (hC : zX Γ layC nC ad cX3_addDoor RX3 3 (zRm 0 0) (some .int)) (p1 : Int32) (p2 : Int32) (σ : zS) : zK Γ layC nC ad 3 (some .int) 0 [some (.ref (ad 1)), some (.int p1), some (.int p2)] [] σ (f_X3_addDoor p1 p2 σ) some := by
  unfold f_X3_addDoor
  refine z_aload_n hC dX3_addDoor_0 rfl ?_
  refine z_geti hC wf_X3_25 dX3_addDoor_1 ltC_1 layC_1 rfl ?_
  refine z_bipush hC dX3_addDoor_4 kb_15 ?_
  refine z_icmp_lt hC 12 dX3_addDoor_6 (by decide) (fun h1 => ?_) (fun h1 => ?_)
  · refine z_aload_n hC dX3_addDoor_12 rfl ?_
    refine z_getr hC wf_X3_9 dX3_addDoor_13 ltC_1 layC_1 rfl ?_
    refine z_aload_n hC dX3_addDoor_16 rfl ?_
    refine z_geti hC wf_X3_25 dX3_addDoor_17 ltC_1 layC_1 rfl ?_
    refine z_iload_n hC dX3_addDoor_20 rfl ?_
    refine z_iast hC dX3_addDoor_21 ltC_2 layC_2 (fun h2 => ?_)
    refine z_let (fun σ3 _ => ?_)
    refine z_aload_n hC dX3_addDoor_22 rfl ?_
    refine z_getr hC wf_X3_15 dX3_addDoor_23 ltC_1 layC_1 rfl ?_
    refine z_aload_n hC dX3_addDoor_26 rfl ?_
    refine z_geti hC wf_X3_25 dX3_addDoor_27 ltC_1 layC_1 rfl ?_
    refine z_iload_n hC dX3_addDoor_30 rfl ?_
    refine z_iast hC dX3_addDoor_31 ltC_3 layC_3 (fun h4 => ?_)
    refine z_let (fun σ5 _ => ?_)
    refine z_aload_n hC dX3_addDoor_32 rfl ?_
    refine z_dup hC dX3_addDoor_33 rfl ?_
    refine z_geti hC wf_X3_25 dX3_addDoor_34 ltC_1 layC_1 rfl ?_
    refine z_iconst hC dX3_addDoor_37 ki_1 ?_
    refine z_iadd hC dX3_addDoor_38 ?_
    refine z_puti hC wp_X3_25 dX3_addDoor_39 ltC_1 layC_1 rfl ?_
    refine z_let (fun σ6 _ => ?_)
    refine z_aload_n hC dX3_addDoor_42 rfl ?_
    refine z_geti hC wf_X3_25 dX3_addDoor_43 ltC_1 layC_1 rfl ?_
    refine z_iconst hC dX3_addDoor_46 ki_1 ?_
    refine z_isub hC dX3_addDoor_47 ?_
    exact z_iret hC dX3_addDoor_48
  · refine z_bipush hC dX3_addDoor_9 kb_m5 ?_
    exact z_iret hC dX3_addDoor_11
theorem c_X3_addDoor (p1 : Int32) (p2 : Int32) : zM layC nC yX3_addDoor cX3_addDoor 3 (some .int) (zRm 0 0) (fun ad => [.ref (ad 1), .int p1, .int p2]) (f_X3_addDoor p1 p2) := zM_of (own := RX3) (by decide) rfl (fun ad w hw => by simp only [List.mem_cons, List.not_mem_nil, or_false] at hw; (first | exact hw.elim | (rcases hw with rfl | rfl | rfl <;> rfl))) (fun ad => Nat.le_of_ble_eq_true rfl) (fun Γ ad hC σ => w_X3_addDoor hC p1 p2 σ)
set_option maxRecDepth 100000 in
set_option maxHeartbeats 4000000 in
theorem w_X3_addRoom {Γ : zG} {ad : Nat → Nat} (hC : zX Γ layC nC ad cX3_addRoom RX3 1 (zRm 0 0) (some .int)) (σ : zS) : zK Γ layC nC ad 1 (some .int) 0 [some (.ref (ad 1))] [] σ (f_X3_addRoom σ) some := by
  unfold f_X3_addRoom
  refine z_aload_n hC dX3_addRoom_0 rfl ?_
  refine z_geti hC wf_X3_21 dX3_addRoom_1 ltC_1 layC_1 rfl ?_
  refine z_bipush hC dX3_addRoom_4 kb_10 ?_
  refine z_icmp_lt hC 12 dX3_addRoom_6 (by decide) (fun h1 => ?_) (fun h1 => ?_)
  · refine z_aload_n hC dX3_addRoom_12 rfl ?_
    refine z_dup hC dX3_addRoom_13 rfl ?_
    refine z_geti hC wf_X3_21 dX3_addRoom_14 ltC_1 layC_1 rfl ?_
    refine z_iconst hC dX3_addRoom_17 ki_1 ?_
    refine z_iadd hC dX3_addRoom_18 ?_
    refine z_puti hC wp_X3_21 dX3_addRoom_19 ltC_1 layC_1 rfl ?_
    refine z_let (fun σ2 _ => ?_)
    refine z_aload_n hC dX3_addRoom_22 rfl ?_
    refine z_geti hC wf_X3_21 dX3_addRoom_23 ltC_1 layC_1 rfl ?_
    refine z_iconst hC dX3_addRoom_26 ki_1 ?_
    refine z_isub hC dX3_addRoom_27 ?_
    exact z_iret hC dX3_addRoom_28
  · refine z_bipush hC dX3_addRoom_9 kb_m5 ?_
    exact z_iret hC dX3_addRoom_11
theorem c_X3_addRoom : zM layC nC yX3_addRoom cX3_addRoom 1 (some .int) (zRm 0 0) (fun ad => [.ref (ad 1)]) (f_X3_addRoom) := zM_of (own := RX3) (by decide) rfl (fun ad w hw => by simp only [List.mem_cons, List.not_mem_nil, or_false] at hw; (first | exact hw.elim | (rcases hw with rfl <;> rfl))) (fun ad => Nat.le_of_ble_eq_true rfl) (fun Γ ad hC σ => w_X3_addRoom hC σ)
set_option maxRecDepth 100000 in
set_option maxHeartbeats 4000000 in
theorem w_X3_addWalker {Γ : zG} {ad : Nat → Nat} (hC : zX Γ layC nC ad cX3_addWalker RX3 1 (zRm 0 0) (some .int)) (σ : zS) : zK Γ layC nC ad 1 (some .int) 0 [some (.ref (ad 1))] [] σ (f_X3_addWalker σ) some := by
  unfold f_X3_addWalker
  refine z_aload_n hC dX3_addWalker_0 rfl ?_
  refine z_geti hC wf_X3_28 dX3_addWalker_1 ltC_1 layC_1 rfl ?_
  refine z_iconst hC dX3_addWalker_4 ki_4 ?_
  refine z_icmp_lt hC 11 dX3_addWalker_5 (by decide) (fun h1 => ?_) (fun h1 => ?_)
  · refine z_aload_n hC dX3_addWalker_11 rfl ?_
    refine z_dup hC dX3_addWalker_12 rfl ?_
    refine z_geti hC wf_X3_28 dX3_addWalker_13 ltC_1 layC_1 rfl ?_
    refine z_iconst hC dX3_addWalker_16 ki_1 ?_
    refine z_iadd hC dX3_addWalker_17 ?_
    refine z_puti hC wp_X3_28 dX3_addWalker_18 ltC_1 layC_1 rfl ?_
    refine z_let (fun σ2 _ => ?_)
    refine z_aload_n hC dX3_addWalker_21 rfl ?_
    refine z_geti hC wf_X3_28 dX3_addWalker_22 ltC_1 layC_1 rfl ?_
    refine z_iconst hC dX3_addWalker_25 ki_1 ?_
    refine z_isub hC dX3_addWalker_26 ?_
    exact z_iret hC dX3_addWalker_27
  · refine z_bipush hC dX3_addWalker_8 kb_m5 ?_
    exact z_iret hC dX3_addWalker_10
theorem c_X3_addWalker : zM layC nC yX3_addWalker cX3_addWalker 1 (some .int) (zRm 0 0) (fun ad => [.ref (ad 1)]) (f_X3_addWalker) := zM_of (own := RX3) (by decide) rfl (fun ad w hw => by simp only [List.mem_cons, List.not_mem_nil, or_false] at hw; (first | exact hw.elim | (rcases hw with rfl <;> rfl))) (fun ad => Nat.le_of_ble_eq_true rfl) (fun Γ ad hC σ => w_X3_addWalker hC σ)
set_option maxRecDepth 100000 in
set_option maxHeartbeats 4000000 in
theorem w_X3_beyondDoor {Γ : zG} {ad : Nat → Nat} (hC : zX Γ layC nC ad cX3_beyondDoor RX3 3 (zRm 0 0) (some .int)) (p1 : Int32) (p2 : Int32) (σ : zS) : zK Γ layC nC ad 3 (some .int) 0 [some (.ref (ad 1)), some (.int p1), some (.int p2)] [] σ (f_X3_beyondDoor p1 p2 σ) some := by
  unfold f_X3_beyondDoor
  refine z_aload_n hC dX3_beyondDoor_0 rfl ?_
  refine z_getr hC wf_X3_9 dX3_beyondDoor_1 ltC_1 layC_1 rfl ?_
  refine z_iload_n hC dX3_beyondDoor_4 rfl ?_
  refine z_iald hC dX3_beyondDoor_5 ltC_2 layC_2 (fun h1 => ?_)
  refine z_iload_n hC dX3_beyondDoor_6 rfl ?_
  refine z_icmp_ne hC 17 dX3_beyondDoor_7 (by decide) (fun h2 => ?_) (fun h2 => ?_)
  · refine z_aload_n hC dX3_beyondDoor_17 rfl ?_
    refine z_getr hC wf_X3_15 dX3_beyondDoor_18 ltC_1 layC_1 rfl ?_
    refine z_iload_n hC dX3_beyondDoor_21 rfl ?_
    refine z_iald hC dX3_beyondDoor_22 ltC_3 layC_3 (fun h3 => ?_)
    refine z_iload_n hC dX3_beyondDoor_23 rfl ?_
    refine z_icmp_ne hC 36 dX3_beyondDoor_24 (by decide) (fun h4 => ?_) (fun h4 => ?_)
    · refine z_iconst hC dX3_beyondDoor_36 ki_m1 ?_
      exact z_iret hC dX3_beyondDoor_37
    · refine z_aload_n hC dX3_beyondDoor_27 rfl ?_
      refine z_getr hC wf_X3_9 dX3_beyondDoor_28 ltC_1 layC_1 rfl ?_
      refine z_iload_n hC dX3_beyondDoor_31 rfl ?_
      refine z_iald hC dX3_beyondDoor_32 ltC_2 layC_2 (fun h5 => ?_)
      refine z_goto hC 37 dX3_beyondDoor_33 (by decide) ?_
      exact z_iret hC dX3_beyondDoor_37
  · refine z_aload_n hC dX3_beyondDoor_10 rfl ?_
    refine z_getr hC wf_X3_15 dX3_beyondDoor_11 ltC_1 layC_1 rfl ?_
    refine z_iload_n hC dX3_beyondDoor_14 rfl ?_
    refine z_iald hC dX3_beyondDoor_15 ltC_3 layC_3 (fun h6 => ?_)
    exact z_iret hC dX3_beyondDoor_16
theorem c_X3_beyondDoor (p1 : Int32) (p2 : Int32) : zM layC nC yX3_beyondDoor cX3_beyondDoor 3 (some .int) (zRm 0 0) (fun ad => [.ref (ad 1), .int p1, .int p2]) (f_X3_beyondDoor p1 p2) := zM_of (own := RX3) (by decide) rfl (fun ad w hw => by simp only [List.mem_cons, List.not_mem_nil, or_false] at hw; (first | exact hw.elim | (rcases hw with rfl | rfl | rfl <;> rfl))) (fun ad => Nat.le_of_ble_eq_true rfl) (fun Γ ad hC σ => w_X3_beyondDoor hC p1 p2 σ)
set_option maxRecDepth 100000 in
set_option maxHeartbeats 4000000 in
theorem w_X3_isNearer {Γ : zG} {ad : Nat → Nat} (hC : zX Γ layC nC ad cX3_isNearer RX3 3 (zRm 0 0) (some .boolean)) (p1 : Int32) (p2 : Int32) (σ : zS) : zK Γ layC nC ad 3 (some .boolean) 0 [some (.ref (ad 1)), some (.int p1), some (.int p2)] [] σ (f_X3_isNearer p1 p2 σ) some := by
  unfold f_X3_isNearer
  refine z_aload_n hC dX3_isNearer_0 rfl ?_
  refine z_getr hC wf_X3_18 dX3_isNearer_1 ltC_1 layC_1 rfl ?_
  refine z_iload_n hC dX3_isNearer_4 rfl ?_
  refine z_iald hC dX3_isNearer_5 ltC_4 layC_4 (fun h1 => ?_)
  refine z_iconst hC dX3_isNearer_6 ki_m1 ?_
  refine z_icmp_eq hC 29 dX3_isNearer_7 (by decide) (fun h2 => ?_) (fun h2 => ?_)
  · refine z_iconst hC dX3_isNearer_29 ki_0 ?_
    exact z_zret hC (by decide) dX3_isNearer_30
  · refine z_aload_n hC dX3_isNearer_10 rfl ?_
    refine z_getr hC wf_X3_18 dX3_isNearer_11 ltC_1 layC_1 rfl ?_
    refine z_iload_n hC dX3_isNearer_14 rfl ?_
    refine z_iald hC dX3_isNearer_15 ltC_4 layC_4 (fun h3 => ?_)
    refine z_aload_n hC dX3_isNearer_16 rfl ?_
    refine z_getr hC wf_X3_18 dX3_isNearer_17 ltC_1 layC_1 rfl ?_
    refine z_iload_n hC dX3_isNearer_20 rfl ?_
    refine z_iald hC dX3_isNearer_21 ltC_4 layC_4 (fun h4 => ?_)
    refine z_icmp_ge hC 29 dX3_isNearer_22 (by decide) (fun h5 => ?_) (fun h5 => ?_)
    · refine z_iconst hC dX3_isNearer_29 ki_0 ?_
      exact z_zret hC (by decide) dX3_isNearer_30
    · refine z_iconst hC dX3_isNearer_25 ki_1 ?_
      refine z_goto hC 30 dX3_isNearer_26 (by decide) ?_
      exact z_zret hC (by decide) dX3_isNearer_30
theorem c_X3_isNearer (p1 : Int32) (p2 : Int32) : zM layC nC yX3_isNearer cX3_isNearer 3 (some .boolean) (zRm 0 0) (fun ad => [.ref (ad 1), .int p1, .int p2]) (f_X3_isNearer p1 p2) := zM_of (own := RX3) (by decide) rfl (fun ad w hw => by simp only [List.mem_cons, List.not_mem_nil, or_false] at hw; (first | exact hw.elim | (rcases hw with rfl | rfl | rfl <;> rfl))) (fun ad => Nat.le_of_ble_eq_true rfl) (fun Γ ad hC σ => w_X3_isNearer hC p1 p2 σ)
set_option maxRecDepth 100000 in
set_option maxHeartbeats 4000000 in
theorem w_X3_spread {Γ : zG} {ad : Nat → Nat} (hC : zX Γ layC nC ad cX3_spread RX3 4 (zRm 0 0) none) (p1 : Int32) (p2 : Int32) (p3 : Int32) (σ : zS) : zK Γ layC nC ad 4 none 0 [some (.ref (ad 1)), some (.int p1), some (.int p2), some (.int p3)] [] σ (f_X3_spread p1 p2 p3 σ) some := by
  unfold f_X3_spread
  refine z_aload_n hC dX3_spread_0 rfl ?_
  refine z_getr hC wf_X3_18 dX3_spread_1 ltC_1 layC_1 rfl ?_
  refine z_iload_n hC dX3_spread_4 rfl ?_
  refine z_iald hC dX3_spread_5 ltC_4 layC_4 (fun h1 => ?_)
  refine z_iload_n hC dX3_spread_6 rfl ?_
  refine z_icmp_ne hC 29 dX3_spread_7 (by decide) (fun h2 => ?_) (fun h2 => ?_)
  · exact z_vret hC dX3_spread_29
  · refine z_aload_n hC dX3_spread_10 rfl ?_
    refine z_getr hC wf_X3_18 dX3_spread_11 ltC_1 layC_1 rfl ?_
    refine z_iload_n hC dX3_spread_14 rfl ?_
    refine z_iald hC dX3_spread_15 ltC_4 layC_4 (fun h3 => ?_)
    refine z_iconst hC dX3_spread_16 ki_m1 ?_
    refine z_icmp_ne hC 29 dX3_spread_17 (by decide) (fun h4 => ?_) (fun h4 => ?_)
    · exact z_vret hC dX3_spread_29
    · refine z_aload_n hC dX3_spread_20 rfl ?_
      refine z_getr hC wf_X3_18 dX3_spread_21 ltC_1 layC_1 rfl ?_
      refine z_iload_n hC dX3_spread_24 rfl ?_
      refine z_iload_n hC dX3_spread_25 rfl ?_
      refine z_iconst hC dX3_spread_26 ki_1 ?_
      refine z_iadd hC dX3_spread_27 ?_
      refine z_iast hC dX3_spread_28 ltC_4 layC_4 (fun h5 => ?_)
      refine z_let (fun σ6 _ => ?_)
      exact z_vret hC dX3_spread_29
theorem c_X3_spread (p1 : Int32) (p2 : Int32) (p3 : Int32) : zM layC nC yX3_spread cX3_spread 4 none (zRm 0 0) (fun ad => [.ref (ad 1), .int p1, .int p2, .int p3]) (f_X3_spread p1 p2 p3) := zM_of (own := RX3) (by decide) rfl (fun ad w hw => by simp only [List.mem_cons, List.not_mem_nil, or_false] at hw; (first | exact hw.elim | (rcases hw with rfl | rfl | rfl | rfl <;> rfl))) (fun ad => Nat.le_of_ble_eq_true rfl) (fun Γ ad hC σ => w_X3_spread hC p1 p2 p3 σ)
set_option maxRecDepth 100000 in
set_option maxHeartbeats 4000000 in
theorem t_X3_measureTo_L2 {Γ : zG} {ad : Nat → Nat} (hC : zX Γ layC nC ad cX3_measureTo RX3 5 (zRm 1 23) none) (c1 : Int32) (a0 : Int32 × zS) (K : Bool × (Int32 × zS) → Option (Int32 × zS)) (hc : ∀ (x0 : Int32) (s' : zS), zZ Γ layC nC ad 5 none 2 [some (.ref (ad 1)), some (.int c1), some (.ref (ad 28)), some (.int x0), none] [] s' (K (true, (x0, s')))) (hx : ∀ (x0 : Int32) (s' : zS), zZ Γ layC nC ad 5 none 23 [some (.ref (ad 1)), some (.int c1), some (.ref (ad 28)), some (.int x0), none] [] s' (K (false, (x0, s')))) : zK Γ layC nC ad 5 none 2 [some (.ref (ad 1)), some (.int c1), some (.ref (ad 28)), some (.int a0.1), none] [] (a0.2) (b_X3_measureTo_L2 c1 a0) K := by
  unfold b_X3_measureTo_L2
  refine z_iload_n hC dX3_measureTo_2 rfl ?_
  refine z_aload_n hC dX3_measureTo_3 rfl ?_
  refine z_geti hC wf_X3_21 dX3_measureTo_4 ltC_1 layC_1 rfl ?_
  refine z_icmp_ge hC 23 dX3_measureTo_7 (by decide) (fun h1 => ?_) (fun h1 => ?_)
  · exact z_leaf (hx a0.1 a0.2)
  · refine z_aload_n hC dX3_measureTo_10 rfl ?_
    refine z_getr hC wf_X3_18 dX3_measureTo_11 ltC_1 layC_1 rfl ?_
    refine z_iload_n hC dX3_measureTo_14 rfl ?_
    refine z_iconst hC dX3_measureTo_15 ki_m1 ?_
    refine z_iast hC dX3_measureTo_16 ltC_4 layC_4 (fun h2 => ?_)
    refine z_let (fun σ3 _ => ?_)
    refine z_iinc hC dX3_measureTo_17 (lv' := [some (.ref (ad 1)), some (.int c1), some (.ref (ad 28)), some (.int (a0.1 + 1)), none]) rfl (by decide) ki_1 rfl ?_
    refine z_goto hC 2 dX3_measureTo_20 (by decide) ?_
    exact z_leaf (hc (a0.1 + 1) σ3)
set_option maxRecDepth 100000 in
set_option maxHeartbeats 4000000 in
theorem t_X3_measureTo_L43 {Γ : zG} {ad : Nat → Nat} (hC : zX Γ layC nC ad cX3_measureTo RX3 5 (zRm 1 23) none) (c1 : Int32) (c3 : Int32) (a0 : Int32 × zS) (K : Bool × (Int32 × zS) → Option (Int32 × zS)) (hc : ∀ (x0 : Int32) (s' : zS), zZ Γ layC nC ad 5 none 43 [some (.ref (ad 1)), some (.int c1), some (.ref (ad 28)), some (.int c3), some (.int x0)] [] s' (K (true, (x0, s')))) (hx : ∀ (x0 : Int32) (s' : zS), zZ Γ layC nC ad 5 none 103 [some (.ref (ad 1)), some (.int c1), some (.ref (ad 28)), some (.int c3), some (.int x0)] [] s' (K (false, (x0, s')))) : zK Γ layC nC ad 5 none 43 [some (.ref (ad 1)), some (.int c1), some (.ref (ad 28)), some (.int c3), some (.int a0.1)] [] (a0.2) (b_X3_measureTo_L43 c1 c3 a0) K := by
  unfold b_X3_measureTo_L43
  refine z_iload hC dX3_measureTo_43 rfl ?_
  refine z_aload_n hC dX3_measureTo_45 rfl ?_
  refine z_geti hC wf_X3_25 dX3_measureTo_46 ltC_1 layC_1 rfl ?_
  refine z_icmp_ge hC 103 dX3_measureTo_49 (by decide) (fun h8 => ?_) (fun h8 => ?_)
  · exact z_leaf (hx a0.1 a0.2)
  · refine z_aload_n hC dX3_measureTo_52 rfl ?_
    refine z_iload hC dX3_measureTo_53 rfl ?_
    refine z_zald hC dX3_measureTo_55 ltC_28 layC_28 (fun h9 => ?_)
    refine z_if_ne hC 97 dX3_measureTo_56 (by decide) (fun h10 => ?_) (fun h10 => ?_)
    · refine z_iinc hC dX3_measureTo_97 (lv' := [some (.ref (ad 1)), some (.int c1), some (.ref (ad 28)), some (.int c3), some (.int (a0.1 + 1))]) rfl (by decide) ki_1 rfl ?_
      refine z_goto hC 43 dX3_measureTo_100 (by decide) ?_
      exact z_leaf (hc (a0.1 + 1) a0.2)
    · refine z_aload_n hC dX3_measureTo_59 rfl ?_
      refine z_aload_n hC dX3_measureTo_60 rfl ?_
      refine z_getr hC wf_X3_9 dX3_measureTo_61 ltC_1 layC_1 rfl ?_
      refine z_iload hC dX3_measureTo_64 rfl ?_
      refine z_iald hC dX3_measureTo_66 ltC_2 layC_2 (fun h11 => ?_)
      refine z_aload_n hC dX3_measureTo_67 rfl ?_
      refine z_getr hC wf_X3_15 dX3_measureTo_68 ltC_1 layC_1 rfl ?_
      refine z_iload hC dX3_measureTo_71 rfl ?_
      refine z_iald hC dX3_measureTo_73 ltC_3 layC_3 (fun h12 => ?_)
      refine z_iload_n hC dX3_measureTo_74 rfl ?_
      refine z_callVv hC [.int (a0.2 2 a0.1.toNatClampNeg), .int (a0.2 3 a0.1.toNatClampNeg), .int c3] (c_X3_spread (a0.2 2 a0.1.toNatClampNeg) (a0.2 3 a0.1.toNatClampNeg) c3) yy_X3_spread wl_X3_43 dX3_measureTo_75 ltC_1 layC_1 vcz_X3 rfl rfl rfl (Nat.le_of_ble_eq_true rfl) (by decide) (fun r13 σ14 _ => ?_)
      refine z_aload_n hC dX3_measureTo_78 rfl ?_
      refine z_aload_n hC dX3_measureTo_79 rfl ?_
      refine z_getr hC wf_X3_15 dX3_measureTo_80 ltC_1 layC_1 rfl ?_
      refine z_iload hC dX3_measureTo_83 rfl ?_
      refine z_iald hC dX3_measureTo_85 ltC_3 layC_3 (fun h15 => ?_)
      refine z_aload_n hC dX3_measureTo_86 rfl ?_
      refine z_getr hC wf_X3_9 dX3_measureTo_87 ltC_1 layC_1 rfl ?_
      refine z_iload hC dX3_measureTo_90 rfl ?_
      refine z_iald hC dX3_measureTo_92 ltC_2 layC_2 (fun h16 => ?_)
      refine z_iload_n hC dX3_measureTo_93 rfl ?_
      refine z_callVv hC [.int (σ14 3 a0.1.toNatClampNeg), .int (σ14 2 a0.1.toNatClampNeg), .int c3] (c_X3_spread (σ14 3 a0.1.toNatClampNeg) (σ14 2 a0.1.toNatClampNeg) c3) yy_X3_spread wl_X3_43 dX3_measureTo_94 ltC_1 layC_1 vcz_X3 rfl rfl rfl (Nat.le_of_ble_eq_true rfl) (by decide) (fun r17 σ18 _ => ?_)
      refine z_iinc hC dX3_measureTo_97 (lv' := [some (.ref (ad 1)), some (.int c1), some (.ref (ad 28)), some (.int c3), some (.int (a0.1 + 1))]) rfl (by decide) ki_1 rfl ?_
      refine z_goto hC 43 dX3_measureTo_100 (by decide) ?_
      exact z_leaf (hc (a0.1 + 1) σ18)
set_option maxRecDepth 100000 in
set_option maxHeartbeats 4000000 in
theorem t_X3_measureTo_L32 {Γ : zG} {ad : Nat → Nat} (hC : zX Γ layC nC ad cX3_measureTo RX3 5 (zRm 1 23) none) (c1 : Int32) (a0 : Int32 × zS) (K : Bool × (Int32 × zS) → Option (Int32 × zS)) (hc : ∀ (x0 : Int32) (s' : zS), zZ Γ layC nC ad 5 none 32 [some (.ref (ad 1)), some (.int c1), some (.ref (ad 28)), some (.int x0), none] [] s' (K (true, (x0, s')))) (hx : ∀ (x0 : Int32) (s' : zS), zZ Γ layC nC ad 5 none 109 [some (.ref (ad 1)), some (.int c1), some (.ref (ad 28)), some (.int x0), none] [] s' (K (false, (x0, s')))) : zK Γ layC nC ad 5 none 32 [some (.ref (ad 1)), some (.int c1), some (.ref (ad 28)), some (.int a0.1), none] [] (a0.2) (b_X3_measureTo_L32 c1 a0) K := by
  unfold b_X3_measureTo_L32
  refine z_iload_n hC dX3_measureTo_32 rfl ?_
  refine z_aload_n hC dX3_measureTo_33 rfl ?_
  refine z_geti hC wf_X3_21 dX3_measureTo_34 ltC_1 layC_1 rfl ?_
  refine z_icmp_ge hC 109 dX3_measureTo_37 (by decide) (fun h7 => ?_) (fun h7 => ?_)
  · exact z_leaf (hx a0.1 a0.2)
  · refine z_iconst hC dX3_measureTo_40 ki_0 ?_
    refine z_istore hC dX3_measureTo_41 (lv' := [some (.ref (ad 1)), some (.int c1), some (.ref (ad 28)), some (.int a0.1), some (.int 0)]) (by decide) rfl ?_
    refine z_lpb (lvf := fun z : Int32 × zS => [some (.ref (ad 1)), some (.int c1), some (.ref (ad 28)), some (.int a0.1), some (.int z.1)]) (sg := fun z => z.2) (x := 103) zfuel (0, a0.2) rfl rfl (fun z K hc hx => t_X3_measureTo_L43 hC c1 a0.1 z K (fun x0 s' => hc (x0, s')) (fun x0 s' => hx (x0, s'))) (fun a19 => ?_)
    refine z_iinc hC dX3_measureTo_103 (lv' := [some (.ref (ad 1)), some (.int c1), some (.ref (ad 28)), some (.int (a0.1 + 1)), some (.int a19.1)]) rfl (by decide) ki_1 rfl ?_
    refine z_goto hC 32 dX3_measureTo_106 (by decide) ?_
    refine z_forget [4] (lv' := [some (.ref (ad 1)), some (.int c1), some (.ref (ad 28)), some (.int (a0.1 + 1)), none]) rfl ?_
    exact z_leaf (hc (a0.1 + 1) a19.2)
set_option maxRecDepth 100000 in
set_option maxHeartbeats 4000000 in
theorem w_X3_measureTo {Γ : zG} {ad : Nat → Nat} (hC : zX Γ layC nC ad cX3_measureTo RX3 5 (zRm 1 23) none) (p1 : Int32) (σ : zS) : zK Γ layC nC ad 5 none 0 [some (.ref (ad 1)), some (.int p1), some (.ref (ad 28)), none, none] [] σ (f_X3_measureTo p1 σ) some := by
  unfold f_X3_measureTo
  refine z_iconst hC dX3_measureTo_0 ki_0 ?_
  refine z_istore_n hC dX3_measureTo_1 (lv' := [some (.ref (ad 1)), some (.int p1), some (.ref (ad 28)), some (.int 0), none]) (by decide) rfl ?_
  refine z_lpb (lvf := fun z : Int32 × zS => [some (.ref (ad 1)), some (.int p1), some (.ref (ad 28)), some (.int z.1), none]) (sg := fun z => z.2) (x := 23) zfuel (0, σ) rfl rfl (fun z K hc hx => t_X3_measureTo_L2 hC p1 z K (fun x0 s' => hc (x0, s')) (fun x0 s' => hx (x0, s'))) (fun a4 => ?_)
  refine z_aload_n hC dX3_measureTo_23 rfl ?_
  refine z_getr hC wf_X3_18 dX3_measureTo_24 ltC_1 layC_1 rfl ?_
  refine z_iload_n hC dX3_measureTo_27 rfl ?_
  refine z_iconst hC dX3_measureTo_28 ki_0 ?_
  refine z_iast hC dX3_measureTo_29 ltC_4 layC_4 (fun h5 => ?_)
  refine z_let (fun σ6 _ => ?_)
  refine z_iconst hC dX3_measureTo_30 ki_0 ?_
  refine z_istore_n hC dX3_measureTo_31 (lv' := [some (.ref (ad 1)), some (.int p1), some (.ref (ad 28)), some (.int 0), none]) (by decide) rfl ?_
  refine z_lpb (lvf := fun z : Int32 × zS => [some (.ref (ad 1)), some (.int p1), some (.ref (ad 28)), some (.int z.1), none]) (sg := fun z => z.2) (x := 109) zfuel (0, σ6) rfl rfl (fun z K hc hx => t_X3_measureTo_L32 hC p1 z K (fun x0 s' => hc (x0, s')) (fun x0 s' => hx (x0, s'))) (fun a20 => ?_)
  exact z_vret hC dX3_measureTo_109
theorem c_X3_measureTo (p1 : Int32) : zM layC nC yX3_measureTo cX3_measureTo 5 none (zRm 1 23) (fun ad => [.ref (ad 1), .int p1, .ref (ad 28)]) (f_X3_measureTo p1) := zM_of (own := RX3) (by decide) rfl (fun ad w hw => by simp only [List.mem_cons, List.not_mem_nil, or_false] at hw; (first | exact hw.elim | (rcases hw with rfl | rfl | rfl <;> rfl))) (fun ad => Nat.le_of_ble_eq_true rfl) (fun Γ ad hC σ => w_X3_measureTo hC p1 σ)
set_option maxRecDepth 100000 in
set_option maxHeartbeats 4000000 in
theorem t_X3_nextRoom_L12 {Γ : zG} {ad : Nat → Nat} (hC : zX Γ layC nC ad cX3_nextRoom RX3 7 (zRm 2 47) (some .int)) (c1 : Int32) (c2 : Int32) (a0 : Int32 × Int32 × zS) (K : Bool × (Int32 × Int32 × zS) → Option (Int32 × zS)) (hc : ∀ (x0 : Int32) (x1 : Int32) (s' : zS), zZ Γ layC nC ad 7 (some .int) 12 [some (.ref (ad 1)), some (.int c1), some (.int c2), some (.ref (ad 28)), some (.int x0), some (.int x1), none] [] s' (K (true, (x0, x1, s')))) (hx : ∀ (x0 : Int32) (x1 : Int32) (s' : zS), zZ Γ layC nC ad 7 (some .int) 76 [some (.ref (ad 1)), some (.int c1), some (.int c2), some (.ref (ad 28)), some (.int x0), some (.int x1), none] [] s' (K (false, (x0, x1, s')))) : zK Γ layC nC ad 7 (some .int) 12 [some (.ref (ad 1)), some (.int c1), some (.int c2), some (.ref (ad 28)), some (.int a0.1), some (.int a0.2.1), none] [] (a0.2.2) (b_X3_nextRoom_L12 c1 c2 a0) K := by
  unfold b_X3_nextRoom_L12
  refine z_iload hC dX3_nextRoom_12 rfl ?_
  refine z_aload_n hC dX3_nextRoom_14 rfl ?_
  refine z_geti hC wf_X3_25 dX3_nextRoom_15 ltC_1 layC_1 rfl ?_
  refine z_icmp_ge hC 76 dX3_nextRoom_18 (by decide) (fun h3 => ?_) (fun h3 => ?_)
  · exact z_leaf (hx a0.1 a0.2.1 a0.2.2)
  · refine z_aload_n hC dX3_nextRoom_21 rfl ?_
    refine z_iload hC dX3_nextRoom_22 rfl ?_
    refine z_iload_n hC dX3_nextRoom_24 rfl ?_
    refine z_callVi hC [.int a0.2.1, .int c1] (c_X3_beyondDoor a0.2.1 c1) yy_X3_beyondDoor wl_X3_35 dX3_nextRoom_25 ltC_1 layC_1 vcz_X3 rfl rfl rfl (Nat.le_of_ble_eq_true rfl) (by decide) (fun r4 σ5 _ => ?_)
    refine z_istore hC dX3_nextRoom_28 (lv' := [some (.ref (ad 1)), some (.int c1), some (.int c2), some (.ref (ad 28)), some (.int a0.1), some (.int a0.2.1), some (.int r4)]) (by decide) rfl ?_
    refine z_aload_n hC dX3_nextRoom_30 rfl ?_
    refine z_iload hC dX3_nextRoom_31 rfl ?_
    refine z_zald hC dX3_nextRoom_33 ltC_28 layC_28 (fun h6 => ?_)
    refine z_if_ne hC 70 dX3_nextRoom_34 (by decide) (fun h7 => ?_) (fun h7 => ?_)
    · refine z_iinc hC dX3_nextRoom_70 (lv' := [some (.ref (ad 1)), some (.int c1), some (.int c2), some (.ref (ad 28)), some (.int a0.1), some (.int (a0.2.1 + 1)), some (.int r4)]) rfl (by decide) ki_1 rfl ?_
      refine z_goto hC 12 dX3_nextRoom_73 (by decide) ?_
      refine z_forget [6] (lv' := [some (.ref (ad 1)), some (.int c1), some (.int c2), some (.ref (ad 28)), some (.int a0.1), some (.int (a0.2.1 + 1)), none]) rfl ?_
      exact z_leaf (hc a0.1 (a0.2.1 + 1) σ5)
    · refine z_iload hC dX3_nextRoom_37 rfl ?_
      refine z_iconst hC dX3_nextRoom_39 ki_m1 ?_
      refine z_icmp_eq hC 70 dX3_nextRoom_40 (by decide) (fun h8 => ?_) (fun h8 => ?_)
      · refine z_iinc hC dX3_nextRoom_70 (lv' := [some (.ref (ad 1)), some (.int c1), some (.int c2), some (.ref (ad 28)), some (.int a0.1), some (.int (a0.2.1 + 1)), some (.int r4)]) rfl (by decide) ki_1 rfl ?_
        refine z_goto hC 12 dX3_nextRoom_73 (by decide) ?_
        refine z_forget [6] (lv' := [some (.ref (ad 1)), some (.int c1), some (.int c2), some (.ref (ad 28)), some (.int a0.1), some (.int (a0.2.1 + 1)), none]) rfl ?_
        exact z_leaf (hc a0.1 (a0.2.1 + 1) σ5)
      · refine z_aload_n hC dX3_nextRoom_43 rfl ?_
        refine z_iload hC dX3_nextRoom_44 rfl ?_
        refine z_iload_n hC dX3_nextRoom_46 rfl ?_
        refine z_callVi hC [.int r4, .int c1] (c_X3_isNearer r4 c1) yy_X3_isNearer wl_X3_39 dX3_nextRoom_47 ltC_1 layC_1 vcz_X3 rfl rfl rfl (Nat.le_of_ble_eq_true rfl) (by decide) (fun r9 σ10 _ => ?_)
        refine z_if_eq hC 70 dX3_nextRoom_50 (by decide) (fun h11 => ?_) (fun h11 => ?_)
        · refine z_iinc hC dX3_nextRoom_70 (lv' := [some (.ref (ad 1)), some (.int c1), some (.int c2), some (.ref (ad 28)), some (.int a0.1), some (.int (a0.2.1 + 1)), some (.int r4)]) rfl (by decide) ki_1 rfl ?_
          refine z_goto hC 12 dX3_nextRoom_73 (by decide) ?_
          refine z_forget [6] (lv' := [some (.ref (ad 1)), some (.int c1), some (.int c2), some (.ref (ad 28)), some (.int a0.1), some (.int (a0.2.1 + 1)), none]) rfl ?_
          exact z_leaf (hc a0.1 (a0.2.1 + 1) σ10)
        · refine z_iload hC dX3_nextRoom_53 rfl ?_
          refine z_iconst hC dX3_nextRoom_55 ki_m1 ?_
          refine z_icmp_eq hC 66 dX3_nextRoom_56 (by decide) (fun h12 => ?_) (fun h12 => ?_)
          · refine z_iload hC dX3_nextRoom_66 rfl ?_
            refine z_istore hC dX3_nextRoom_68 (lv' := [some (.ref (ad 1)), some (.int c1), some (.int c2), some (.ref (ad 28)), some (.int r4), some (.int a0.2.1), some (.int r4)]) (by decide) rfl ?_
            refine z_iinc hC dX3_nextRoom_70 (lv' := [some (.ref (ad 1)), some (.int c1), some (.int c2), some (.ref (ad 28)), some (.int r4), some (.int (a0.2.1 + 1)), some (.int r4)]) rfl (by decide) ki_1 rfl ?_
            refine z_goto hC 12 dX3_nextRoom_73 (by decide) ?_
            refine z_forget [6] (lv' := [some (.ref (ad 1)), some (.int c1), some (.int c2), some (.ref (ad 28)), some (.int r4), some (.int (a0.2.1 + 1)), none]) rfl ?_
            exact z_leaf (hc r4 (a0.2.1 + 1) σ10)
          · refine z_iload hC dX3_nextRoom_59 rfl ?_
            refine z_iload hC dX3_nextRoom_61 rfl ?_
            refine z_icmp_ge hC 70 dX3_nextRoom_63 (by decide) (fun h13 => ?_) (fun h13 => ?_)
            · refine z_iinc hC dX3_nextRoom_70 (lv' := [some (.ref (ad 1)), some (.int c1), some (.int c2), some (.ref (ad 28)), some (.int a0.1), some (.int (a0.2.1 + 1)), some (.int r4)]) rfl (by decide) ki_1 rfl ?_
              refine z_goto hC 12 dX3_nextRoom_73 (by decide) ?_
              refine z_forget [6] (lv' := [some (.ref (ad 1)), some (.int c1), some (.int c2), some (.ref (ad 28)), some (.int a0.1), some (.int (a0.2.1 + 1)), none]) rfl ?_
              exact z_leaf (hc a0.1 (a0.2.1 + 1) σ10)
            · refine z_iload hC dX3_nextRoom_66 rfl ?_
              refine z_istore hC dX3_nextRoom_68 (lv' := [some (.ref (ad 1)), some (.int c1), some (.int c2), some (.ref (ad 28)), some (.int r4), some (.int a0.2.1), some (.int r4)]) (by decide) rfl ?_
              refine z_iinc hC dX3_nextRoom_70 (lv' := [some (.ref (ad 1)), some (.int c1), some (.int c2), some (.ref (ad 28)), some (.int r4), some (.int (a0.2.1 + 1)), some (.int r4)]) rfl (by decide) ki_1 rfl ?_
              refine z_goto hC 12 dX3_nextRoom_73 (by decide) ?_
              refine z_forget [6] (lv' := [some (.ref (ad 1)), some (.int c1), some (.int c2), some (.ref (ad 28)), some (.int r4), some (.int (a0.2.1 + 1)), none]) rfl ?_
              exact z_leaf (hc r4 (a0.2.1 + 1) σ10)
set_option maxRecDepth 100000 in
set_option maxHeartbeats 4000000 in
theorem w_X3_nextRoom {Γ : zG} {ad : Nat → Nat} (hC : zX Γ layC nC ad cX3_nextRoom RX3 7 (zRm 2 47) (some .int)) (p1 : Int32) (p2 : Int32) (σ : zS) : zK Γ layC nC ad 7 (some .int) 0 [some (.ref (ad 1)), some (.int p1), some (.int p2), some (.ref (ad 28)), none, none, none] [] σ (f_X3_nextRoom p1 p2 σ) some := by
  unfold f_X3_nextRoom
  refine z_aload_n hC dX3_nextRoom_0 rfl ?_
  refine z_iload_n hC dX3_nextRoom_1 rfl ?_
  refine z_aload_n hC dX3_nextRoom_2 rfl ?_
  refine z_callVv hC [.int p2, .ref (ad 28)] (c_X3_measureTo p2) yy_X3_measureTo wl_X3_31 dX3_nextRoom_3 ltC_1 layC_1 vcz_X3 rfl rfl rfl (Nat.le_of_ble_eq_true rfl) (by decide) (fun r1 σ2 _ => ?_)
  refine z_iconst hC dX3_nextRoom_6 ki_m1 ?_
  refine z_istore hC dX3_nextRoom_7 (lv' := [some (.ref (ad 1)), some (.int p1), some (.int p2), some (.ref (ad 28)), some (.int (-1)), none, none]) (by decide) rfl ?_
  refine z_iconst hC dX3_nextRoom_9 ki_0 ?_
  refine z_istore hC dX3_nextRoom_10 (lv' := [some (.ref (ad 1)), some (.int p1), some (.int p2), some (.ref (ad 28)), some (.int (-1)), some (.int 0), none]) (by decide) rfl ?_
  refine z_lpb (lvf := fun z : Int32 × Int32 × zS => [some (.ref (ad 1)), some (.int p1), some (.int p2), some (.ref (ad 28)), some (.int z.1), some (.int z.2.1), none]) (sg := fun z => z.2.2) (x := 76) zfuel ((-1), 0, σ2) rfl rfl (fun z K hc hx => t_X3_nextRoom_L12 hC p1 p2 z K (fun x0 x1 s' => hc (x0, x1, s')) (fun x0 x1 s' => hx (x0, x1, s'))) (fun a14 => ?_)
  refine z_iload hC dX3_nextRoom_76 rfl ?_
  exact z_iret hC dX3_nextRoom_78
theorem c_X3_nextRoom (p1 : Int32) (p2 : Int32) : zM layC nC yX3_nextRoom cX3_nextRoom 7 (some .int) (zRm 2 47) (fun ad => [.ref (ad 1), .int p1, .int p2, .ref (ad 28)]) (f_X3_nextRoom p1 p2) := zM_of (own := RX3) (by decide) rfl (fun ad w hw => by simp only [List.mem_cons, List.not_mem_nil, or_false] at hw; (first | exact hw.elim | (rcases hw with rfl | rfl | rfl | rfl <;> rfl))) (fun ad => Nat.le_of_ble_eq_true rfl) (fun Γ ad hC σ => w_X3_nextRoom hC p1 p2 σ)
set_option maxRecDepth 100000 in
set_option maxHeartbeats 4000000 in
theorem w_X4_addRow {Γ : zG} {ad : Nat → Nat} (hC : zX Γ layC nC ad cX4_addRow RX4 3 (zRm 0 0) none) (p1 : Int32) (p2 : Int32) (σ : zS) : zK Γ layC nC ad 3 none 0 [some (.ref (ad 24)), some (.int p1), some (.int p2)] [] σ (f_X4_addRow p1 p2 σ) some := by
  unfold f_X4_addRow
  refine z_aload_n hC dX4_addRow_0 rfl ?_
  refine z_geti hC wf_X4_63 dX4_addRow_1 ltC_24 layC_24 rfl ?_
  refine z_bipush hC dX4_addRow_4 kb_40 ?_
  refine z_icmp_ge hC 39 dX4_addRow_6 (by decide) (fun h1 => ?_) (fun h1 => ?_)
  · exact z_vret hC dX4_addRow_39
  · refine z_aload_n hC dX4_addRow_9 rfl ?_
    refine z_getr hC wf_X4_15 dX4_addRow_10 ltC_24 layC_24 rfl ?_
    refine z_aload_n hC dX4_addRow_13 rfl ?_
    refine z_geti hC wf_X4_63 dX4_addRow_14 ltC_24 layC_24 rfl ?_
    refine z_iload_n hC dX4_addRow_17 rfl ?_
    refine z_iast hC dX4_addRow_18 ltC_25 layC_25 (fun h2 => ?_)
    refine z_let (fun σ3 _ => ?_)
    refine z_aload_n hC dX4_addRow_19 rfl ?_
    refine z_getr hC wf_X4_19 dX4_addRow_20 ltC_24 layC_24 rfl ?_
    refine z_aload_n hC dX4_addRow_23 rfl ?_
    refine z_geti hC wf_X4_63 dX4_addRow_24 ltC_24 layC_24 rfl ?_
    refine z_iload_n hC dX4_addRow_27 rfl ?_
    refine z_iast hC dX4_addRow_28 ltC_26 layC_26 (fun h4 => ?_)
    refine z_let (fun σ5 _ => ?_)
    refine z_aload_n hC dX4_addRow_29 rfl ?_
    refine z_dup hC dX4_addRow_30 rfl ?_
    refine z_geti hC wf_X4_63 dX4_addRow_31 ltC_24 layC_24 rfl ?_
    refine z_iconst hC dX4_addRow_34 ki_1 ?_
    refine z_iadd hC dX4_addRow_35 ?_
    refine z_puti hC wp_X4_63 dX4_addRow_36 ltC_24 layC_24 rfl ?_
    refine z_let (fun σ6 _ => ?_)
    exact z_vret hC dX4_addRow_39
theorem c_X4_addRow (p1 : Int32) (p2 : Int32) : zM layC nC yX4_addRow cX4_addRow 3 none (zRm 0 0) (fun ad => [.ref (ad 24), .int p1, .int p2]) (f_X4_addRow p1 p2) := zM_of (own := RX4) (by decide) rfl (fun ad w hw => by simp only [List.mem_cons, List.not_mem_nil, or_false] at hw; (first | exact hw.elim | (rcases hw with rfl | rfl | rfl <;> rfl))) (fun ad => Nat.le_of_ble_eq_true rfl) (fun Γ ad hC σ => w_X4_addRow hC p1 p2 σ)
set_option maxRecDepth 100000 in
set_option maxHeartbeats 4000000 in
theorem t_X4_copyFlags_L2 {Γ : zG} {ad : Nat → Nat} (k1 : Nat) (k2 : Nat) (kl : Nat) (hC : zX Γ layC nC ad cX4_copyFlags RX4 3 (zRm 0 0) none) (hbq1 : k1 < nC) (hq1 : layC k1 = .inl (1, kl)) (hbq2 : k2 < nC) (hq2 : layC k2 = .inl (1, kl)) (a0 : Int32 × zS) (K : Bool × (Int32 × zS) → Option (Int32 × zS)) (hc : ∀ (x0 : Int32) (s' : zS), zZ Γ layC nC ad 3 none 2 [some (.ref (ad k1)), some (.ref (ad k2)), some (.int x0)] [] s' (K (true, (x0, s')))) (hx : ∀ (x0 : Int32) (s' : zS), zZ Γ layC nC ad 3 none 26 [some (.ref (ad k1)), some (.ref (ad k2)), some (.int x0)] [] s' (K (false, (x0, s')))) : zK Γ layC nC ad 3 none 2 [some (.ref (ad k1)), some (.ref (ad k2)), some (.int a0.1)] [] (a0.2) (b_X4_copyFlags_L2 k1 k2 kl a0) K := by
  unfold b_X4_copyFlags_L2
  refine z_iload_n hC dX4_copyFlags_2 rfl ?_
  refine z_aload_n hC dX4_copyFlags_3 rfl ?_
  refine z_alenZ hC dX4_copyFlags_4 hbq1 hq1 rfl ?_
  refine z_icmp_ge hC 26 dX4_copyFlags_5 (by decide) (fun h1 => ?_) (fun h1 => ?_)
  · exact z_leaf (hx a0.1 a0.2)
  · refine z_iload_n hC dX4_copyFlags_8 rfl ?_
    refine z_aload_n hC dX4_copyFlags_9 rfl ?_
    refine z_alenZ hC dX4_copyFlags_10 hbq2 hq2 rfl ?_
    refine z_icmp_ge hC 26 dX4_copyFlags_11 (by decide) (fun h2 => ?_) (fun h2 => ?_)
    · exact z_leaf (hx a0.1 a0.2)
    · refine z_aload_n hC dX4_copyFlags_14 rfl ?_
      refine z_iload_n hC dX4_copyFlags_15 rfl ?_
      refine z_aload_n hC dX4_copyFlags_16 rfl ?_
      refine z_iload_n hC dX4_copyFlags_17 rfl ?_
      refine z_zald hC dX4_copyFlags_18 hbq1 hq1 (fun h3 => ?_)
      refine z_zast hC dX4_copyFlags_19 hbq2 hq2 (fun h4 => ?_)
      refine z_let (fun σ5 _ => ?_)
      refine z_iinc hC dX4_copyFlags_20 (lv' := [some (.ref (ad k1)), some (.ref (ad k2)), some (.int (a0.1 + 1))]) rfl (by decide) ki_1 rfl ?_
      refine z_goto hC 2 dX4_copyFlags_23 (by decide) ?_
      exact z_leaf (hc (a0.1 + 1) σ5)
set_option maxRecDepth 100000 in
set_option maxHeartbeats 4000000 in
theorem w_X4_copyFlags {Γ : zG} {ad : Nat → Nat} (k1 : Nat) (k2 : Nat) (kl : Nat) (hC : zX Γ layC nC ad cX4_copyFlags RX4 3 (zRm 0 0) none) (hbq1 : k1 < nC) (hq1 : layC k1 = .inl (1, kl)) (hbq2 : k2 < nC) (hq2 : layC k2 = .inl (1, kl)) (σ : zS) : zK Γ layC nC ad 3 none 0 [some (.ref (ad k1)), some (.ref (ad k2)), none] [] σ (f_X4_copyFlags k1 k2 kl σ) some := by
  unfold f_X4_copyFlags
  refine z_iconst hC dX4_copyFlags_0 ki_0 ?_
  refine z_istore_n hC dX4_copyFlags_1 (lv' := [some (.ref (ad k1)), some (.ref (ad k2)), some (.int 0)]) (by decide) rfl ?_
  refine z_lpb (lvf := fun z : Int32 × zS => [some (.ref (ad k1)), some (.ref (ad k2)), some (.int z.1)]) (sg := fun z => z.2) (x := 26) zfuel (0, σ) rfl rfl (fun z K hc hx => t_X4_copyFlags_L2 k1 k2 kl hC hbq1 hq1 hbq2 hq2 z K (fun x0 s' => hc (x0, s')) (fun x0 s' => hx (x0, s'))) (fun a6 => ?_)
  exact z_vret hC dX4_copyFlags_26
theorem c_X4_copyFlags (k1 : Nat) (k2 : Nat) (kl : Nat) (hbq1 : k1 < nC) (hq1 : layC k1 = .inl (1, kl)) (hbq2 : k2 < nC) (hq2 : layC k2 = .inl (1, kl)) : zM layC nC yX4_copyFlags cX4_copyFlags 3 none (zRm 0 0) (fun ad => [.ref (ad k1), .ref (ad k2)]) (f_X4_copyFlags k1 k2 kl) := zM_of (own := RX4) (by decide) rfl (fun ad w hw => by simp only [List.mem_cons, List.not_mem_nil, or_false] at hw; (first | exact hw.elim | (rcases hw with rfl | rfl <;> rfl))) (fun ad => Nat.le_of_ble_eq_true rfl) (fun Γ ad hC σ => w_X4_copyFlags k1 k2 kl hC hbq1 hq1 hbq2 hq2 σ)
