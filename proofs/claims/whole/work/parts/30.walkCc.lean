set_option maxRecDepth 100000 in
set_option maxHeartbeats 4000000 in
theorem w_X7_back {Γ : zG} {ad : Nat → Nat} (hC : zX Γ layC nC ad cX7_back RX7 1 (zRm 3 90) (some .int)) (σ : zS) : zK Γ layC nC ad 1 (some .int) 0 [some (.ref (ad 0))] [] σ (f_X7_back σ) some := by
  unfold f_X7_back
  refine z_aload_n hC dX7_back_0 rfl ?_
  refine z_getr hC wf_X7_54 dX7_back_1 ltC_0 layC_0 rfl ?_
  refine z_geti hC wf_X7_161 dX7_back_4 ltC_34 layC_34 rfl ?_
  refine z_if_ne hC 13 dX7_back_7 (by decide) (fun h1 => ?_) (fun h1 => ?_)
  · refine z_aload_n hC dX7_back_13 rfl ?_
    refine z_getr hC wf_X7_54 dX7_back_14 ltC_0 layC_0 rfl ?_
    refine z_aload_n hC dX7_back_17 rfl ?_
    refine z_getr hC wf_X7_47 dX7_back_18 ltC_0 layC_0 rfl ?_
    refine z_callVv hC [.ref (ad 24)] c_X5_giveBack yy_X5_giveBack wl_X7_162 dX7_back_21 ltC_34 layC_34 vcz_X5 rfl rfl rfl (Nat.le_of_ble_eq_true rfl) (by decide) (fun r2 σ3 _ => ?_)
    refine z_aload_n hC dX7_back_24 rfl ?_
    refine z_getr hC wf_X7_54 dX7_back_25 ltC_0 layC_0 rfl ?_
    refine z_geti hC wf_X7_161 dX7_back_28 ltC_34 layC_34 rfl ?_
    exact z_iret hC dX7_back_31
  · refine z_bipush hC dX7_back_10 kb_m4 ?_
    exact z_iret hC dX7_back_12
theorem c_X7_back : zM layC nC yX7_back cX7_back 1 (some .int) (zRm 3 90) (fun ad => [.ref (ad 0)]) (f_X7_back) := zM_of (own := RX7) (by decide) rfl (fun ad w hw => by simp only [List.mem_cons, List.not_mem_nil, or_false] at hw; (first | exact hw.elim | (rcases hw with rfl <;> rfl))) (fun ad => Nat.le_of_ble_eq_true rfl) (fun Γ ad hC σ => w_X7_back hC σ)
set_option maxRecDepth 100000 in
set_option maxHeartbeats 4000000 in
theorem q_X7_bringEvent_J25 {Γ : zG} {ad : Nat → Nat} (hC : zX Γ layC nC ad cX7_bringEvent RX7 2 (zRm 4 88) none) (v1 : Int32) (s0 : Int32) (s1 : Int32) (σ : zS) : zK Γ layC nC ad 2 none 25 [some (.ref (ad 0)), some (.int v1)] [.int s0, .int s1, .ref (ad 33)] σ (j_X7_bringEvent_J25 v1 s0 s1 σ) some := by
  unfold j_X7_bringEvent_J25
  refine z_zast hC dX7_bringEvent_25 ltC_33 layC_33 (fun h3 => ?_)
  refine z_let (fun σ4 _ => ?_)
  refine z_aload_n hC dX7_bringEvent_26 rfl ?_
  refine z_getr hC wf_X7_47 dX7_bringEvent_27 ltC_0 layC_0 rfl ?_
  refine z_iconst hC dX7_bringEvent_30 ki_0 ?_
  refine z_iload_n hC dX7_bringEvent_31 rfl ?_
  refine z_callVv hC [.int 0, .int v1] (c_X4_addRow 0 v1) yy_X4_addRow wl_X7_238 dX7_bringEvent_32 ltC_24 layC_24 vcz_X4 rfl rfl rfl (Nat.le_of_ble_eq_true rfl) (by decide) (fun r5 σ6 _ => ?_)
  refine z_aload_n hC dX7_bringEvent_35 rfl ?_
  refine z_aload_n hC dX7_bringEvent_36 rfl ?_
  refine z_getr hC wf_X7_26 dX7_bringEvent_37 ltC_0 layC_0 rfl ?_
  refine z_getr hC wf_X7_242 dX7_bringEvent_40 ltC_11 layC_11 rfl ?_
  refine z_iload_n hC dX7_bringEvent_43 rfl ?_
  refine z_iald hC dX7_bringEvent_44 ltC_12 layC_12 (fun h7 => ?_)
  refine z_callVi hC [.int (σ6 12 v1.toNatClampNeg)] (c_X7_doDeed (σ6 12 v1.toNatClampNeg)) yy_X7_doDeed wl_X7_129 dX7_bringEvent_45 ltC_0 layC_0 vcz_X7 rfl rfl rfl (Nat.le_of_ble_eq_true rfl) (by decide) (fun r8 σ9 _ => ?_)
  refine z_pop hC dX7_bringEvent_48 rfl ?_
  exact z_vret hC dX7_bringEvent_49
set_option maxRecDepth 100000 in
set_option maxHeartbeats 4000000 in
theorem w_X7_bringEvent {Γ : zG} {ad : Nat → Nat} (hC : zX Γ layC nC ad cX7_bringEvent RX7 2 (zRm 4 88) none) (p1 : Int32) (σ : zS) : zK Γ layC nC ad 2 none 0 [some (.ref (ad 0)), some (.int p1)] [] σ (f_X7_bringEvent p1 σ) some := by
  unfold f_X7_bringEvent
  refine z_aload_n hC dX7_bringEvent_0 rfl ?_
  refine z_getr hC wf_X7_47 dX7_bringEvent_1 ltC_0 layC_0 rfl ?_
  refine z_getr hC wf_X7_196 dX7_bringEvent_4 ltC_24 layC_24 rfl ?_
  refine z_iload_n hC dX7_bringEvent_7 rfl ?_
  refine z_aload_n hC dX7_bringEvent_8 rfl ?_
  refine z_getr hC wf_X7_26 dX7_bringEvent_9 ltC_0 layC_0 rfl ?_
  refine z_getr hC wf_X7_235 dX7_bringEvent_12 ltC_11 layC_11 rfl ?_
  refine z_iload_n hC dX7_bringEvent_15 rfl ?_
  refine z_zald hC dX7_bringEvent_16 ltC_14 layC_14 (fun h1 => ?_)
  refine z_if_ne hC 24 dX7_bringEvent_17 (by decide) (fun h2 => ?_) (fun h2 => ?_)
  · refine z_iconst hC dX7_bringEvent_24 ki_0 ?_
    exact q_X7_bringEvent_J25 hC p1 0 p1 σ
  · refine z_iconst hC dX7_bringEvent_20 ki_1 ?_
    refine z_goto hC 25 dX7_bringEvent_21 (by decide) ?_
    exact q_X7_bringEvent_J25 hC p1 1 p1 σ
theorem c_X7_bringEvent (p1 : Int32) : zM layC nC yX7_bringEvent cX7_bringEvent 2 none (zRm 4 88) (fun ad => [.ref (ad 0), .int p1]) (f_X7_bringEvent p1) := zM_of (own := RX7) (by decide) rfl (fun ad w hw => by simp only [List.mem_cons, List.not_mem_nil, or_false] at hw; (first | exact hw.elim | (rcases hw with rfl | rfl <;> rfl))) (fun ad => Nat.le_of_ble_eq_true rfl) (fun Γ ad hC σ => w_X7_bringEvent hC p1 σ)
set_option maxRecDepth 100000 in
set_option maxHeartbeats 4000000 in
theorem w_X7_minutesUntil {Γ : zG} {ad : Nat → Nat} (hC : zX Γ layC nC ad cX7_minutesUntil RX7 3 (zRm 0 0) (some .int)) (p1 : Int32) (σ : zS) : zK Γ layC nC ad 3 (some .int) 0 [some (.ref (ad 0)), some (.int p1), none] [] σ (f_X7_minutesUntil p1 σ) some := by
  unfold f_X7_minutesUntil
  refine z_iload_n hC dX7_minutesUntil_0 rfl ?_
  refine z_aload_n hC dX7_minutesUntil_1 rfl ?_
  refine z_getr hC wf_X7_47 dX7_minutesUntil_2 ltC_0 layC_0 rfl ?_
  refine z_geti hC wf_X7_165 dX7_minutesUntil_5 ltC_24 layC_24 rfl ?_
  refine z_isub hC dX7_minutesUntil_8 ?_
  refine z_istore_n hC dX7_minutesUntil_9 (lv' := [some (.ref (ad 0)), some (.int p1), some (.int (p1 - (σ 24 0)))]) (by decide) rfl ?_
  refine z_iload_n hC dX7_minutesUntil_10 rfl ?_
  refine z_if_le hC 18 dX7_minutesUntil_11 (by decide) (fun h1 => ?_) (fun h1 => ?_)
  · refine z_iload_n hC dX7_minutesUntil_18 rfl ?_
    refine z_sipush hC dX7_minutesUntil_19 ks_1440 ?_
    refine z_iadd hC dX7_minutesUntil_22 ?_
    exact z_iret hC dX7_minutesUntil_23
  · refine z_iload_n hC dX7_minutesUntil_14 rfl ?_
    refine z_goto hC 23 dX7_minutesUntil_15 (by decide) ?_
    exact z_iret hC dX7_minutesUntil_23
theorem c_X7_minutesUntil (p1 : Int32) : zM layC nC yX7_minutesUntil cX7_minutesUntil 3 (some .int) (zRm 0 0) (fun ad => [.ref (ad 0), .int p1]) (f_X7_minutesUntil p1) := zM_of (own := RX7) (by decide) rfl (fun ad w hw => by simp only [List.mem_cons, List.not_mem_nil, or_false] at hw; (first | exact hw.elim | (rcases hw with rfl | rfl <;> rfl))) (fun ad => Nat.le_of_ble_eq_true rfl) (fun Γ ad hC σ => w_X7_minutesUntil hC p1 σ)
set_option maxRecDepth 100000 in
set_option maxHeartbeats 4000000 in
theorem t_X7_lineUpEvents_L4 {Γ : zG} {ad : Nat → Nat} (hC : zX Γ layC nC ad cX7_lineUpEvents RX7 5 (zRm 1 24) (some .int)) (c1 : Int32) (a0 : Int32 × Int32 × zS) (K : Bool × (Int32 × Int32 × zS) → Option (Int32 × zS)) (hc : ∀ (x0 : Int32) (x1 : Int32) (s' : zS), zZ Γ layC nC ad 5 (some .int) 4 [some (.ref (ad 0)), some (.int c1), some (.int x0), some (.int x1), none] [] s' (K (true, (x0, x1, s')))) (hx : ∀ (x0 : Int32) (x1 : Int32) (s' : zS), zZ Γ layC nC ad 5 (some .int) 68 [some (.ref (ad 0)), some (.int c1), some (.int x0), some (.int x1), none] [] s' (K (false, (x0, x1, s')))) : zK Γ layC nC ad 5 (some .int) 4 [some (.ref (ad 0)), some (.int c1), some (.int a0.1), some (.int a0.2.1), none] [] (a0.2.2) (b_X7_lineUpEvents_L4 c1 a0) K := by
  unfold b_X7_lineUpEvents_L4
  refine z_iload_n hC dX7_lineUpEvents_4 rfl ?_
  refine z_aload_n hC dX7_lineUpEvents_5 rfl ?_
  refine z_getr hC wf_X7_26 dX7_lineUpEvents_6 ltC_0 layC_0 rfl ?_
  refine z_geti hC wf_X7_177 dX7_lineUpEvents_9 ltC_11 layC_11 rfl ?_
  refine z_icmp_ge hC 68 dX7_lineUpEvents_12 (by decide) (fun h1 => ?_) (fun h1 => ?_)
  · exact z_leaf (hx a0.1 a0.2.1 a0.2.2)
  · refine z_aload_n hC dX7_lineUpEvents_15 rfl ?_
    refine z_aload_n hC dX7_lineUpEvents_16 rfl ?_
    refine z_getr hC wf_X7_26 dX7_lineUpEvents_17 ltC_0 layC_0 rfl ?_
    refine z_getr hC wf_X7_212 dX7_lineUpEvents_20 ltC_11 layC_11 rfl ?_
    refine z_iload_n hC dX7_lineUpEvents_23 rfl ?_
    refine z_iald hC dX7_lineUpEvents_24 ltC_13 layC_13 (fun h2 => ?_)
    refine z_callVi hC [.int (a0.2.2 13 a0.2.1.toNatClampNeg)] (c_X7_minutesUntil (a0.2.2 13 a0.2.1.toNatClampNeg)) yy_X7_minutesUntil wl_X7_215 dX7_lineUpEvents_25 ltC_0 layC_0 vcz_X7 rfl rfl rfl (Nat.le_of_ble_eq_true rfl) (by decide) (fun r3 σ4 _ => ?_)
    refine z_istore hC dX7_lineUpEvents_28 (lv' := [some (.ref (ad 0)), some (.int c1), some (.int a0.1), some (.int a0.2.1), some (.int r3)]) (by decide) rfl ?_
    refine z_aload_n hC dX7_lineUpEvents_30 rfl ?_
    refine z_getr hC wf_X7_47 dX7_lineUpEvents_31 ltC_0 layC_0 rfl ?_
    refine z_getr hC wf_X7_196 dX7_lineUpEvents_34 ltC_24 layC_24 rfl ?_
    refine z_iload_n hC dX7_lineUpEvents_37 rfl ?_
    refine z_zald hC dX7_lineUpEvents_38 ltC_33 layC_33 (fun h5 => ?_)
    refine z_if_ne hC 62 dX7_lineUpEvents_39 (by decide) (fun h6 => ?_) (fun h6 => ?_)
    · refine z_iinc hC dX7_lineUpEvents_62 (lv' := [some (.ref (ad 0)), some (.int c1), some (.int a0.1), some (.int (a0.2.1 + 1)), some (.int r3)]) rfl (by decide) ki_1 rfl ?_
      refine z_goto hC 4 dX7_lineUpEvents_65 (by decide) ?_
      refine z_forget [4] (lv' := [some (.ref (ad 0)), some (.int c1), some (.int a0.1), some (.int (a0.2.1 + 1)), none]) rfl ?_
      exact z_leaf (hc a0.1 (a0.2.1 + 1) σ4)
    · refine z_iload hC dX7_lineUpEvents_42 rfl ?_
      refine z_iload_n hC dX7_lineUpEvents_44 rfl ?_
      refine z_icmp_gt hC 62 dX7_lineUpEvents_45 (by decide) (fun h7 => ?_) (fun h7 => ?_)
      · refine z_iinc hC dX7_lineUpEvents_62 (lv' := [some (.ref (ad 0)), some (.int c1), some (.int a0.1), some (.int (a0.2.1 + 1)), some (.int r3)]) rfl (by decide) ki_1 rfl ?_
        refine z_goto hC 4 dX7_lineUpEvents_65 (by decide) ?_
        refine z_forget [4] (lv' := [some (.ref (ad 0)), some (.int c1), some (.int a0.1), some (.int (a0.2.1 + 1)), none]) rfl ?_
        exact z_leaf (hc a0.1 (a0.2.1 + 1) σ4)
      · refine z_aload_n hC dX7_lineUpEvents_48 rfl ?_
        refine z_getr hC wf_X7_26 dX7_lineUpEvents_49 ltC_0 layC_0 rfl ?_
        refine z_iload_n hC dX7_lineUpEvents_52 rfl ?_
        refine z_iload hC dX7_lineUpEvents_53 rfl ?_
        refine z_iload_n hC dX7_lineUpEvents_55 rfl ?_
        refine z_callVv hC [.int a0.2.1, .int r3, .int a0.1] (c_X2_putInOrder a0.2.1 r3 a0.1) yy_X2_putInOrder wl_X7_231 dX7_lineUpEvents_56 ltC_11 layC_11 vcz_X2 rfl rfl rfl (Nat.le_of_ble_eq_true rfl) (by decide) (fun r8 σ9 _ => ?_)
        refine z_iinc hC dX7_lineUpEvents_59 (lv' := [some (.ref (ad 0)), some (.int c1), some (.int (a0.1 + 1)), some (.int a0.2.1), some (.int r3)]) rfl (by decide) ki_1 rfl ?_
        refine z_iinc hC dX7_lineUpEvents_62 (lv' := [some (.ref (ad 0)), some (.int c1), some (.int (a0.1 + 1)), some (.int (a0.2.1 + 1)), some (.int r3)]) rfl (by decide) ki_1 rfl ?_
        refine z_goto hC 4 dX7_lineUpEvents_65 (by decide) ?_
        refine z_forget [4] (lv' := [some (.ref (ad 0)), some (.int c1), some (.int (a0.1 + 1)), some (.int (a0.2.1 + 1)), none]) rfl ?_
        exact z_leaf (hc (a0.1 + 1) (a0.2.1 + 1) σ9)
set_option maxRecDepth 100000 in
set_option maxHeartbeats 4000000 in
theorem w_X7_lineUpEvents {Γ : zG} {ad : Nat → Nat} (hC : zX Γ layC nC ad cX7_lineUpEvents RX7 5 (zRm 1 24) (some .int)) (p1 : Int32) (σ : zS) : zK Γ layC nC ad 5 (some .int) 0 [some (.ref (ad 0)), some (.int p1), none, none, none] [] σ (f_X7_lineUpEvents p1 σ) some := by
  unfold f_X7_lineUpEvents
  refine z_iconst hC dX7_lineUpEvents_0 ki_0 ?_
  refine z_istore_n hC dX7_lineUpEvents_1 (lv' := [some (.ref (ad 0)), some (.int p1), some (.int 0), none, none]) (by decide) rfl ?_
  refine z_iconst hC dX7_lineUpEvents_2 ki_0 ?_
  refine z_istore_n hC dX7_lineUpEvents_3 (lv' := [some (.ref (ad 0)), some (.int p1), some (.int 0), some (.int 0), none]) (by decide) rfl ?_
  refine z_lpb (lvf := fun z : Int32 × Int32 × zS => [some (.ref (ad 0)), some (.int p1), some (.int z.1), some (.int z.2.1), none]) (sg := fun z => z.2.2) (x := 68) zfuel (0, 0, σ) rfl rfl (fun z K hc hx => t_X7_lineUpEvents_L4 hC p1 z K (fun x0 x1 s' => hc (x0, x1, s')) (fun x0 x1 s' => hx (x0, x1, s'))) (fun a10 => ?_)
  refine z_iload_n hC dX7_lineUpEvents_68 rfl ?_
  exact z_iret hC dX7_lineUpEvents_69
theorem c_X7_lineUpEvents (p1 : Int32) : zM layC nC yX7_lineUpEvents cX7_lineUpEvents 5 (some .int) (zRm 1 24) (fun ad => [.ref (ad 0), .int p1]) (f_X7_lineUpEvents p1) := zM_of (own := RX7) (by decide) rfl (fun ad w hw => by simp only [List.mem_cons, List.not_mem_nil, or_false] at hw; (first | exact hw.elim | (rcases hw with rfl | rfl <;> rfl))) (fun ad => Nat.le_of_ble_eq_true rfl) (fun Γ ad hC σ => w_X7_lineUpEvents hC p1 σ)
set_option maxRecDepth 100000 in
set_option maxHeartbeats 4000000 in
theorem t_X7_bringEvents_L40 {Γ : zG} {ad : Nat → Nat} (hC : zX Γ layC nC ad cX7_bringEvents RX7 4 (zRm 5 109) none) (c1 : Int32) (c2 : Int32) (a0 : Int32 × zS) (K : Bool × (Int32 × zS) → Option (Int32 × zS)) (hc : ∀ (x0 : Int32) (s' : zS), zZ Γ layC nC ad 4 none 40 [some (.ref (ad 0)), some (.int c1), some (.int c2), some (.int x0)] [] s' (K (true, (x0, s')))) (hx : ∀ (x0 : Int32) (s' : zS), zZ Γ layC nC ad 4 none 71 [some (.ref (ad 0)), some (.int c1), some (.int c2), some (.int x0)] [] s' (K (false, (x0, s')))) : zK Γ layC nC ad 4 none 40 [some (.ref (ad 0)), some (.int c1), some (.int c2), some (.int a0.1)] [] (a0.2) (b_X7_bringEvents_L40 c1 c2 a0) K := by
  unfold b_X7_bringEvents_L40
  refine z_iload_n hC dX7_bringEvents_40 rfl ?_
  refine z_iload_n hC dX7_bringEvents_41 rfl ?_
  refine z_icmp_ge hC 71 dX7_bringEvents_42 (by decide) (fun h6 => ?_) (fun h6 => ?_)
  · exact z_leaf (hx a0.1 a0.2)
  · refine z_aload_n hC dX7_bringEvents_45 rfl ?_
    refine z_geti hC wf_X7_145 dX7_bringEvents_46 ltC_0 layC_0 rfl ?_
    refine z_if_ne hC 71 dX7_bringEvents_49 (by decide) (fun h7 => ?_) (fun h7 => ?_)
    · exact z_leaf (hx a0.1 a0.2)
    · refine z_aload_n hC dX7_bringEvents_52 rfl ?_
      refine z_aload_n hC dX7_bringEvents_53 rfl ?_
      refine z_getr hC wf_X7_26 dX7_bringEvents_54 ltC_0 layC_0 rfl ?_
      refine z_getr hC wf_X7_225 dX7_bringEvents_57 ltC_11 layC_11 rfl ?_
      refine z_iload_n hC dX7_bringEvents_60 rfl ?_
      refine z_iald hC dX7_bringEvents_61 ltC_15 layC_15 (fun h8 => ?_)
      refine z_callVv hC [.int (a0.2 15 a0.1.toNatClampNeg)] (c_X7_bringEvent (a0.2 15 a0.1.toNatClampNeg)) yy_X7_bringEvent wl_X7_228 dX7_bringEvents_62 ltC_0 layC_0 vcz_X7 rfl rfl rfl (Nat.le_of_ble_eq_true rfl) (by decide) (fun r9 σ10 _ => ?_)
      refine z_iinc hC dX7_bringEvents_65 (lv' := [some (.ref (ad 0)), some (.int c1), some (.int c2), some (.int (a0.1 + 1))]) rfl (by decide) ki_1 rfl ?_
      refine z_goto hC 40 dX7_bringEvents_68 (by decide) ?_
      exact z_leaf (hc (a0.1 + 1) σ10)
set_option maxRecDepth 100000 in
set_option maxHeartbeats 4000000 in
theorem w_X7_bringEvents {Γ : zG} {ad : Nat → Nat} (hC : zX Γ layC nC ad cX7_bringEvents RX7 4 (zRm 5 109) none) (σ : zS) : zK Γ layC nC ad 4 none 0 [some (.ref (ad 0)), none, none, none] [] σ (f_X7_bringEvents σ) some := by
  unfold f_X7_bringEvents
  refine z_aload_n hC dX7_bringEvents_0 rfl ?_
  refine z_getr hC wf_X7_47 dX7_bringEvents_1 ltC_0 layC_0 rfl ?_
  refine z_geti hC wf_X7_132 dX7_bringEvents_4 ltC_24 layC_24 rfl ?_
  refine z_aload_n hC dX7_bringEvents_7 rfl ?_
  refine z_getr hC wf_X7_47 dX7_bringEvents_8 ltC_0 layC_0 rfl ?_
  refine z_geti hC wf_X7_171 dX7_bringEvents_11 ltC_24 layC_24 rfl ?_
  refine z_iadd hC dX7_bringEvents_14 ?_
  refine z_istore_n hC dX7_bringEvents_15 (lv' := [some (.ref (ad 0)), some (.int ((σ 24 3) + (σ 24 4))), none, none]) (by decide) rfl ?_
  refine z_aload_n hC dX7_bringEvents_16 rfl ?_
  refine z_getr hC wf_X7_47 dX7_bringEvents_17 ltC_0 layC_0 rfl ?_
  refine z_iconst hC dX7_bringEvents_20 ki_0 ?_
  refine z_puti hC wp_X7_171 dX7_bringEvents_21 ltC_24 layC_24 rfl ?_
  refine z_let (fun σ1 _ => ?_)
  refine z_aload_n hC dX7_bringEvents_24 rfl ?_
  refine z_iload_n hC dX7_bringEvents_25 rfl ?_
  refine z_callVi hC [.int ((σ 24 3) + (σ 24 4))] (c_X7_lineUpEvents ((σ 24 3) + (σ 24 4))) yy_X7_lineUpEvents wl_X7_218 dX7_bringEvents_26 ltC_0 layC_0 vcz_X7 rfl rfl rfl (Nat.le_of_ble_eq_true rfl) (by decide) (fun r2 σ3 _ => ?_)
  refine z_istore_n hC dX7_bringEvents_29 (lv' := [some (.ref (ad 0)), some (.int ((σ 24 3) + (σ 24 4))), some (.int r2), none]) (by decide) rfl ?_
  refine z_aload_n hC dX7_bringEvents_30 rfl ?_
  refine z_getr hC wf_X7_47 dX7_bringEvents_31 ltC_0 layC_0 rfl ?_
  refine z_iload_n hC dX7_bringEvents_34 rfl ?_
  refine z_callVv hC [.int ((σ 24 3) + (σ 24 4))] (c_X4_goOn ((σ 24 3) + (σ 24 4))) yy_X4_goOn wl_X7_221 dX7_bringEvents_35 ltC_24 layC_24 vcz_X4 rfl rfl rfl (Nat.le_of_ble_eq_true rfl) (by decide) (fun r4 σ5 _ => ?_)
  refine z_iconst hC dX7_bringEvents_38 ki_0 ?_
  refine z_istore_n hC dX7_bringEvents_39 (lv' := [some (.ref (ad 0)), some (.int ((σ 24 3) + (σ 24 4))), some (.int r2), some (.int 0)]) (by decide) rfl ?_
  refine z_lpb (lvf := fun z : Int32 × zS => [some (.ref (ad 0)), some (.int ((σ 24 3) + (σ 24 4))), some (.int r2), some (.int z.1)]) (sg := fun z => z.2) (x := 71) zfuel (0, σ5) rfl rfl (fun z K hc hx => t_X7_bringEvents_L40 hC ((σ 24 3) + (σ 24 4)) r2 z K (fun x0 s' => hc (x0, s')) (fun x0 s' => hx (x0, s'))) (fun a11 => ?_)
  exact z_vret hC dX7_bringEvents_71
theorem c_X7_bringEvents : zM layC nC yX7_bringEvents cX7_bringEvents 4 none (zRm 5 109) (fun ad => [.ref (ad 0)]) (f_X7_bringEvents) := zM_of (own := RX7) (by decide) rfl (fun ad w hw => by simp only [List.mem_cons, List.not_mem_nil, or_false] at hw; (first | exact hw.elim | (rcases hw with rfl <;> rfl))) (fun ad => Nat.le_of_ble_eq_true rfl) (fun Γ ad hC σ => w_X7_bringEvents hC σ)
set_option maxRecDepth 100000 in
set_option maxHeartbeats 4000000 in
theorem w_X7_isWithin {Γ : zG} {ad : Nat → Nat} (hC : zX Γ layC nC ad cX7_isWithin RX7 3 (zRm 0 0) (some .boolean)) (p0 : Int32) (p1 : Int32) (p2 : Int32) (σ : zS) : zK Γ layC nC ad 3 (some .boolean) 0 [some (.int p0), some (.int p1), some (.int p2)] [] σ (f_X7_isWithin p0 p1 p2 σ) some := by
  unfold f_X7_isWithin
  refine z_iload_n hC dX7_isWithin_0 rfl ?_
  refine z_iload_n hC dX7_isWithin_1 rfl ?_
  refine z_icmp_lt hC 14 dX7_isWithin_2 (by decide) (fun h1 => ?_) (fun h1 => ?_)
  · refine z_iconst hC dX7_isWithin_14 ki_0 ?_
    exact z_zret hC (by decide) dX7_isWithin_15
  · refine z_iload_n hC dX7_isWithin_5 rfl ?_
    refine z_iload_n hC dX7_isWithin_6 rfl ?_
    refine z_icmp_gt hC 14 dX7_isWithin_7 (by decide) (fun h2 => ?_) (fun h2 => ?_)
    · refine z_iconst hC dX7_isWithin_14 ki_0 ?_
      exact z_zret hC (by decide) dX7_isWithin_15
    · refine z_iconst hC dX7_isWithin_10 ki_1 ?_
      refine z_goto hC 15 dX7_isWithin_11 (by decide) ?_
      exact z_zret hC (by decide) dX7_isWithin_15
theorem c_X7_isWithin (p0 : Int32) (p1 : Int32) (p2 : Int32) : zM layC nC yX7_isWithin cX7_isWithin 3 (some .boolean) (zRm 0 0) (fun ad => [.int p0, .int p1, .int p2]) (f_X7_isWithin p0 p1 p2) := zM_of (own := RX7) (by decide) rfl (fun ad w hw => by simp only [List.mem_cons, List.not_mem_nil, or_false] at hw; (first | exact hw.elim | (rcases hw with rfl | rfl | rfl <;> rfl))) (fun ad => Nat.le_of_ble_eq_true rfl) (fun Γ ad hC σ => w_X7_isWithin hC p0 p1 p2 σ)
set_option maxRecDepth 100000 in
set_option maxHeartbeats 4000000 in
theorem w_X7_isCounterValue {Γ : zG} {ad : Nat → Nat} (hC : zX Γ layC nC ad cX7_isCounterValue RX7 1 (zRm 1 22) (some .boolean)) (p0 : Int32) (σ : zS) : zK Γ layC nC ad 1 (some .boolean) 0 [some (.int p0)] [] σ (f_X7_isCounterValue p0 σ) some := by
  unfold f_X7_isCounterValue
  refine z_iload_n hC dX7_isCounterValue_0 rfl ?_
  refine z_sipush hC dX7_isCounterValue_1 ks_m1000 ?_
  refine z_sipush hC dX7_isCounterValue_4 ks_1000 ?_
  refine z_callSi hC [.int p0, .int (-1000), .int 1000] (c_X7_isWithin p0 (-1000) 1000) yy_X7_isWithin wl_X7_95 dX7_isCounterValue_7 rfl rfl rfl (Nat.le_of_ble_eq_true rfl) (by decide) (fun r1 σ2 _ => ?_)
  refine z_chk (fun h3 => ?_)
  exact z_zret hC h3 dX7_isCounterValue_10
theorem c_X7_isCounterValue (p0 : Int32) : zM layC nC yX7_isCounterValue cX7_isCounterValue 1 (some .boolean) (zRm 1 22) (fun ad => [.int p0]) (f_X7_isCounterValue p0) := zM_of (own := RX7) (by decide) rfl (fun ad w hw => by simp only [List.mem_cons, List.not_mem_nil, or_false] at hw; (first | exact hw.elim | (rcases hw with rfl <;> rfl))) (fun ad => Nat.le_of_ble_eq_true rfl) (fun Γ ad hC σ => w_X7_isCounterValue hC p0 σ)
set_option maxRecDepth 100000 in
set_option maxHeartbeats 4000000 in
theorem q_X7_condition_J29 {Γ : zG} {ad : Nat → Nat} (hC : zX Γ layC nC ad cX7_condition RX7 4 (zRm 2 42) (some .int)) (v1 : Int32) (v2 : Int32) (v3 : Int32) (σ : zS) : zK Γ layC nC ad 4 (some .int) 29 [some (.ref (ad 0)), some (.int v1), some (.int v2), some (.int v3)] [] σ (j_X7_condition_J29 v1 v2 v3 σ) some := by
  unfold j_X7_condition_J29
  refine z_iload_n hC dX7_condition_29 rfl ?_
  refine z_callSi hC [.int v3] (c_X7_isCounterValue v3) yy_X7_isCounterValue wl_X7_103 dX7_condition_30 rfl rfl rfl (Nat.le_of_ble_eq_true rfl) (by decide) (fun r5 σ6 _ => ?_)
  refine z_if_ne hC 39 dX7_condition_33 (by decide) (fun h7 => ?_) (fun h7 => ?_)
  · refine z_aload_n hC dX7_condition_39 rfl ?_
    refine z_getr hC wf_X7_19 dX7_condition_40 ltC_0 layC_0 rfl ?_
    refine z_getr hC wf_X7_113 dX7_condition_43 ltC_5 layC_5 rfl ?_
    refine z_iload_n hC dX7_condition_46 rfl ?_
    refine z_iload_n hC dX7_condition_47 rfl ?_
    refine z_iast hC dX7_condition_48 ltC_9 layC_9 (fun h8 => ?_)
    refine z_let (fun σ9 _ => ?_)
    refine z_aload_n hC dX7_condition_49 rfl ?_
    refine z_getr hC wf_X7_19 dX7_condition_50 ltC_0 layC_0 rfl ?_
    refine z_getr hC wf_X7_116 dX7_condition_53 ltC_5 layC_5 rfl ?_
    refine z_iload_n hC dX7_condition_56 rfl ?_
    refine z_iload_n hC dX7_condition_57 rfl ?_
    refine z_iast hC dX7_condition_58 ltC_10 layC_10 (fun h10 => ?_)
    refine z_let (fun σ11 _ => ?_)
    refine z_aload_n hC dX7_condition_59 rfl ?_
    refine z_iconst hC dX7_condition_60 ki_1 ?_
    refine z_callVi hC [.int 1] (c_X7_closePast 1) yy_X7_closePast wl_X7_66 dX7_condition_61 ltC_0 layC_0 vcz_X7 rfl rfl rfl (Nat.le_of_ble_eq_true rfl) (by decide) (fun r12 σ13 _ => ?_)
    exact z_iret hC dX7_condition_64
  · refine z_bipush hC dX7_condition_36 kb_m3 ?_
    exact z_iret hC dX7_condition_38
set_option maxRecDepth 100000 in
set_option maxHeartbeats 4000000 in
theorem w_X7_condition {Γ : zG} {ad : Nat → Nat} (hC : zX Γ layC nC ad cX7_condition RX7 4 (zRm 2 42) (some .int)) (p1 : Int32) (p2 : Int32) (p3 : Int32) (σ : zS) : zK Γ layC nC ad 4 (some .int) 0 [some (.ref (ad 0)), some (.int p1), some (.int p2), some (.int p3)] [] σ (f_X7_condition p1 p2 p3 σ) some := by
  unfold f_X7_condition
  refine z_iload_n hC dX7_condition_0 rfl ?_
  refine z_aload_n hC dX7_condition_1 rfl ?_
  refine z_getr hC wf_X7_19 dX7_condition_2 ltC_0 layC_0 rfl ?_
  refine z_geti hC wf_X7_110 dX7_condition_5 ltC_5 layC_5 rfl ?_
  refine z_callSi hC [.int p1, .int (σ 5 0)] (c_X7_isThere p1 (σ 5 0)) yy_X7_isThere wl_X7_74 dX7_condition_8 rfl rfl rfl (Nat.le_of_ble_eq_true rfl) (by decide) (fun r1 σ2 _ => ?_)
  refine z_if_ne hC 17 dX7_condition_11 (by decide) (fun h3 => ?_) (fun h3 => ?_)
  · refine z_iload_n hC dX7_condition_17 rfl ?_
    refine z_iconst hC dX7_condition_18 ki_m1 ?_
    refine z_icmp_eq hC 29 dX7_condition_19 (by decide) (fun h4 => ?_) (fun h4 => ?_)
    · exact q_X7_condition_J29 hC p1 p2 p3 σ2
    · refine z_iload_n hC dX7_condition_22 rfl ?_
      refine z_callSi hC [.int p2] (c_X7_isCounter p2) yy_X7_isCounter wl_X7_99 dX7_condition_23 rfl rfl rfl (Nat.le_of_ble_eq_true rfl) (by decide) (fun r14 σ15 _ => ?_)
      refine z_if_eq hC 36 dX7_condition_26 (by decide) (fun h16 => ?_) (fun h16 => ?_)
      · refine z_bipush hC dX7_condition_36 kb_m3 ?_
        exact z_iret hC dX7_condition_38
      · exact q_X7_condition_J29 hC p1 p2 p3 σ15
  · refine z_bipush hC dX7_condition_14 kb_m2 ?_
    exact z_iret hC dX7_condition_16
theorem c_X7_condition (p1 : Int32) (p2 : Int32) (p3 : Int32) : zM layC nC yX7_condition cX7_condition 4 (some .int) (zRm 2 42) (fun ad => [.ref (ad 0), .int p1, .int p2, .int p3]) (f_X7_condition p1 p2 p3) := zM_of (own := RX7) (by decide) rfl (fun ad w hw => by simp only [List.mem_cons, List.not_mem_nil, or_false] at hw; (first | exact hw.elim | (rcases hw with rfl | rfl | rfl | rfl <;> rfl))) (fun ad => Nat.le_of_ble_eq_true rfl) (fun Γ ad hC σ => w_X7_condition hC p1 p2 p3 σ)
set_option maxRecDepth 100000 in
set_option maxHeartbeats 4000000 in
theorem w_X7_count {Γ : zG} {ad : Nat → Nat} (hC : zX Γ layC nC ad cX7_count RX7 2 (zRm 0 0) (some .int)) (p1 : Int32) (σ : zS) : zK Γ layC nC ad 2 (some .int) 0 [some (.ref (ad 0)), some (.int p1)] [] σ (f_X7_count p1 σ) some := by
  unfold f_X7_count
  refine z_iload_n hC dX7_count_0 rfl ?_
  refine z_ite (fun h1 => ?_) (fun h1 => ?_)
  · refine z_tabIn hC 44 dX7_count_1 0 h1 (by decide) (by decide) rfl (by decide) ?_
    refine z_aload_n hC dX7_count_44 rfl ?_
    refine z_getr hC wf_X7_12 dX7_count_45 ltC_0 layC_0 rfl ?_
    refine z_geti hC wf_X7_70 dX7_count_48 ltC_1 layC_1 rfl ?_
    exact z_iret hC dX7_count_51
  refine z_ite (fun h2 => ?_) (fun h2 => ?_)
  · refine z_tabIn hC 52 dX7_count_1 1 h2 (by decide) (by decide) rfl (by decide) ?_
    refine z_aload_n hC dX7_count_52 rfl ?_
    refine z_getr hC wf_X7_12 dX7_count_53 ltC_0 layC_0 rfl ?_
    refine z_geti hC wf_X7_174 dX7_count_56 ltC_1 layC_1 rfl ?_
    exact z_iret hC dX7_count_59
  refine z_ite (fun h3 => ?_) (fun h3 => ?_)
  · refine z_tabIn hC 60 dX7_count_1 2 h3 (by decide) (by decide) rfl (by decide) ?_
    refine z_aload_n hC dX7_count_60 rfl ?_
    refine z_getr hC wf_X7_12 dX7_count_61 ltC_0 layC_0 rfl ?_
    refine z_geti hC wf_X7_85 dX7_count_64 ltC_1 layC_1 rfl ?_
    exact z_iret hC dX7_count_67
  refine z_ite (fun h4 => ?_) (fun h4 => ?_)
  · refine z_tabIn hC 68 dX7_count_1 3 h4 (by decide) (by decide) rfl (by decide) ?_
    refine z_aload_n hC dX7_count_68 rfl ?_
    refine z_getr hC wf_X7_19 dX7_count_69 ltC_0 layC_0 rfl ?_
    refine z_geti hC wf_X7_110 dX7_count_72 ltC_5 layC_5 rfl ?_
    exact z_iret hC dX7_count_75
  refine z_ite (fun h5 => ?_) (fun h5 => ?_)
  · refine z_tabIn hC 76 dX7_count_1 4 h5 (by decide) (by decide) rfl (by decide) ?_
    refine z_aload_n hC dX7_count_76 rfl ?_
    refine z_getr hC wf_X7_26 dX7_count_77 ltC_0 layC_0 rfl ?_
    refine z_geti hC wf_X7_177 dX7_count_80 ltC_11 layC_11 rfl ?_
    exact z_iret hC dX7_count_83
  refine z_ite (fun h6 => ?_) (fun h6 => ?_)
  · refine z_tabIn hC 84 dX7_count_1 5 h6 (by decide) (by decide) rfl (by decide) ?_
    refine z_aload_n hC dX7_count_84 rfl ?_
    refine z_getr hC wf_X7_33 dX7_count_85 ltC_0 layC_0 rfl ?_
    refine z_geti hC wf_X7_178 dX7_count_88 ltC_17 layC_17 rfl ?_
    exact z_iret hC dX7_count_91
  refine z_ite (fun h7 => ?_) (fun h7 => ?_)
  · refine z_tabIn hC 92 dX7_count_1 6 h7 (by decide) (by decide) rfl (by decide) ?_
    refine z_aload_n hC dX7_count_92 rfl ?_
    refine z_getr hC wf_X7_40 dX7_count_93 ltC_0 layC_0 rfl ?_
    refine z_geti hC wf_X7_179 dX7_count_96 ltC_21 layC_21 rfl ?_
    exact z_iret hC dX7_count_99
  refine z_tabOut hC 100 dX7_count_1 (by have := And.intro (lv_neT h1 (a := 0) (by decide)) (And.intro (lv_neT h2 (a := 1) (by decide)) (And.intro (lv_neT h3 (a := 2) (by decide)) (And.intro (lv_neT h4 (a := 3) (by decide)) (And.intro (lv_neT h5 (a := 4) (by decide)) (And.intro (lv_neT h6 (a := 5) (by decide)) (lv_neT h7 (a := 6) (by decide))))))); omega) (by decide) ?_
  refine z_bipush hC dX7_count_100 kb_m3 ?_
  exact z_iret hC dX7_count_102
theorem c_X7_count (p1 : Int32) : zM layC nC yX7_count cX7_count 2 (some .int) (zRm 0 0) (fun ad => [.ref (ad 0), .int p1]) (f_X7_count p1) := zM_of (own := RX7) (by decide) rfl (fun ad w hw => by simp only [List.mem_cons, List.not_mem_nil, or_false] at hw; (first | exact hw.elim | (rcases hw with rfl | rfl <;> rfl))) (fun ad => Nat.le_of_ble_eq_true rfl) (fun Γ ad hC σ => w_X7_count hC p1 σ)
set_option maxRecDepth 100000 in
set_option maxHeartbeats 4000000 in
theorem w_X7_counter {Γ : zG} {ad : Nat → Nat} (hC : zX Γ layC nC ad cX7_counter RX7 2 (zRm 1 20) (some .int)) (p1 : Int32) (σ : zS) : zK Γ layC nC ad 2 (some .int) 0 [some (.ref (ad 0)), some (.int p1)] [] σ (f_X7_counter p1 σ) some := by
  unfold f_X7_counter
  refine z_iload_n hC dX7_counter_0 rfl ?_
  refine z_callSi hC [.int p1] (c_X7_isCounter p1) yy_X7_isCounter wl_X7_99 dX7_counter_1 rfl rfl rfl (Nat.le_of_ble_eq_true rfl) (by decide) (fun r1 σ2 _ => ?_)
  refine z_if_eq hC 19 dX7_counter_4 (by decide) (fun h3 => ?_) (fun h3 => ?_)
  · refine z_bipush hC dX7_counter_19 kb_m3 ?_
    exact z_iret hC dX7_counter_21
  · refine z_aload_n hC dX7_counter_7 rfl ?_
    refine z_getr hC wf_X7_47 dX7_counter_8 ltC_0 layC_0 rfl ?_
    refine z_getr hC wf_X7_180 dX7_counter_11 ltC_24 layC_24 rfl ?_
    refine z_iload_n hC dX7_counter_14 rfl ?_
    refine z_iald hC dX7_counter_15 ltC_27 layC_27 (fun h4 => ?_)
    refine z_goto hC 21 dX7_counter_16 (by decide) ?_
    exact z_iret hC dX7_counter_21
theorem c_X7_counter (p1 : Int32) : zM layC nC yX7_counter cX7_counter 2 (some .int) (zRm 1 20) (fun ad => [.ref (ad 0), .int p1]) (f_X7_counter p1) := zM_of (own := RX7) (by decide) rfl (fun ad w hw => by simp only [List.mem_cons, List.not_mem_nil, or_false] at hw; (first | exact hw.elim | (rcases hw with rfl | rfl <;> rfl))) (fun ad => Nat.le_of_ble_eq_true rfl) (fun Γ ad hC σ => w_X7_counter hC p1 σ)
set_option maxRecDepth 100000 in
set_option maxHeartbeats 4000000 in
theorem w_X7_daemon {Γ : zG} {ad : Nat → Nat} (hC : zX Γ layC nC ad cX7_daemon RX7 3 (zRm 1 22) (some .int)) (p1 : Int32) (p2 : Int32) (σ : zS) : zK Γ layC nC ad 3 (some .int) 0 [some (.ref (ad 0)), some (.int p1), some (.int p2)] [] σ (f_X7_daemon p1 p2 σ) some := by
  unfold f_X7_daemon
  refine z_iload_n hC dX7_daemon_0 rfl ?_
  refine z_aload_n hC dX7_daemon_1 rfl ?_
  refine z_getr hC wf_X7_19 dX7_daemon_2 ltC_0 layC_0 rfl ?_
  refine z_geti hC wf_X7_110 dX7_daemon_5 ltC_5 layC_5 rfl ?_
  refine z_callSi hC [.int p1, .int (σ 5 0)] (c_X7_isThere p1 (σ 5 0)) yy_X7_isThere wl_X7_74 dX7_daemon_8 rfl rfl rfl (Nat.le_of_ble_eq_true rfl) (by decide) (fun r1 σ2 _ => ?_)
  refine z_if_ne hC 17 dX7_daemon_11 (by decide) (fun h3 => ?_) (fun h3 => ?_)
  · refine z_iload_n hC dX7_daemon_17 rfl ?_
    refine z_iconst hC dX7_daemon_18 ki_0 ?_
    refine z_bipush hC dX7_daemon_19 kb_9 ?_
    refine z_callSi hC [.int p2, .int 0, .int 9] (c_X7_isWithin p2 0 9) yy_X7_isWithin wl_X7_95 dX7_daemon_21 rfl rfl rfl (Nat.le_of_ble_eq_true rfl) (by decide) (fun r4 σ5 _ => ?_)
    refine z_if_ne hC 30 dX7_daemon_24 (by decide) (fun h6 => ?_) (fun h6 => ?_)
    · refine z_aload_n hC dX7_daemon_30 rfl ?_
      refine z_aload_n hC dX7_daemon_31 rfl ?_
      refine z_getr hC wf_X7_40 dX7_daemon_32 ltC_0 layC_0 rfl ?_
      refine z_iload_n hC dX7_daemon_35 rfl ?_
      refine z_iload_n hC dX7_daemon_36 rfl ?_
      refine z_callVi hC [.int p1, .int p2] (c_X0_addDaemon p1 p2) yy_X0_addDaemon wl_X7_126 dX7_daemon_37 ltC_21 layC_21 vcz_X0 rfl rfl rfl (Nat.le_of_ble_eq_true rfl) (by decide) (fun r7 σ8 _ => ?_)
      refine z_callVi hC [.int r7] (c_X7_closePast r7) yy_X7_closePast wl_X7_66 dX7_daemon_40 ltC_0 layC_0 vcz_X7 rfl rfl rfl (Nat.le_of_ble_eq_true rfl) (by decide) (fun r9 σ10 _ => ?_)
      exact z_iret hC dX7_daemon_43
    · refine z_bipush hC dX7_daemon_27 kb_m3 ?_
      exact z_iret hC dX7_daemon_29
  · refine z_bipush hC dX7_daemon_14 kb_m2 ?_
    exact z_iret hC dX7_daemon_16
theorem c_X7_daemon (p1 : Int32) (p2 : Int32) : zM layC nC yX7_daemon cX7_daemon 3 (some .int) (zRm 1 22) (fun ad => [.ref (ad 0), .int p1, .int p2]) (f_X7_daemon p1 p2) := zM_of (own := RX7) (by decide) rfl (fun ad w hw => by simp only [List.mem_cons, List.not_mem_nil, or_false] at hw; (first | exact hw.elim | (rcases hw with rfl | rfl | rfl <;> rfl))) (fun ad => Nat.le_of_ble_eq_true rfl) (fun Γ ad hC σ => w_X7_daemon hC p1 p2 σ)
set_option maxRecDepth 100000 in
set_option maxHeartbeats 4000000 in
theorem q_X7_deed_J34 {Γ : zG} {ad : Nat → Nat} (hC : zX Γ layC nC ad cX7_deed RX7 4 (zRm 2 42) (some .int)) (v1 : Int32) (v2 : Int32) (v3 : Int32) (σ : zS) : zK Γ layC nC ad 4 (some .int) 34 [some (.ref (ad 0)), some (.int v1), some (.int v2), some (.int v3)] [] σ (j_X7_deed_J34 v1 v2 v3 σ) some := by
  unfold j_X7_deed_J34
  refine z_iload_n hC dX7_deed_34 rfl ?_
  refine z_bipush hC dX7_deed_35 kb_8 ?_
  refine z_icmp_ne hC 54 dX7_deed_37 (by decide) (fun h5 => ?_) (fun h5 => ?_)
  · refine z_aload_n hC dX7_deed_54 rfl ?_
    refine z_aload_n hC dX7_deed_55 rfl ?_
    refine z_getr hC wf_X7_19 dX7_deed_56 ltC_0 layC_0 rfl ?_
    refine z_iload_n hC dX7_deed_59 rfl ?_
    refine z_iload_n hC dX7_deed_60 rfl ?_
    refine z_iload_n hC dX7_deed_61 rfl ?_
    refine z_callVi hC [.int v1, .int v2, .int v3] (c_X1_addDeed v1 v2 v3) yy_X1_addDeed wl_X7_106 dX7_deed_62 ltC_5 layC_5 vcz_X1 rfl rfl rfl (Nat.le_of_ble_eq_true rfl) (by decide) (fun r6 σ7 _ => ?_)
    refine z_callVi hC [.int r6] (c_X7_closePast r6) yy_X7_closePast wl_X7_66 dX7_deed_65 ltC_0 layC_0 vcz_X7 rfl rfl rfl (Nat.le_of_ble_eq_true rfl) (by decide) (fun r8 σ9 _ => ?_)
    exact z_iret hC dX7_deed_68
  · refine z_iload_n hC dX7_deed_40 rfl ?_
    refine z_iconst hC dX7_deed_41 ki_1 ?_
    refine z_sipush hC dX7_deed_42 ks_600 ?_
    refine z_callSi hC [.int v3, .int 1, .int 600] (c_X7_isWithin v3 1 600) yy_X7_isWithin wl_X7_95 dX7_deed_45 rfl rfl rfl (Nat.le_of_ble_eq_true rfl) (by decide) (fun r10 σ11 _ => ?_)
    refine z_if_ne hC 54 dX7_deed_48 (by decide) (fun h12 => ?_) (fun h12 => ?_)
    · refine z_aload_n hC dX7_deed_54 rfl ?_
      refine z_aload_n hC dX7_deed_55 rfl ?_
      refine z_getr hC wf_X7_19 dX7_deed_56 ltC_0 layC_0 rfl ?_
      refine z_iload_n hC dX7_deed_59 rfl ?_
      refine z_iload_n hC dX7_deed_60 rfl ?_
      refine z_iload_n hC dX7_deed_61 rfl ?_
      refine z_callVi hC [.int v1, .int v2, .int v3] (c_X1_addDeed v1 v2 v3) yy_X1_addDeed wl_X7_106 dX7_deed_62 ltC_5 layC_5 vcz_X1 rfl rfl rfl (Nat.le_of_ble_eq_true rfl) (by decide) (fun r13 σ14 _ => ?_)
      refine z_callVi hC [.int r13] (c_X7_closePast r13) yy_X7_closePast wl_X7_66 dX7_deed_65 ltC_0 layC_0 vcz_X7 rfl rfl rfl (Nat.le_of_ble_eq_true rfl) (by decide) (fun r15 σ16 _ => ?_)
      exact z_iret hC dX7_deed_68
    · refine z_bipush hC dX7_deed_51 kb_m3 ?_
      exact z_iret hC dX7_deed_53
set_option maxRecDepth 100000 in
set_option maxHeartbeats 4000000 in
theorem w_X7_deed {Γ : zG} {ad : Nat → Nat} (hC : zX Γ layC nC ad cX7_deed RX7 4 (zRm 2 42) (some .int)) (p1 : Int32) (p2 : Int32) (p3 : Int32) (σ : zS) : zK Γ layC nC ad 4 (some .int) 0 [some (.ref (ad 0)), some (.int p1), some (.int p2), some (.int p3)] [] σ (f_X7_deed p1 p2 p3 σ) some := by
  unfold f_X7_deed
  refine z_iload_n hC dX7_deed_0 rfl ?_
  refine z_iconst hC dX7_deed_1 ki_0 ?_
  refine z_bipush hC dX7_deed_2 kb_8 ?_
  refine z_callSi hC [.int p1, .int 0, .int 8] (c_X7_isWithin p1 0 8) yy_X7_isWithin wl_X7_95 dX7_deed_4 rfl rfl rfl (Nat.le_of_ble_eq_true rfl) (by decide) (fun r1 σ2 _ => ?_)
  refine z_if_ne hC 13 dX7_deed_7 (by decide) (fun h3 => ?_) (fun h3 => ?_)
  · refine z_iload_n hC dX7_deed_13 rfl ?_
    refine z_if_ne hC 34 dX7_deed_14 (by decide) (fun h4 => ?_) (fun h4 => ?_)
    · exact q_X7_deed_J34 hC p1 p2 p3 σ2
    · refine z_iload_n hC dX7_deed_17 rfl ?_
      refine z_callSi hC [.int p2] (c_X7_isCounter p2) yy_X7_isCounter wl_X7_99 dX7_deed_18 rfl rfl rfl (Nat.le_of_ble_eq_true rfl) (by decide) (fun r17 σ18 _ => ?_)
      refine z_if_eq hC 31 dX7_deed_21 (by decide) (fun h19 => ?_) (fun h19 => ?_)
      · refine z_bipush hC dX7_deed_31 kb_m3 ?_
        exact z_iret hC dX7_deed_33
      · refine z_iload_n hC dX7_deed_24 rfl ?_
        refine z_callSi hC [.int p3] (c_X7_isCounterValue p3) yy_X7_isCounterValue wl_X7_103 dX7_deed_25 rfl rfl rfl (Nat.le_of_ble_eq_true rfl) (by decide) (fun r20 σ21 _ => ?_)
        refine z_if_ne hC 34 dX7_deed_28 (by decide) (fun h22 => ?_) (fun h22 => ?_)
        · exact q_X7_deed_J34 hC p1 p2 p3 σ21
        · refine z_bipush hC dX7_deed_31 kb_m3 ?_
          exact z_iret hC dX7_deed_33
  · refine z_bipush hC dX7_deed_10 kb_m3 ?_
    exact z_iret hC dX7_deed_12
theorem c_X7_deed (p1 : Int32) (p2 : Int32) (p3 : Int32) : zM layC nC yX7_deed cX7_deed 4 (some .int) (zRm 2 42) (fun ad => [.ref (ad 0), .int p1, .int p2, .int p3]) (f_X7_deed p1 p2 p3) := zM_of (own := RX7) (by decide) rfl (fun ad w hw => by simp only [List.mem_cons, List.not_mem_nil, or_false] at hw; (first | exact hw.elim | (rcases hw with rfl | rfl | rfl | rfl <;> rfl))) (fun ad => Nat.le_of_ble_eq_true rfl) (fun Γ ad hC σ => w_X7_deed hC p1 p2 p3 σ)
set_option maxRecDepth 100000 in
set_option maxHeartbeats 4000000 in
theorem w_X7_door {Γ : zG} {ad : Nat → Nat} (hC : zX Γ layC nC ad cX7_door RX7 3 (zRm 1 22) (some .int)) (p1 : Int32) (p2 : Int32) (σ : zS) : zK Γ layC nC ad 3 (some .int) 0 [some (.ref (ad 0)), some (.int p1), some (.int p2)] [] σ (f_X7_door p1 p2 σ) some := by
  unfold f_X7_door
  refine z_iload_n hC dX7_door_0 rfl ?_
  refine z_aload_n hC dX7_door_1 rfl ?_
  refine z_getr hC wf_X7_12 dX7_door_2 ltC_0 layC_0 rfl ?_
  refine z_geti hC wf_X7_70 dX7_door_5 ltC_1 layC_1 rfl ?_
  refine z_callSi hC [.int p1, .int (σ 1 0)] (c_X7_isThere p1 (σ 1 0)) yy_X7_isThere wl_X7_74 dX7_door_8 rfl rfl rfl (Nat.le_of_ble_eq_true rfl) (by decide) (fun r1 σ2 _ => ?_)
  refine z_if_eq hC 28 dX7_door_11 (by decide) (fun h3 => ?_) (fun h3 => ?_)
  · refine z_bipush hC dX7_door_28 kb_m2 ?_
    exact z_iret hC dX7_door_30
  · refine z_iload_n hC dX7_door_14 rfl ?_
    refine z_aload_n hC dX7_door_15 rfl ?_
    refine z_getr hC wf_X7_12 dX7_door_16 ltC_0 layC_0 rfl ?_
    refine z_geti hC wf_X7_70 dX7_door_19 ltC_1 layC_1 rfl ?_
    refine z_callSi hC [.int p2, .int (σ2 1 0)] (c_X7_isThere p2 (σ2 1 0)) yy_X7_isThere wl_X7_74 dX7_door_22 rfl rfl rfl (Nat.le_of_ble_eq_true rfl) (by decide) (fun r4 σ5 _ => ?_)
    refine z_if_ne hC 31 dX7_door_25 (by decide) (fun h6 => ?_) (fun h6 => ?_)
    · refine z_iload_n hC dX7_door_31 rfl ?_
      refine z_iload_n hC dX7_door_32 rfl ?_
      refine z_icmp_ne hC 39 dX7_door_33 (by decide) (fun h7 => ?_) (fun h7 => ?_)
      · refine z_aload_n hC dX7_door_39 rfl ?_
        refine z_aload_n hC dX7_door_40 rfl ?_
        refine z_getr hC wf_X7_12 dX7_door_41 ltC_0 layC_0 rfl ?_
        refine z_iload_n hC dX7_door_44 rfl ?_
        refine z_iload_n hC dX7_door_45 rfl ?_
        refine z_callVi hC [.int p1, .int p2] (c_X3_addDoor p1 p2) yy_X3_addDoor wl_X7_78 dX7_door_46 ltC_1 layC_1 vcz_X3 rfl rfl rfl (Nat.le_of_ble_eq_true rfl) (by decide) (fun r8 σ9 _ => ?_)
        refine z_callVi hC [.int r8] (c_X7_closePast r8) yy_X7_closePast wl_X7_66 dX7_door_49 ltC_0 layC_0 vcz_X7 rfl rfl rfl (Nat.le_of_ble_eq_true rfl) (by decide) (fun r10 σ11 _ => ?_)
        exact z_iret hC dX7_door_52
      · refine z_bipush hC dX7_door_36 kb_m3 ?_
        exact z_iret hC dX7_door_38
    · refine z_bipush hC dX7_door_28 kb_m2 ?_
      exact z_iret hC dX7_door_30
theorem c_X7_door (p1 : Int32) (p2 : Int32) : zM layC nC yX7_door cX7_door 3 (some .int) (zRm 1 22) (fun ad => [.ref (ad 0), .int p1, .int p2]) (f_X7_door p1 p2) := zM_of (own := RX7) (by decide) rfl (fun ad w hw => by simp only [List.mem_cons, List.not_mem_nil, or_false] at hw; (first | exact hw.elim | (rcases hw with rfl | rfl | rfl <;> rfl))) (fun ad => Nat.le_of_ble_eq_true rfl) (fun Γ ad hC σ => w_X7_door hC p1 p2 σ)
set_option maxRecDepth 100000 in
set_option maxHeartbeats 4000000 in
theorem w_X7_event {Γ : zG} {ad : Nat → Nat} (hC : zX Γ layC nC ad cX7_event RX7 4 (zRm 1 23) (some .int)) (p1 : Int32) (p2 : Int32) (p3 : Int32) (σ : zS) : zK Γ layC nC ad 4 (some .int) 0 [some (.ref (ad 0)), some (.int p1), some (.int p2), some (.int p3)] [] σ (f_X7_event p1 p2 p3 σ) some := by
  unfold f_X7_event
  refine z_iload_n hC dX7_event_0 rfl ?_
  refine z_aload_n hC dX7_event_1 rfl ?_
  refine z_getr hC wf_X7_19 dX7_event_2 ltC_0 layC_0 rfl ?_
  refine z_geti hC wf_X7_110 dX7_event_5 ltC_5 layC_5 rfl ?_
  refine z_callSi hC [.int p1, .int (σ 5 0)] (c_X7_isThere p1 (σ 5 0)) yy_X7_isThere wl_X7_74 dX7_event_8 rfl rfl rfl (Nat.le_of_ble_eq_true rfl) (by decide) (fun r1 σ2 _ => ?_)
  refine z_if_ne hC 17 dX7_event_11 (by decide) (fun h3 => ?_) (fun h3 => ?_)
  · refine z_iload_n hC dX7_event_17 rfl ?_
    refine z_iconst hC dX7_event_18 ki_0 ?_
    refine z_sipush hC dX7_event_19 ks_1439 ?_
    refine z_callSi hC [.int p2, .int 0, .int 1439] (c_X7_isWithin p2 0 1439) yy_X7_isWithin wl_X7_95 dX7_event_22 rfl rfl rfl (Nat.le_of_ble_eq_true rfl) (by decide) (fun r4 σ5 _ => ?_)
    refine z_if_ne hC 31 dX7_event_25 (by decide) (fun h6 => ?_) (fun h6 => ?_)
    · refine z_aload_n hC dX7_event_31 rfl ?_
      refine z_aload_n hC dX7_event_32 rfl ?_
      refine z_getr hC wf_X7_26 dX7_event_33 ltC_0 layC_0 rfl ?_
      refine z_iload_n hC dX7_event_36 rfl ?_
      refine z_iload_n hC dX7_event_37 rfl ?_
      refine z_iload_n hC dX7_event_38 rfl ?_
      refine z_callVi hC [.int p1, .int p2, .int p3] (c_X2_addEvent p1 p2 p3) yy_X2_addEvent wl_X7_119 dX7_event_39 ltC_11 layC_11 vcz_X2 rfl rfl rfl (Nat.le_of_ble_eq_true rfl) (by decide) (fun r7 σ8 _ => ?_)
      refine z_callVi hC [.int r7] (c_X7_closePast r7) yy_X7_closePast wl_X7_66 dX7_event_42 ltC_0 layC_0 vcz_X7 rfl rfl rfl (Nat.le_of_ble_eq_true rfl) (by decide) (fun r9 σ10 _ => ?_)
      exact z_iret hC dX7_event_45
    · refine z_bipush hC dX7_event_28 kb_m3 ?_
      exact z_iret hC dX7_event_30
  · refine z_bipush hC dX7_event_14 kb_m2 ?_
    exact z_iret hC dX7_event_16
theorem c_X7_event (p1 : Int32) (p2 : Int32) (p3 : Int32) : zM layC nC yX7_event cX7_event 4 (some .int) (zRm 1 23) (fun ad => [.ref (ad 0), .int p1, .int p2, .int p3]) (f_X7_event p1 p2 p3) := zM_of (own := RX7) (by decide) rfl (fun ad w hw => by simp only [List.mem_cons, List.not_mem_nil, or_false] at hw; (first | exact hw.elim | (rcases hw with rfl | rfl | rfl | rfl <;> rfl))) (fun ad => Nat.le_of_ble_eq_true rfl) (fun Γ ad hC σ => w_X7_event hC p1 p2 p3 σ)
set_option maxRecDepth 100000 in
set_option maxHeartbeats 4000000 in
theorem w_X7_is {Γ : zG} {ad : Nat → Nat} (hC : zX Γ layC nC ad cX7_is RX7 3 (zRm 1 21) (some .int)) (p1 : Int32) (p2 : Int32) (σ : zS) : zK Γ layC nC ad 3 (some .int) 0 [some (.ref (ad 0)), some (.int p1), some (.int p2)] [] σ (f_X7_is p1 p2 σ) some := by
  unfold f_X7_is
  refine z_iload_n hC dX7_is_0 rfl ?_
  refine z_ite (fun h1 => ?_) (fun h1 => ?_)
  · refine z_tabIn hC 28 dX7_is_1 0 h1 (by decide) (by decide) rfl (by decide) ?_
    refine z_iload_n hC dX7_is_28 rfl ?_
    refine z_aload_n hC dX7_is_29 rfl ?_
    refine z_getr hC wf_X7_40 dX7_is_30 ltC_0 layC_0 rfl ?_
    refine z_geti hC wf_X7_179 dX7_is_33 ltC_21 layC_21 rfl ?_
    refine z_callSi hC [.int p2, .int (σ 21 0)] (c_X7_isThere p2 (σ 21 0)) yy_X7_isThere wl_X7_74 dX7_is_36 rfl rfl rfl (Nat.le_of_ble_eq_true rfl) (by decide) (fun r2 σ3 _ => ?_)
    refine z_if_eq hC 57 dX7_is_39 (by decide) (fun h4 => ?_) (fun h4 => ?_)
    · refine z_bipush hC dX7_is_57 kb_m2 ?_
      exact z_iret hC dX7_is_59
    · refine z_aload_n hC dX7_is_42 rfl ?_
      refine z_getr hC wf_X7_47 dX7_is_43 ltC_0 layC_0 rfl ?_
      refine z_getr hC wf_X7_186 dX7_is_46 ltC_24 layC_24 rfl ?_
      refine z_iload_n hC dX7_is_49 rfl ?_
      refine z_zald hC dX7_is_50 ltC_32 layC_32 (fun h5 => ?_)
      refine z_callSi hC [.int (σ3 32 p2.toNatClampNeg)] (c_X7_asNumber (σ3 32 p2.toNatClampNeg)) yy_X7_asNumber wl_X7_189 dX7_is_51 rfl rfl rfl (Nat.le_of_ble_eq_true rfl) (by decide) (fun r6 σ7 _ => ?_)
      refine z_goto hC 59 dX7_is_54 (by decide) ?_
      exact z_iret hC dX7_is_59
  refine z_ite (fun h8 => ?_) (fun h8 => ?_)
  · refine z_tabIn hC 60 dX7_is_1 1 h8 (by decide) (by decide) rfl (by decide) ?_
    refine z_iload_n hC dX7_is_60 rfl ?_
    refine z_aload_n hC dX7_is_61 rfl ?_
    refine z_getr hC wf_X7_12 dX7_is_62 ltC_0 layC_0 rfl ?_
    refine z_geti hC wf_X7_174 dX7_is_65 ltC_1 layC_1 rfl ?_
    refine z_callSi hC [.int p2, .int (σ 1 1)] (c_X7_isThere p2 (σ 1 1)) yy_X7_isThere wl_X7_74 dX7_is_68 rfl rfl rfl (Nat.le_of_ble_eq_true rfl) (by decide) (fun r9 σ10 _ => ?_)
    refine z_if_eq hC 97 dX7_is_71 (by decide) (fun h11 => ?_) (fun h11 => ?_)
    · refine z_bipush hC dX7_is_97 kb_m2 ?_
      exact z_iret hC dX7_is_99
    · refine z_aload_n hC dX7_is_74 rfl ?_
      refine z_getr hC wf_X7_47 dX7_is_75 ltC_0 layC_0 rfl ?_
      refine z_getr hC wf_X7_193 dX7_is_78 ltC_24 layC_24 rfl ?_
      refine z_iload_n hC dX7_is_81 rfl ?_
      refine z_zald hC dX7_is_82 ltC_28 layC_28 (fun h12 => ?_)
      refine z_if_ne hC 90 dX7_is_83 (by decide) (fun h13 => ?_) (fun h13 => ?_)
      · refine z_iconst hC dX7_is_90 ki_0 ?_
        refine z_callSi hC [.int 0] (c_X7_asNumber 0) yy_X7_asNumber wl_X7_189 dX7_is_91 rfl rfl rfl (Nat.le_of_ble_eq_true rfl) (by decide) (fun r14 σ15 _ => ?_)
        refine z_goto hC 99 dX7_is_94 (by decide) ?_
        exact z_iret hC dX7_is_99
      · refine z_iconst hC dX7_is_86 ki_1 ?_
        refine z_goto hC 91 dX7_is_87 (by decide) ?_
        refine z_callSi hC [.int 1] (c_X7_asNumber 1) yy_X7_asNumber wl_X7_189 dX7_is_91 rfl rfl rfl (Nat.le_of_ble_eq_true rfl) (by decide) (fun r16 σ17 _ => ?_)
        refine z_goto hC 99 dX7_is_94 (by decide) ?_
        exact z_iret hC dX7_is_99
  refine z_ite (fun h18 => ?_) (fun h18 => ?_)
  · refine z_tabIn hC 100 dX7_is_1 2 h18 (by decide) (by decide) rfl (by decide) ?_
    refine z_iload_n hC dX7_is_100 rfl ?_
    refine z_aload_n hC dX7_is_101 rfl ?_
    refine z_getr hC wf_X7_26 dX7_is_102 ltC_0 layC_0 rfl ?_
    refine z_geti hC wf_X7_177 dX7_is_105 ltC_11 layC_11 rfl ?_
    refine z_callSi hC [.int p2, .int (σ 11 0)] (c_X7_isThere p2 (σ 11 0)) yy_X7_isThere wl_X7_74 dX7_is_108 rfl rfl rfl (Nat.le_of_ble_eq_true rfl) (by decide) (fun r19 σ20 _ => ?_)
    refine z_if_eq hC 137 dX7_is_111 (by decide) (fun h21 => ?_) (fun h21 => ?_)
    · refine z_bipush hC dX7_is_137 kb_m2 ?_
      exact z_iret hC dX7_is_139
    · refine z_aload_n hC dX7_is_114 rfl ?_
      refine z_getr hC wf_X7_47 dX7_is_115 ltC_0 layC_0 rfl ?_
      refine z_getr hC wf_X7_196 dX7_is_118 ltC_24 layC_24 rfl ?_
      refine z_iload_n hC dX7_is_121 rfl ?_
      refine z_zald hC dX7_is_122 ltC_33 layC_33 (fun h22 => ?_)
      refine z_if_ne hC 130 dX7_is_123 (by decide) (fun h23 => ?_) (fun h23 => ?_)
      · refine z_iconst hC dX7_is_130 ki_0 ?_
        refine z_callSi hC [.int 0] (c_X7_asNumber 0) yy_X7_asNumber wl_X7_189 dX7_is_131 rfl rfl rfl (Nat.le_of_ble_eq_true rfl) (by decide) (fun r24 σ25 _ => ?_)
        refine z_goto hC 139 dX7_is_134 (by decide) ?_
        exact z_iret hC dX7_is_139
      · refine z_iconst hC dX7_is_126 ki_1 ?_
        refine z_goto hC 131 dX7_is_127 (by decide) ?_
        refine z_callSi hC [.int 1] (c_X7_asNumber 1) yy_X7_asNumber wl_X7_189 dX7_is_131 rfl rfl rfl (Nat.le_of_ble_eq_true rfl) (by decide) (fun r26 σ27 _ => ?_)
        refine z_goto hC 139 dX7_is_134 (by decide) ?_
        exact z_iret hC dX7_is_139
  refine z_tabOut hC 140 dX7_is_1 (by have := And.intro (lv_neT h1 (a := 0) (by decide)) (And.intro (lv_neT h8 (a := 1) (by decide)) (lv_neT h18 (a := 2) (by decide))); omega) (by decide) ?_
  refine z_bipush hC dX7_is_140 kb_m3 ?_
  exact z_iret hC dX7_is_142
theorem c_X7_is (p1 : Int32) (p2 : Int32) : zM layC nC yX7_is cX7_is 3 (some .int) (zRm 1 21) (fun ad => [.ref (ad 0), .int p1, .int p2]) (f_X7_is p1 p2) := zM_of (own := RX7) (by decide) rfl (fun ad w hw => by simp only [List.mem_cons, List.not_mem_nil, or_false] at hw; (first | exact hw.elim | (rcases hw with rfl | rfl | rfl <;> rfl))) (fun ad => Nat.le_of_ble_eq_true rfl) (fun Γ ad hC σ => w_X7_is hC p1 p2 σ)
set_option maxRecDepth 100000 in
set_option maxHeartbeats 4000000 in
theorem w_X7_left {Γ : zG} {ad : Nat → Nat} (hC : zX Γ layC nC ad cX7_left RX7 2 (zRm 1 21) (some .int)) (p1 : Int32) (σ : zS) : zK Γ layC nC ad 2 (some .int) 0 [some (.ref (ad 0)), some (.int p1)] [] σ (f_X7_left p1 σ) some := by
  unfold f_X7_left
  refine z_iload_n hC dX7_left_0 rfl ?_
  refine z_aload_n hC dX7_left_1 rfl ?_
  refine z_getr hC wf_X7_33 dX7_left_2 ltC_0 layC_0 rfl ?_
  refine z_geti hC wf_X7_178 dX7_left_5 ltC_17 layC_17 rfl ?_
  refine z_callSi hC [.int p1, .int (σ 17 0)] (c_X7_isThere p1 (σ 17 0)) yy_X7_isThere wl_X7_74 dX7_left_8 rfl rfl rfl (Nat.le_of_ble_eq_true rfl) (by decide) (fun r1 σ2 _ => ?_)
  refine z_if_eq hC 26 dX7_left_11 (by decide) (fun h3 => ?_) (fun h3 => ?_)
  · refine z_bipush hC dX7_left_26 kb_m2 ?_
    exact z_iret hC dX7_left_28
  · refine z_aload_n hC dX7_left_14 rfl ?_
    refine z_getr hC wf_X7_47 dX7_left_15 ltC_0 layC_0 rfl ?_
    refine z_getr hC wf_X7_183 dX7_left_18 ltC_24 layC_24 rfl ?_
    refine z_iload_n hC dX7_left_21 rfl ?_
    refine z_iald hC dX7_left_22 ltC_31 layC_31 (fun h4 => ?_)
    refine z_goto hC 28 dX7_left_23 (by decide) ?_
    exact z_iret hC dX7_left_28
theorem c_X7_left (p1 : Int32) : zM layC nC yX7_left cX7_left 2 (some .int) (zRm 1 21) (fun ad => [.ref (ad 0), .int p1]) (f_X7_left p1) := zM_of (own := RX7) (by decide) rfl (fun ad w hw => by simp only [List.mem_cons, List.not_mem_nil, or_false] at hw; (first | exact hw.elim | (rcases hw with rfl | rfl <;> rfl))) (fun ad => Nat.le_of_ble_eq_true rfl) (fun Γ ad hC σ => w_X7_left hC p1 σ)
set_option maxRecDepth 100000 in
set_option maxHeartbeats 4000000 in
theorem w_X7_minutes {Γ : zG} {ad : Nat → Nat} (hC : zX Γ layC nC ad cX7_minutes RX7 2 (zRm 1 22) (some .int)) (p1 : Int32) (σ : zS) : zK Γ layC nC ad 2 (some .int) 0 [some (.ref (ad 0)), some (.int p1)] [] σ (f_X7_minutes p1 σ) some := by
  unfold f_X7_minutes
  refine z_iload_n hC dX7_minutes_0 rfl ?_
  refine z_aload_n hC dX7_minutes_1 rfl ?_
  refine z_getr hC wf_X7_26 dX7_minutes_2 ltC_0 layC_0 rfl ?_
  refine z_geti hC wf_X7_177 dX7_minutes_5 ltC_11 layC_11 rfl ?_
  refine z_callSi hC [.int p1, .int (σ 11 0)] (c_X7_isThere p1 (σ 11 0)) yy_X7_isThere wl_X7_74 dX7_minutes_8 rfl rfl rfl (Nat.le_of_ble_eq_true rfl) (by decide) (fun r1 σ2 _ => ?_)
  refine z_if_ne hC 17 dX7_minutes_11 (by decide) (fun h3 => ?_) (fun h3 => ?_)
  · refine z_aload_n hC dX7_minutes_17 rfl ?_
    refine z_getr hC wf_X7_47 dX7_minutes_18 ltC_0 layC_0 rfl ?_
    refine z_getr hC wf_X7_196 dX7_minutes_21 ltC_24 layC_24 rfl ?_
    refine z_iload_n hC dX7_minutes_24 rfl ?_
    refine z_zald hC dX7_minutes_25 ltC_33 layC_33 (fun h4 => ?_)
    refine z_if_eq hC 33 dX7_minutes_26 (by decide) (fun h5 => ?_) (fun h5 => ?_)
    · refine z_aload_n hC dX7_minutes_33 rfl ?_
      refine z_aload_n hC dX7_minutes_34 rfl ?_
      refine z_getr hC wf_X7_26 dX7_minutes_35 ltC_0 layC_0 rfl ?_
      refine z_getr hC wf_X7_212 dX7_minutes_38 ltC_11 layC_11 rfl ?_
      refine z_iload_n hC dX7_minutes_41 rfl ?_
      refine z_iald hC dX7_minutes_42 ltC_13 layC_13 (fun h6 => ?_)
      refine z_callVi hC [.int (σ2 13 p1.toNatClampNeg)] (c_X7_minutesUntil (σ2 13 p1.toNatClampNeg)) yy_X7_minutesUntil wl_X7_215 dX7_minutes_43 ltC_0 layC_0 vcz_X7 rfl rfl rfl (Nat.le_of_ble_eq_true rfl) (by decide) (fun r7 σ8 _ => ?_)
      exact z_iret hC dX7_minutes_46
    · refine z_iconst hC dX7_minutes_29 ki_m1 ?_
      refine z_goto hC 46 dX7_minutes_30 (by decide) ?_
      exact z_iret hC dX7_minutes_46
  · refine z_bipush hC dX7_minutes_14 kb_m2 ?_
    exact z_iret hC dX7_minutes_16
theorem c_X7_minutes (p1 : Int32) : zM layC nC yX7_minutes cX7_minutes 2 (some .int) (zRm 1 22) (fun ad => [.ref (ad 0), .int p1]) (f_X7_minutes p1) := zM_of (own := RX7) (by decide) rfl (fun ad w hw => by simp only [List.mem_cons, List.not_mem_nil, or_false] at hw; (first | exact hw.elim | (rcases hw with rfl | rfl <;> rfl))) (fun ad => Nat.le_of_ble_eq_true rfl) (fun Γ ad hC σ => w_X7_minutes hC p1 σ)
set_option maxRecDepth 100000 in
set_option maxHeartbeats 4000000 in
theorem w_X7_moveWalker {Γ : zG} {ad : Nat → Nat} (hC : zX Γ layC nC ad cX7_moveWalker RX7 3 (zRm 3 73) none) (p1 : Int32) (σ : zS) : zK Γ layC nC ad 3 none 0 [some (.ref (ad 0)), some (.int p1), none] [] σ (f_X7_moveWalker p1 σ) some := by
  unfold f_X7_moveWalker
  refine z_aload_n hC dX7_moveWalker_0 rfl ?_
  refine z_getr hC wf_X7_12 dX7_moveWalker_1 ltC_0 layC_0 rfl ?_
  refine z_aload_n hC dX7_moveWalker_4 rfl ?_
  refine z_getr hC wf_X7_47 dX7_moveWalker_5 ltC_0 layC_0 rfl ?_
  refine z_getr hC wf_X7_88 dX7_moveWalker_8 ltC_24 layC_24 rfl ?_
  refine z_iload_n hC dX7_moveWalker_11 rfl ?_
  refine z_iald hC dX7_moveWalker_12 ltC_29 layC_29 (fun h1 => ?_)
  refine z_aload_n hC dX7_moveWalker_13 rfl ?_
  refine z_getr hC wf_X7_47 dX7_moveWalker_14 ltC_0 layC_0 rfl ?_
  refine z_getr hC wf_X7_92 dX7_moveWalker_17 ltC_24 layC_24 rfl ?_
  refine z_iload_n hC dX7_moveWalker_20 rfl ?_
  refine z_iald hC dX7_moveWalker_21 ltC_30 layC_30 (fun h2 => ?_)
  refine z_aload_n hC dX7_moveWalker_22 rfl ?_
  refine z_getr hC wf_X7_47 dX7_moveWalker_23 ltC_0 layC_0 rfl ?_
  refine z_getr hC wf_X7_193 dX7_moveWalker_26 ltC_24 layC_24 rfl ?_
  refine z_callVi hC [.int (σ 29 p1.toNatClampNeg), .int (σ 30 p1.toNatClampNeg), .ref (ad 28)] (c_X3_nextRoom (σ 29 p1.toNatClampNeg) (σ 30 p1.toNatClampNeg)) yy_X3_nextRoom wl_X7_265 dX7_moveWalker_29 ltC_1 layC_1 vcz_X3 rfl rfl rfl (Nat.le_of_ble_eq_true rfl) (by decide) (fun r3 σ4 _ => ?_)
  refine z_istore_n hC dX7_moveWalker_32 (lv' := [some (.ref (ad 0)), some (.int p1), some (.int r3)]) (by decide) rfl ?_
  refine z_iload_n hC dX7_moveWalker_33 rfl ?_
  refine z_iconst hC dX7_moveWalker_34 ki_m1 ?_
  refine z_icmp_ne hC 39 dX7_moveWalker_35 (by decide) (fun h5 => ?_) (fun h5 => ?_)
  · refine z_aload_n hC dX7_moveWalker_39 rfl ?_
    refine z_getr hC wf_X7_47 dX7_moveWalker_40 ltC_0 layC_0 rfl ?_
    refine z_getr hC wf_X7_88 dX7_moveWalker_43 ltC_24 layC_24 rfl ?_
    refine z_iload_n hC dX7_moveWalker_46 rfl ?_
    refine z_iload_n hC dX7_moveWalker_47 rfl ?_
    refine z_iast hC dX7_moveWalker_48 ltC_29 layC_29 (fun h6 => ?_)
    refine z_let (fun σ7 _ => ?_)
    refine z_iload_n hC dX7_moveWalker_49 rfl ?_
    refine z_aload_n hC dX7_moveWalker_50 rfl ?_
    refine z_getr hC wf_X7_47 dX7_moveWalker_51 ltC_0 layC_0 rfl ?_
    refine z_getr hC wf_X7_92 dX7_moveWalker_54 ltC_24 layC_24 rfl ?_
    refine z_iload_n hC dX7_moveWalker_57 rfl ?_
    refine z_iald hC dX7_moveWalker_58 ltC_30 layC_30 (fun h8 => ?_)
    refine z_icmp_ne hC 72 dX7_moveWalker_59 (by decide) (fun h9 => ?_) (fun h9 => ?_)
    · refine z_aload_n hC dX7_moveWalker_72 rfl ?_
      refine z_getr hC wf_X7_47 dX7_moveWalker_73 ltC_0 layC_0 rfl ?_
      refine z_iconst hC dX7_moveWalker_76 ki_3 ?_
      refine z_iload_n hC dX7_moveWalker_77 rfl ?_
      refine z_callVv hC [.int 3, .int p1] (c_X4_addRow 3 p1) yy_X4_addRow wl_X7_238 dX7_moveWalker_78 ltC_24 layC_24 vcz_X4 rfl rfl rfl (Nat.le_of_ble_eq_true rfl) (by decide) (fun r10 σ11 _ => ?_)
      exact z_vret hC dX7_moveWalker_81
    · refine z_aload_n hC dX7_moveWalker_62 rfl ?_
      refine z_getr hC wf_X7_47 dX7_moveWalker_63 ltC_0 layC_0 rfl ?_
      refine z_getr hC wf_X7_92 dX7_moveWalker_66 ltC_24 layC_24 rfl ?_
      refine z_iload_n hC dX7_moveWalker_69 rfl ?_
      refine z_iconst hC dX7_moveWalker_70 ki_m1 ?_
      refine z_iast hC dX7_moveWalker_71 ltC_30 layC_30 (fun h12 => ?_)
      refine z_let (fun σ13 _ => ?_)
      refine z_aload_n hC dX7_moveWalker_72 rfl ?_
      refine z_getr hC wf_X7_47 dX7_moveWalker_73 ltC_0 layC_0 rfl ?_
      refine z_iconst hC dX7_moveWalker_76 ki_3 ?_
      refine z_iload_n hC dX7_moveWalker_77 rfl ?_
      refine z_callVv hC [.int 3, .int p1] (c_X4_addRow 3 p1) yy_X4_addRow wl_X7_238 dX7_moveWalker_78 ltC_24 layC_24 vcz_X4 rfl rfl rfl (Nat.le_of_ble_eq_true rfl) (by decide) (fun r14 σ15 _ => ?_)
      exact z_vret hC dX7_moveWalker_81
  · exact z_vret hC dX7_moveWalker_38
theorem c_X7_moveWalker (p1 : Int32) : zM layC nC yX7_moveWalker cX7_moveWalker 3 none (zRm 3 73) (fun ad => [.ref (ad 0), .int p1]) (f_X7_moveWalker p1) := zM_of (own := RX7) (by decide) rfl (fun ad w hw => by simp only [List.mem_cons, List.not_mem_nil, or_false] at hw; (first | exact hw.elim | (rcases hw with rfl | rfl <;> rfl))) (fun ad => Nat.le_of_ble_eq_true rfl) (fun Γ ad hC σ => w_X7_moveWalker hC p1 σ)
