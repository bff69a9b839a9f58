theorem k_X4_congr {cA : Nat → ClassId} {a b : Nat → Nat} (h : ∀ j, j < 10 → a j = b j) : k_X4 cA a = k_X4 cA b := by
  unfold k_X4
  rw [h 0 (by decide), h 1 (by decide), h 2 (by decide), h 3 (by decide), h 4 (by decide), h 5 (by decide), h 6 (by decide), h 7 (by decide), h 8 (by decide), h 9 (by decide)]
def k_P (cA : Nat → ClassId) (a : Nat → Nat) (i : Nat) : va_W := (List.range i).flatMap (fun k => k_X4 cA (fun j => a (2 + 10 * k + j)))
def k_f (a : Nat → Nat) (i : Nat) : Nat → Option Nat := fun j => if j < i then some (a (2 + 10 * j)) else none
def k_Q (cA : Nat → ClassId) (a : Nat → Nat) (i : Nat) : va_W := (a 0, .inr (5, [.int 0, .ref (a 1)])) :: (a 1, .inl (cA 2, 8, .inr (.inr (.inr (.inr (k_f a i)))))) :: k_P cA a i
def k_X5 (cA : Nat → ClassId) (a : Nat → Nat) : va_W := k_Q cA a 8
theorem k_P_congr {cA : Nat → ClassId} {a b : Nat → Nat} {i : Nat} (h : ∀ j, j < 2 + 10 * i → a j = b j) : k_P cA a i = k_P cA b i := by
  unfold k_P
  rw [List.flatMap_def, List.flatMap_def]
  congr 1
  apply List.map_congr_left
  intro k hk
  have hk := List.mem_range.mp hk
  exact k_X4_congr (fun j hj => h _ (by omega))
theorem k_P_succ {cA : Nat → ClassId} {a : Nat → Nat} {i : Nat} : k_P cA a (i + 1) = k_P cA a i ++ k_X4 cA (fun j => a (2 + 10 * i + j)) := by
  unfold k_P
  rw [List.range_succ, List.flatMap_append]
  simp
theorem k_X5_congr {cA : Nat → ClassId} {a b : Nat → Nat} (h : ∀ j, j < 82 → a j = b j) : k_X5 cA a = k_X5 cA b := by
  unfold k_X5 k_Q
  rw [k_P_congr (i := 8) (b := b) (fun j hj => h j (by omega)), h 0 (by decide), h 1 (by decide)]
  have : k_f a 8 = k_f b 8 := by
    funext j
    unfold k_f
    by_cases hj : j < 8
    · rw [if_pos hj, if_pos hj, h _ (by omega)]
    · rw [if_neg hj, if_neg hj]
  rw [this]
set_option maxRecDepth 100000 in
set_option maxHeartbeats 4000000 in
theorem t_X5_init {Γ : zG} {h0 : Nat} (hC : yX Γ cX5_init RX5 2 { frames := 2, cells := 81, slots := 1304, locals := 32 } none true) :
    ∀ (n i : Nat) (a : Nat → Nat), i + n = 8 → a 0 = h0 → yK Γ 2 (1 + 10 * i) (8 + 162 * i) (yQ Γ h0 81 1304 k_X5) 15 [some (.ref h0), some (.int (nI i))] [] (k_Q (y_cA Γ) a i ++ y_W0 Γ) := by
  intro n
  induction n with
  | zero =>
    intro i a hi ha
    have hi : i = 8 := by omega
    subst hi
    refine y_iload_n hC dX5_init_15 rfl ?_
    refine y_bipush hC dX5_init_16 kb_8 ?_
    refine y_icmp_ge hC 40 dX5_init_18 (by decide) (fun h => ?_) (fun h => absurd (by decide) h)
    exact y_vret hC a ha rfl dX5_init_40
  | succ n ih =>
    intro i a hi ha
    have hi8 : i < 8 := by omega
    refine y_iload_n hC dX5_init_15 rfl ?_
    refine y_bipush hC dX5_init_16 kb_8 ?_
    refine y_icmp_ge hC 40 dX5_init_18 (by decide) (fun h => absurd h (nI_ge hi8 (by decide))) (fun h => ?_)
    refine y_aload_n hC dX5_init_21 rfl ?_
    have he : (k_Q (y_cA Γ) a i ++ y_W0 Γ)[0]? = some (h0, .inr (5, [.int 0, .ref (a 1)])) := by rw [← ha]; rfl
    refine y_getr hC wf_X5_11 dX5_init_22 he rfl ?_
    refine y_iload_n hC dX5_init_25 rfl ?_
    refine y_new (ci := 4) (fs := [.int 0, .int 0, .int 0, .int 0, .int 0, .int 0, .null, .null, .null, .null, .null, .null, .null, .null, .null]) hC tyX4 tyX4_ok vcz_X4 inz_X4 wi_cl_X5_9 wi_X4_k wi_X4_n dX5_init_26 wi_X4_d ⟨by show 1 + 10 * i + 1 ≤ 81; omega, by show 8 + 162 * i + 15 ≤ 1304; omega⟩ (fun q => ?_)
    refine y_dup hC dX5_init_29 rfl ?_
    refine y_callN (host := "TurnClock") hC i_X4 (by decide) wi_X4_i wi_X4_n wi_X4_c wi_X4_y dX5_init_30 (Nat.le_of_ble_eq_true rfl) (by decide) ⟨by show 1 + 10 * i + 1 + 9 ≤ 81; omega, by show 8 + 162 * i + 15 + 147 ≤ 1304; omega⟩ (fun a' ha' => ?_)
    have hin : (nI i).toNatClampNeg = i := nI_clamp (by omega)
    have hzi : z_in (nI i) 8 := ⟨by rw [hin]; exact hi8, nI_pos (by omega)⟩
    let a2 : Nat → Nat := fun k => if k < 2 + 10 * i then a k else a' (k - (2 + 10 * i))
    have hlt : ∀ j, j < 2 + 10 * i → a j = a2 j := fun j hj => by show _ = if _ then _ else _; rw [if_pos hj]
    have hge : ∀ j, a2 (2 + 10 * i + j) = a' j := fun j => by
      show (if _ then _ else _) = _
      rw [if_neg (by omega)]
      congr 1
      omega
    have hb4 : k_X4 (y_cA Γ) a' = k_X4 (y_cA Γ) (fun j => a2 (2 + 10 * i + j)) := k_X4_congr (fun j _ => (hge j).symm)
    have hf2 : va_up (k_f a i) i (some q) = k_f a2 (i + 1) := by
      funext j
      unfold k_f va_up
      by_cases h1 : j = i
      · subst h1
        rw [if_pos rfl, if_pos (by omega)]
        have := hge 0
        rw [Nat.add_zero] at this
        rw [this, ha']
      · rw [if_neg h1]
        show (if j < i then some (a (2 + 10 * j)) else none) = _
        by_cases h2 : j < i
        · rw [if_pos h2, if_pos (by omega), hlt _ (by omega)]
        · rw [if_neg h2, if_neg (by omega)]
    refine y_aast (q0 := 1) (w2 := k_Q (y_cA Γ) a2 (i + 1) ++ y_W0 Γ) (f := k_f a i) (k := 8) hC dX5_init_33 rfl (vs := [.int 0, .int 0, .int 0, .int 1, .int 0, .int 0, .ref (a' 1), .ref (a' 2), .ref (a' 3), .ref (a' 4), .ref (a' 5), .ref (a' 6), .ref (a' 7), .ref (a' 8), .ref (a' 9)]) ?_ hzi ?_ ?_
    · rw [← ha']
      exact List.mem_append_left _ (List.mem_append_right _ List.mem_cons_self)
    · rw [hin, hf2]
      unfold k_Q
      rw [k_P_succ, ← hb4, ← k_P_congr hlt, ← hlt 0 (by omega), ← hlt 1 (by omega)]
      rfl
    refine y_iinc hC dX5_init_34 (lv' := [some (.ref h0), some (.int (nI i + 1))]) rfl (by decide) ki_1 rfl ?_
    refine y_goto hC 15 dX5_init_37 (by decide) ?_
    have := ih (i + 1) a2 (by omega) (by rw [← hlt 0 (by omega)]; exact ha)
    rw [nI_succ] at this
    have e1 : 1 + 10 * (i + 1) = 1 + 10 * i + 1 + 9 := by omega
    have e2 : 8 + 162 * (i + 1) = 8 + 162 * i + 15 + 147 := by omega
    rw [e1, e2] at this
    exact this
set_option maxRecDepth 100000 in
set_option maxHeartbeats 4000000 in
theorem i_X5 : yM yX5_init cX5_init 2 { frames := 2, cells := 81, slots := 1304, locals := 32 } 81 1304 5 [.int 0, .null] k_X5 := by
  refine yM_of (own := RX5) (by decide) rfl rfl (by decide) (fun Γ h0 hC => ?_)
  refine y_aload_n hC dX5_init_0 rfl ?_
  refine y_objI hC wi_X5_ob wi_ob1 wi_ob2 dX5_init_1 (by decide) ?_
  refine y_aload_n hC dX5_init_4 rfl ?_
  refine y_bipush hC dX5_init_5 kb_8 ?_
  refine y_newM (N := 8) hC wi_cl_X5_9 dX5_init_7 (by decide) (by decide) (fun q1 => ?_)
  show yK Γ 2 _ _ _ _ _ _ ([(h0, .inr (5, [.int 0, .null])), (q1, .inl (y_cA Γ 2, 8, .inr (.inr (.inr (.inr (fun _ => none))))))] ++ y_W0 Γ)
  refine y_putF (ty := .array (.object "TurnClock$Moment")) hC wf_X5_11 tyX5 tyX5_ok nmX5 rfl rfl (by decide +kernel) rfl rfl (Nat.le_of_ble_eq_true rfl) dX5_init_10 ?_
  refine y_iconst hC dX5_init_13 ki_0 ?_
  refine y_istore_n hC dX5_init_14 (lv' := [some (.ref h0), some (.int 0)]) (by decide) rfl ?_
  have hk : k_f (fun j => if j = 0 then h0 else q1) 0 = (fun _ => none) := by
    funext j
    unfold k_f
    rw [if_neg (by omega)]
  have := t_X5_init hC 8 0 (fun j => if j = 0 then h0 else q1) rfl rfl
  unfold k_Q at this
  rw [hk] at this
  exact this
def k_X7 (cA : Nat → ClassId) (a : Nat → Nat) : va_W := (a 0, .inr (7, [.ref (a 1), .ref (a 5), .ref (a 11), .ref (a 17), .ref (a 21), .ref (a 24), .ref (a 34), .ref (a 116), .int 0])) :: (k_X3 cA (fun j => a (1 + j)) ++ k_X1 cA (fun j => a (5 + j)) ++ k_X2 cA (fun j => a (11 + j)) ++ k_X6 cA (fun j => a (17 + j)) ++ k_X0 cA (fun j => a (21 + j)) ++ k_X4 cA (fun j => a (24 + j)) ++ k_X5 cA (fun j => a (34 + j)) ++ [(a 116, .inl (cA 1, 12, .inl (fun _ => 0)))])
set_option maxRecDepth 100000 in
set_option maxHeartbeats 4000000 in
theorem i_X7 : yM yX7_init cX7_init 1 { frames := 3, cells := 116, slots := 1865, locals := 60 } 116 1865 7 [.null, .null, .null, .null, .null, .null, .null, .null, .int 0] k_X7 := by
  refine yM_of (own := RX7) (by decide) rfl rfl (by decide) (fun Γ h0 hC => ?_)
  refine y_aload_n hC dX7_init_0 rfl ?_
  refine y_objI hC wi_X7_ob wi_ob1 wi_ob2 dX7_init_1 (by decide) ?_
  show yK Γ 1 _ _ _ _ _ _ (((h0, .inr (7, [.null, .null, .null, .null, .null, .null, .null, .null, .int 0])) :: []) ++ y_W0 Γ)
  refine y_aload_n hC dX7_init_4 rfl ?_
  refine y_new (ci := 3) (fs := [.int 0, .int 0, .int 0, .null, .null, .null]) hC tyX3 tyX3_ok vcz_X3 inz_X3 wi_cl_X7_9 wi_X3_k wi_X3_n dX7_init_5 wi_X3_d (by decide) (fun q1 => ?_)
  refine y_dup hC dX7_init_8 rfl ?_
  refine y_callN (host := "TurnClock") hC i_X3 (by decide) wi_X3_i wi_X3_n wi_X3_c wi_X3_y dX7_init_9 (Nat.le_of_ble_eq_true rfl) (by decide) (by decide) (fun a1 ha1 => ?_)
  subst ha1
  show yK Γ 1 _ _ _ _ _ _ (((h0, .inr (7, [.null, .null, .null, .null, .null, .null, .null, .null, .int 0])) :: (k_X3 (y_cA Γ) a1)) ++ y_W0 Γ)
  refine y_putF (ty := .object "TurnClock$House") hC wf_X7_12 tyX7 tyX7_ok nmX7 rfl rfl (by decide +kernel) rfl rfl (Nat.le_of_ble_eq_true rfl) dX7_init_12 ?_
  show yK Γ 1 _ _ _ _ _ _ (((h0, .inr (7, [.ref (a1 0), .null, .null, .null, .null, .null, .null, .null, .int 0])) :: (k_X3 (y_cA Γ) a1)) ++ y_W0 Γ)
  refine y_aload_n hC dX7_init_15 rfl ?_
  refine y_new (ci := 1) (fs := [.int 0, .null, .null, .null, .null, .null]) hC tyX1 tyX1_ok vcz_X1 inz_X1 wi_cl_X7_16 wi_X1_k wi_X1_n dX7_init_16 wi_X1_d (by decide) (fun q2 => ?_)
  refine y_dup hC dX7_init_19 rfl ?_
  refine y_callN (host := "TurnClock") hC i_X1 (by decide) wi_X1_i wi_X1_n wi_X1_c wi_X1_y dX7_init_20 (Nat.le_of_ble_eq_true rfl) (by decide) (by decide) (fun a2 ha2 => ?_)
  subst ha2
  show yK Γ 1 _ _ _ _ _ _ (((h0, .inr (7, [.ref (a1 0), .null, .null, .null, .null, .null, .null, .null, .int 0])) :: (k_X3 (y_cA Γ) a1 ++ k_X1 (y_cA Γ) a2)) ++ y_W0 Γ)
  refine y_putF (ty := .object "TurnClock$Deeds") hC wf_X7_19 tyX7 tyX7_ok nmX7 rfl rfl (by decide +kernel) rfl rfl (Nat.le_of_ble_eq_true rfl) dX7_init_23 ?_
  show yK Γ 1 _ _ _ _ _ _ (((h0, .inr (7, [.ref (a1 0), .ref (a2 0), .null, .null, .null, .null, .null, .null, .int 0])) :: (k_X3 (y_cA Γ) a1 ++ k_X1 (y_cA Γ) a2)) ++ y_W0 Γ)
  refine y_aload_n hC dX7_init_26 rfl ?_
  refine y_new (ci := 2) (fs := [.int 0, .null, .null, .null, .null, .null]) hC tyX2 tyX2_ok vcz_X2 inz_X2 wi_cl_X7_23 wi_X2_k wi_X2_n dX7_init_27 wi_X2_d (by decide) (fun q3 => ?_)
  refine y_dup hC dX7_init_30 rfl ?_
  refine y_callN (host := "TurnClock") hC i_X2 (by decide) wi_X2_i wi_X2_n wi_X2_c wi_X2_y dX7_init_31 (Nat.le_of_ble_eq_true rfl) (by decide) (by decide) (fun a3 ha3 => ?_)
  subst ha3
  show yK Γ 1 _ _ _ _ _ _ (((h0, .inr (7, [.ref (a1 0), .ref (a2 0), .null, .null, .null, .null, .null, .null, .int 0])) :: (k_X3 (y_cA Γ) a1 ++ k_X1 (y_cA Γ) a2 ++ k_X2 (y_cA Γ) a3)) ++ y_W0 Γ)
  refine y_putF (ty := .object "TurnClock$Events") hC wf_X7_26 tyX7 tyX7_ok nmX7 rfl rfl (by decide +kernel) rfl rfl (Nat.le_of_ble_eq_true rfl) dX7_init_34 ?_
  show yK Γ 1 _ _ _ _ _ _ (((h0, .inr (7, [.ref (a1 0), .ref (a2 0), .ref (a3 0), .null, .null, .null, .null, .null, .int 0])) :: (k_X3 (y_cA Γ) a1 ++ k_X1 (y_cA Γ) a2 ++ k_X2 (y_cA Γ) a3)) ++ y_W0 Γ)
  refine y_aload_n hC dX7_init_37 rfl ?_
  refine y_new (ci := 6) (fs := [.int 0, .null, .null, .null]) hC tyX6 tyX6_ok vcz_X6 inz_X6 wi_cl_X7_30 wi_X6_k wi_X6_n dX7_init_38 wi_X6_d (by decide) (fun q4 => ?_)
  refine y_dup hC dX7_init_41 rfl ?_
  refine y_callN (host := "TurnClock") hC i_X6 (by decide) wi_X6_i wi_X6_n wi_X6_c wi_X6_y dX7_init_42 (Nat.le_of_ble_eq_true rfl) (by decide) (by decide) (fun a4 ha4 => ?_)
  subst ha4
  show yK Γ 1 _ _ _ _ _ _ (((h0, .inr (7, [.ref (a1 0), .ref (a2 0), .ref (a3 0), .null, .null, .null, .null, .null, .int 0])) :: (k_X3 (y_cA Γ) a1 ++ k_X1 (y_cA Γ) a2 ++ k_X2 (y_cA Γ) a3 ++ k_X6 (y_cA Γ) a4)) ++ y_W0 Γ)
  refine y_putF (ty := .object "TurnClock$Timers") hC wf_X7_33 tyX7 tyX7_ok nmX7 rfl rfl (by decide +kernel) rfl rfl (Nat.le_of_ble_eq_true rfl) dX7_init_45 ?_
  show yK Γ 1 _ _ _ _ _ _ (((h0, .inr (7, [.ref (a1 0), .ref (a2 0), .ref (a3 0), .ref (a4 0), .null, .null, .null, .null, .int 0])) :: (k_X3 (y_cA Γ) a1 ++ k_X1 (y_cA Γ) a2 ++ k_X2 (y_cA Γ) a3 ++ k_X6 (y_cA Γ) a4)) ++ y_W0 Γ)
  refine y_aload_n hC dX7_init_48 rfl ?_
  refine y_new (ci := 0) (fs := [.int 0, .null, .null]) hC tyX0 tyX0_ok vcz_X0 inz_X0 wi_cl_X7_37 wi_X0_k wi_X0_n dX7_init_49 wi_X0_d (by decide) (fun q5 => ?_)
  refine y_dup hC dX7_init_52 rfl ?_
  refine y_callN (host := "TurnClock") hC i_X0 (by decide) wi_X0_i wi_X0_n wi_X0_c wi_X0_y dX7_init_53 (Nat.le_of_ble_eq_true rfl) (by decide) (by decide) (fun a5 ha5 => ?_)
  subst ha5
  show yK Γ 1 _ _ _ _ _ _ (((h0, .inr (7, [.ref (a1 0), .ref (a2 0), .ref (a3 0), .ref (a4 0), .null, .null, .null, .null, .int 0])) :: (k_X3 (y_cA Γ) a1 ++ k_X1 (y_cA Γ) a2 ++ k_X2 (y_cA Γ) a3 ++ k_X6 (y_cA Γ) a4 ++ k_X0 (y_cA Γ) a5)) ++ y_W0 Γ)
  refine y_putF (ty := .object "TurnClock$Daemons") hC wf_X7_40 tyX7 tyX7_ok nmX7 rfl rfl (by decide +kernel) rfl rfl (Nat.le_of_ble_eq_true rfl) dX7_init_56 ?_
  show yK Γ 1 _ _ _ _ _ _ (((h0, .inr (7, [.ref (a1 0), .ref (a2 0), .ref (a3 0), .ref (a4 0), .ref (a5 0), .null, .null, .null, .int 0])) :: (k_X3 (y_cA Γ) a1 ++ k_X1 (y_cA Γ) a2 ++ k_X2 (y_cA Γ) a3 ++ k_X6 (y_cA Γ) a4 ++ k_X0 (y_cA Γ) a5)) ++ y_W0 Γ)
  refine y_aload_n hC dX7_init_59 rfl ?_
  refine y_new (ci := 4) (fs := [.int 0, .int 0, .int 0, .int 0, .int 0, .int 0, .null, .null, .null, .null, .null, .null, .null, .null, .null]) hC tyX4 tyX4_ok vcz_X4 inz_X4 wi_cl_X7_44 wi_X4_k wi_X4_n dX7_init_60 wi_X4_d (by decide) (fun q6 => ?_)
  refine y_dup hC dX7_init_63 rfl ?_
  refine y_callN (host := "TurnClock") hC i_X4 (by decide) wi_X4_i wi_X4_n wi_X4_c wi_X4_y dX7_init_64 (Nat.le_of_ble_eq_true rfl) (by decide) (by decide) (fun a6 ha6 => ?_)
  subst ha6
  show yK Γ 1 _ _ _ _ _ _ (((h0, .inr (7, [.ref (a1 0), .ref (a2 0), .ref (a3 0), .ref (a4 0), .ref (a5 0), .null, .null, .null, .int 0])) :: (k_X3 (y_cA Γ) a1 ++ k_X1 (y_cA Γ) a2 ++ k_X2 (y_cA Γ) a3 ++ k_X6 (y_cA Γ) a4 ++ k_X0 (y_cA Γ) a5 ++ k_X4 (y_cA Γ) a6)) ++ y_W0 Γ)
  refine y_putF (ty := .object "TurnClock$Moment") hC wf_X7_47 tyX7 tyX7_ok nmX7 rfl rfl (by decide +kernel) rfl rfl (Nat.le_of_ble_eq_true rfl) dX7_init_67 ?_
  show yK Γ 1 _ _ _ _ _ _ (((h0, .inr (7, [.ref (a1 0), .ref (a2 0), .ref (a3 0), .ref (a4 0), .ref (a5 0), .ref (a6 0), .null, .null, .int 0])) :: (k_X3 (y_cA Γ) a1 ++ k_X1 (y_cA Γ) a2 ++ k_X2 (y_cA Γ) a3 ++ k_X6 (y_cA Γ) a4 ++ k_X0 (y_cA Γ) a5 ++ k_X4 (y_cA Γ) a6)) ++ y_W0 Γ)
  refine y_aload_n hC dX7_init_70 rfl ?_
  refine y_new (ci := 5) (fs := [.int 0, .null]) hC tyX5 tyX5_ok vcz_X5 inz_X5 wi_cl_X7_51 wi_X5_k wi_X5_n dX7_init_71 wi_X5_d (by decide) (fun q7 => ?_)
  refine y_dup hC dX7_init_74 rfl ?_
  refine y_callI hC i_X5 wi_X7_past wi_X5_i wi_X5_n wi_X5_c wi_X5_y dX7_init_75 (Nat.le_of_ble_eq_true rfl) (by decide) (by decide) (fun a7 ha7 => ?_)
  subst ha7
  show yK Γ 1 _ _ _ _ _ _ (((h0, .inr (7, [.ref (a1 0), .ref (a2 0), .ref (a3 0), .ref (a4 0), .ref (a5 0), .ref (a6 0), .null, .null, .int 0])) :: (k_X3 (y_cA Γ) a1 ++ k_X1 (y_cA Γ) a2 ++ k_X2 (y_cA Γ) a3 ++ k_X6 (y_cA Γ) a4 ++ k_X0 (y_cA Γ) a5 ++ k_X4 (y_cA Γ) a6 ++ k_X5 (y_cA Γ) a7)) ++ y_W0 Γ)
  refine y_putF (ty := .object "TurnClock$Past") hC wf_X7_54 tyX7 tyX7_ok nmX7 rfl rfl (by decide +kernel) rfl rfl (Nat.le_of_ble_eq_true rfl) dX7_init_78 ?_
  show yK Γ 1 _ _ _ _ _ _ (((h0, .inr (7, [.ref (a1 0), .ref (a2 0), .ref (a3 0), .ref (a4 0), .ref (a5 0), .ref (a6 0), .ref (a7 0), .null, .int 0])) :: (k_X3 (y_cA Γ) a1 ++ k_X1 (y_cA Γ) a2 ++ k_X2 (y_cA Γ) a3 ++ k_X6 (y_cA Γ) a4 ++ k_X0 (y_cA Γ) a5 ++ k_X4 (y_cA Γ) a6 ++ k_X5 (y_cA Γ) a7)) ++ y_W0 Γ)
  refine y_aload_n hC dX7_init_81 rfl ?_
  refine y_bipush hC dX7_init_82 kb_12 ?_
  refine y_newZ (N := 12) hC wi_aZ dX7_init_84 (by decide) (by decide) (fun q8 => ?_)
  show yK Γ 1 _ _ _ _ _ _ (((h0, .inr (7, [.ref (a1 0), .ref (a2 0), .ref (a3 0), .ref (a4 0), .ref (a5 0), .ref (a6 0), .ref (a7 0), .null, .int 0])) :: (k_X3 (y_cA Γ) a1 ++ k_X1 (y_cA Γ) a2 ++ k_X2 (y_cA Γ) a3 ++ k_X6 (y_cA Γ) a4 ++ k_X0 (y_cA Γ) a5 ++ k_X4 (y_cA Γ) a6 ++ k_X5 (y_cA Γ) a7 ++ [(q8, .inl (y_cA Γ 1, 12, .inl (fun _ => 0)))])) ++ y_W0 Γ)
  refine y_putF (ty := .array .boolean) hC wf_X7_58 tyX7 tyX7_ok nmX7 rfl rfl (by decide +kernel) rfl rfl (Nat.le_of_ble_eq_true rfl) dX7_init_86 ?_
  refine y_vret hC (fun j => if j = 0 then h0 else if j < 5 then a1 (j - 1) else if j < 11 then a2 (j - 5) else if j < 17 then a3 (j - 11) else if j < 21 then a4 (j - 17) else if j < 24 then a5 (j - 21) else if j < 34 then a6 (j - 24) else if j < 116 then a7 (j - 34) else q8) rfl ?_ dX7_init_89
  unfold k_X7
  rw [← k_X5_congr (a := a7) (b := fun j => (fun j => if j = 0 then h0 else if j < 5 then a1 (j - 1) else if j < 11 then a2 (j - 5) else if j < 17 then a3 (j - 11) else if j < 21 then a4 (j - 17) else if j < 24 then a5 (j - 21) else if j < 34 then a6 (j - 24) else if j < 116 then a7 (j - 34) else q8) (34 + j)) (fun j hj => by show _ = if _ then _ else _; rw [if_neg (by omega), if_neg (by omega), if_neg (by omega), if_neg (by omega), if_neg (by omega), if_neg (by omega), if_neg (by omega), if_pos (by omega)]; congr 1; omega)]
  rfl
def s0_m : Nat → Int32 := fun j => if j = 3 then 1 else 0
def s0_C : zS := fun k => match k with
  | 24 => s0_m
  | 35 => fun j => nI (j + 1)
  | 36 => s0_m
  | 46 => s0_m
  | 56 => s0_m
  | 66 => s0_m
  | 76 => s0_m
  | 86 => s0_m
  | 96 => s0_m
  | 106 => s0_m
  | _ => fun _ => 0
def s0_M : zS := fun k => match k with
  | 0 => s0_m
  | _ => fun _ => 0
theorem y_arrV_congr {c : ClassId} {N : Nat} {f g : Nat → Value} (h : ∀ j, j < N → f j = g j) : arrV c N f = arrV c N g := by
  unfold arrV
  congr 1
  apply congrArg
  funext j
  exact h j.val j.isLt
def k_X7f (cA : Nat → ClassId) (a : Nat → Nat) (f : Nat → Option Nat) : va_W := (k_X7 cA a).set 35 (a 35, .inl (cA 2, 8, .inr (.inr (.inr (.inr f)))))
set_option maxRecDepth 100000 in
set_option maxHeartbeats 4000000 in
theorem k_X7_wd (cA : Nat → ClassId) (a : Nat → Nat) : k_X7f cA a (fun j => some (a (z_mo (s0_C 35 j).toNatClampNeg))) = z_wd layC nC a cA s0_C := rfl
set_option maxRecDepth 100000 in
set_option maxHeartbeats 4000000 in
theorem k_X8_wd (cA : Nat → ClassId) (a : Nat → Nat) : k_X8 cA a = z_wd layM nM a cA s0_M := rfl
theorem y_D_fst {A : Nat → Prop} {w1 w2 : va_W} (h : w1.map Prod.fst = w2.map Prod.fst) (hD : va_D A w1) : va_D A w2 := by
  rw [y_D_iff] at hD ⊢
  refine ⟨h ▸ hD.1, fun q hq => ?_⟩
  have : q.1 ∈ w1.map Prod.fst := by rw [h]; exact List.mem_map_of_mem hq
  obtain ⟨q', hq', e⟩ := List.mem_map.mp this
  rw [← e]
  exact hD.2 q' hq'
theorem z_wd_fst {lay : Nat → zL} {n : Nat} {ad : Nat → Nat} {cA : Nat → ClassId} {σ : zS} : (z_wd lay n ad cA σ).map Prod.fst = (List.range n).map ad := by
  unfold z_wd
  rw [List.map_map]
  rfl
theorem z_D_all {A : Nat → Prop} {lay : Nat → zL} {n : Nat} {ad : Nat → Nat} {cA : Nat → ClassId} {σ : zS} {W0 : va_W} (h : va_D A (z_wd lay n ad cA σ ++ W0)) : ∀ σ', va_D A (z_wd lay n ad cA σ' ++ W0) := fun σ' => y_D_fst (by rw [List.map_append, List.map_append, z_wd_fst, z_wd_fst]) h
set_option maxRecDepth 100000 in
set_option maxHeartbeats 4000000 in
theorem k_X7_start {D : va_G} {cA : Nat → ClassId} {a : Nat → Nat} {W0 : va_W} {H : Heap} {A : Nat → Prop} (hP : va_P D vwCl (k_X7 cA a ++ W0) H) (hD : va_D A (k_X7 cA a ++ W0)) : va_P D vwCl (z_wd layC nC a cA s0_C ++ W0) H ∧ ∀ σ', va_D A (z_wd layC nC a cA σ' ++ W0) := by
  have hp : (k_X7 cA a ++ W0)[35]? = some (a 35, .inl (cA 2, 8, .inr (.inr (.inr (.inr (k_f (fun j => a (34 + j)) 8)))))) := rfl
  have he : va_at D vwCl (a 35, .inl (cA 2, 8, .inr (.inr (.inr (.inr (fun j => some (a (z_mo (s0_C 35 j).toNatClampNeg)))))))) H := by
    have h1 := hP 35 _ hp
    show H[a 35]? = some (vp_cell _ _)
    have h2 : H[a 35]? = some (vp_cell (cA 2) (8, .inr (.inr (.inr (.inr (k_f (fun j => a (34 + j)) 8)))))) := h1
    rw [h2, vp_cell_q, vp_cell_q]
    congr 1
  have hP2 := va_P.set hP hD hp he (fun _ _ => rfl)
  have hD2 := va_D.set (e := .inl (cA 2, 8, .inr (.inr (.inr (.inr (fun j => some (a (z_mo (s0_C 35 j).toNatClampNeg)))))))) hD hp
  have e2 : (k_X7 cA a ++ W0).set 35 (a 35, .inl (cA 2, 8, .inr (.inr (.inr (.inr (fun j => some (a (z_mo (s0_C 35 j).toNatClampNeg)))))))) = z_wd layC nC a cA s0_C ++ W0 := by
    rw [← k_X7_wd]
    rfl
  rw [e2] at hP2 hD2
  exact ⟨hP2, z_D_all hD2⟩
theorem k_X8_start {D : va_G} {cA : Nat → ClassId} {a : Nat → Nat} {W0 : va_W} {H : Heap} {A : Nat → Prop} (hP : va_P D vwCl (k_X8 cA a ++ W0) H) (hD : va_D A (k_X8 cA a ++ W0)) : va_P D vwCl (z_wd layM nM a cA s0_M ++ W0) H ∧ ∀ σ', va_D A (z_wd layM nM a cA σ' ++ W0) := by
  rw [k_X8_wd] at hP hD
  exact ⟨hP, z_D_all hD⟩
