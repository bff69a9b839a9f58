def Sm (R : zS → zS → Prop) (f g : zS → Option (Int32 × zS)) : Prop := ∀ σ τ, R σ τ → ∃ (r : Int32) (σ1 τ1 : zS), f σ = some (r, σ1) ∧ g τ = some (r, τ1) ∧ R σ1 τ1
def SmAll (R : zS → zS → Prop) : Prop := R s0_C s0_M ∧ Sm R f_X7_room f_X8_room ∧ (∀ a b, Sm R (f_X7_door a b) (f_X8_door a b)) ∧ (∀ a, Sm R (f_X7_walker a) (f_X8_walker a)) ∧ (∀ a b c, Sm R (f_X7_deed a b c) (f_X8_deed a b c)) ∧ (∀ a b c, Sm R (f_X7_condition a b c) (f_X8_condition a b c)) ∧ (∀ a b c, c = 0 ∨ c = 1 → Sm R (f_X7_event a b c) (f_X8_event a b c)) ∧ (∀ a b c, c = 0 ∨ c = 1 → Sm R (f_X7_timer a b c) (f_X8_timer a b c)) ∧ (∀ a b, Sm R (f_X7_daemon a b) (f_X8_daemon a b)) ∧ (∀ a, Sm R (f_X7_act a) (f_X8_act a)) ∧ (∀ a, Sm R (f_X7_pace a) (f_X8_pace a)) ∧ Sm R f_X7_turn f_X8_turn ∧ Sm R f_X7_back f_X8_back ∧ (∀ a, Sm R (f_X7_told a) (f_X8_told a)) ∧ (∀ a, Sm R (f_X7_count a) (f_X8_count a)) ∧ (∀ a, Sm R (f_X7_counter a) (f_X8_counter a)) ∧ (∀ a, Sm R (f_X7_left a) (f_X8_left a)) ∧ (∀ a b, Sm R (f_X7_is a b) (f_X8_is a b)) ∧ (∀ a b, Sm R (f_X7_walks a b) (f_X8_walks a b)) ∧ (∀ a b, Sm R (f_X7_way a b) (f_X8_way a b)) ∧ (∀ a b, Sm R (f_X7_row a b) (f_X8_row a b)) ∧ (∀ a, Sm R (f_X7_minutes a) (f_X8_minutes a))
def lX (Γ : zG) (aC aM : Nat → Nat) (b L : Nat) (xs : Nat → Int32) : Prop := match Γ with
  | (p, l, e, R, s, m, args, below, meth, c, cA, D, W0, lo) => p.tables.exec = Jvm.exec ∧ c.code = code ∧ c.maxLocals = 4 ∧ s.vm.findClass RL = some m.cls ∧ (∀ w ∈ z_TB, w.before args s = true) ∧ va_K D vwCl (z_ty cA) s ∧ z_N s ∧ (∀ σ τ, va_D (fun q => lo ≤ q) (z_wd layC nC aC cA σ ++ z_wd layM nM aM cA τ)) ∧ R = room_1 ∧ meth.sig.returnType = ret ∧ meth.locks = false ∧ args = #[Value.ref b] ∧ va_X b L xs s s.heap ∧ b < s.heap.size ∧ lo = s.heap.size
def lK (Γ : zG) (aC aM : Nat → Nat) (pc : Nat) (lv : List (Option Value)) (st : List Value) (σ τ : zS) : Prop := match Γ with
  | (p, l, e, R, s, m, args, below, meth, c, cA, D, W0, lo) => ∀ (ls : Array Slot) (H : Heap) (locs : List Loc), z_h ls 4 lv → va_P D vwCl (z_wd layC nC aC cA σ ++ z_wd layM nM aM cA τ) H → va_S (fun q => lo ≤ q) s.heap H locs → W p l e R s m args below meth c H locs 600000 7302250 (lw_Z below args s) (F0 m pc ls st)
section LR
variable {Γ : zG} {aC aM : Nat → Nat} {b L : Nat} {xs : Nat → Int32} {pc : Nat} {lv : List (Option Value)} {st : List Value} {σ τ : zS}
theorem l_aload_n (hC : lX Γ aC aM b L xs) {k : Fin 4} {x : Nat} (hd : decode code pc = .ok (.aload_n k, 1)) (hv : lv[(k : Nat)]? = some (some (.ref x))) (kk : lK Γ aC aM (pc + 1) lv (.ref x :: st) σ τ) : lK Γ aC aM pc lv st σ τ := by
  obtain ⟨p, l, en, R, s, m, args, below, meth, c, cA, D, W0, lo⟩ := Γ
  obtain ⟨hx, hb, -⟩ := hC
  intro ls H locs hl hP hS
  exact lv_aload_n hx hb hd rfl (hl.2.2 _ _ hv).1 (kk ls H locs hl hP hS)
theorem l_iload_n (hC : lX Γ aC aM b L xs) {k : Fin 4} {x : Int32} (hd : decode code pc = .ok (.iload_n k, 1)) (hv : lv[(k : Nat)]? = some (some (.int x))) (kk : lK Γ aC aM (pc + 1) lv (.int x :: st) σ τ) : lK Γ aC aM pc lv st σ τ := by
  obtain ⟨p, l, en, R, s, m, args, below, meth, c, cA, D, W0, lo⟩ := Γ
  obtain ⟨hx, hb, -⟩ := hC
  intro ls H locs hl hP hS
  exact lv_iload_n hx hb hd rfl (hl.2.2 _ _ hv).1 (kk ls H locs hl hP hS)
theorem l_iconst (hC : lX Γ aC aM b L xs) {k : Int} {v : Int32} (hd : decode code pc = .ok (.iconst k, 1)) (hv : Int32.ofInt k = v) (kk : lK Γ aC aM (pc + 1) lv (.int v :: st) σ τ) : lK Γ aC aM pc lv st σ τ := by
  obtain ⟨p, l, en, R, s, m, args, below, meth, c, cA, D, W0, lo⟩ := Γ
  obtain ⟨hx, hb, -⟩ := hC
  intro ls H locs hl hP hS
  exact lv_iconst hx hb hd hv (kk ls H locs hl hP hS)
theorem l_bipush (hC : lX Γ aC aM b L xs) {k : Int} {v : Int32} (hd : decode code pc = .ok (.bipush k, 2)) (hv : (Int8.ofInt k).toInt32 = v) (kk : lK Γ aC aM (pc + 2) lv (.int v :: st) σ τ) : lK Γ aC aM pc lv st σ τ := by
  obtain ⟨p, l, en, R, s, m, args, below, meth, c, cA, D, W0, lo⟩ := Γ
  obtain ⟨hx, hb, -⟩ := hC
  intro ls H locs hl hP hS
  exact lv_bipush hx hb hd hv (kk ls H locs hl hP hS)
theorem l_iadd (hC : lX Γ aC aM b L xs) {x y : Int32} (hd : decode code pc = .ok (.iadd, 1)) (kk : lK Γ aC aM (pc + 1) lv (.int (x + y) :: st) σ τ) : lK Γ aC aM pc lv (.int y :: .int x :: st) σ τ := by
  obtain ⟨p, l, en, R, s, m, args, below, meth, c, cA, D, W0, lo⟩ := Γ
  obtain ⟨hx, hb, -⟩ := hC
  intro ls H locs hl hP hS
  exact lv_iadd hx hb hd (kk ls H locs hl hP hS)
theorem l_isub (hC : lX Γ aC aM b L xs) {x y : Int32} (hd : decode code pc = .ok (.isub, 1)) (kk : lK Γ aC aM (pc + 1) lv (.int (x - y) :: st) σ τ) : lK Γ aC aM pc lv (.int y :: .int x :: st) σ τ := by
  obtain ⟨p, l, en, R, s, m, args, below, meth, c, cA, D, W0, lo⟩ := Γ
  obtain ⟨hx, hb, -⟩ := hC
  intro ls H locs hl hP hS
  exact lv_isub hx hb hd (kk ls H locs hl hP hS)
theorem l_iand (hC : lX Γ aC aM b L xs) {x y : Int32} (hd : decode code pc = .ok (.iand, 1)) (kk : lK Γ aC aM (pc + 1) lv (.int (x &&& y) :: st) σ τ) : lK Γ aC aM pc lv (.int y :: .int x :: st) σ τ := by
  obtain ⟨p, l, en, R, s, m, args, below, meth, c, cA, D, W0, lo⟩ := Γ
  obtain ⟨hx, hb, -⟩ := hC
  intro ls H locs hl hP hS
  exact lv_iand hx hb hd (kk ls H locs hl hP hS)
theorem l_slen (hC : lX Γ aC aM b L xs) (hd : decode code pc = .ok (.arraylength, 1)) (kk : lK Γ aC aM (pc + 1) lv (.int (nI L) :: st) σ τ) : lK Γ aC aM pc lv (.ref b :: st) σ τ := by
  obtain ⟨p, l, en, R, s, m, args, below, meth, c, cA, D, W0, lo⟩ := Γ
  obtain ⟨hx, hb, hml, hown, hts, hK, hN, hD, hR, hr, hlk, ha, hX, hbl, rfl⟩ := hC
  intro ls H locs hl hP hS
  exact va_slen hx hb hX hbl (Nat.not_le.mpr hbl) hS hd (kk ls H locs hl hP hS)
theorem l_sld (hC : lX Γ aC aM b L xs) {i : Int32} (hin : vp_in i L) (hd : decode code pc = .ok (.iaload, 1)) (kk : lK Γ aC aM (pc + 1) lv (.int (xs i.toNatClampNeg) :: st) σ τ) : lK Γ aC aM pc lv (.int i :: .ref b :: st) σ τ := by
  obtain ⟨p, l, en, R, s, m, args, below, meth, c, cA, D, W0, lo⟩ := Γ
  obtain ⟨hx, hb, hml, hown, hts, hK, hN, hD, hR, hr, hlk, ha, hX, hbl, rfl⟩ := hC
  intro ls H locs hl hP hS
  exact va_sld hx hb hX hbl (Nat.not_le.mpr hbl) hS hin hd (kk ls H locs hl hP hS)
theorem l_icmp_gt (hC : lX Γ aC aM b L xs) {x y : Int32} {off : Int} (tgt : Nat) (hd : decode code pc = .ok (.if_icmp .gt off, 3)) (ht : (pc : Int) + off = (tgt : Int)) (k1 : y < x → lK Γ aC aM tgt lv st σ τ) (k2 : ¬ y < x → lK Γ aC aM (pc + 3) lv st σ τ) : lK Γ aC aM pc lv (.int y :: .int x :: st) σ τ := by
  obtain ⟨p, l, en, R, s, m, args, below, meth, c, cA, D, W0, lo⟩ := Γ
  obtain ⟨hx, hb, -⟩ := hC
  intro ls H locs hl hP hS
  exact lv_icmp_gt hx hb hd ht (fun h => k1 h ls H locs hl hP hS) (fun h => k2 h ls H locs hl hP hS)
theorem l_icmp_same (hC : lX Γ aC aM b L xs) {x : Int32} {off : Int} (tgt : Nat) (hd : decode code pc = .ok (.if_icmp .eq off, 3)) (ht : (pc : Int) + off = (tgt : Int)) (k1 : lK Γ aC aM tgt lv st σ τ) : lK Γ aC aM pc lv (.int x :: .int x :: st) σ τ := by
  obtain ⟨p, l, en, R, s, m, args, below, meth, c, cA, D, W0, lo⟩ := Γ
  obtain ⟨hx, hb, -⟩ := hC
  intro ls H locs hl hP hS
  exact lv_icmp_eq hx hb hd ht (fun h => k1 ls H locs hl hP hS) (fun h => absurd rfl h)
theorem l_if_eq (hC : lX Γ aC aM b L xs) {x : Int32} {off : Int} (tgt : Nat) (hd : decode code pc = .ok (.ifCond .eq off, 3)) (ht : (pc : Int) + off = (tgt : Int)) (k1 : x = 0 → lK Γ aC aM tgt lv st σ τ) (k2 : ¬ x = 0 → lK Γ aC aM (pc + 3) lv st σ τ) : lK Γ aC aM pc lv (.int x :: st) σ τ := by
  obtain ⟨p, l, en, R, s, m, args, below, meth, c, cA, D, W0, lo⟩ := Γ
  obtain ⟨hx, hb, -⟩ := hC
  intro ls H locs hl hP hS
  exact lv_if_eq hx hb hd ht (fun h => k1 h ls H locs hl hP hS) (fun h => k2 h ls H locs hl hP hS)
theorem l_goto (hC : lX Γ aC aM b L xs) {off : Int} (tgt : Nat) (hd : decode code pc = .ok (.goto off, 3)) (ht : (pc : Int) + off = (tgt : Int)) (kk : lK Γ aC aM tgt lv st σ τ) : lK Γ aC aM pc lv st σ τ := by
  obtain ⟨p, l, en, R, s, m, args, below, meth, c, cA, D, W0, lo⟩ := Γ
  obtain ⟨hx, hb, -⟩ := hC
  intro ls H locs hl hP hS
  exact lv_goto hx hb hd ht (kk ls H locs hl hP hS)
theorem l_iinc (hC : lX Γ aC aM b L xs) {k : Nat} {d : Int} {x v : Int32} (hd : decode code pc = .ok (.iinc k d, 3)) {lv' : List (Option Value)} (hg : lv[k]? = some (some (.int x))) (hk : k < 4) (hx : Int32.ofInt d = v) (hv : lv.set k (some (.int (x + v))) = lv') (kk : lK Γ aC aM (pc + 3) lv' st σ τ) : lK Γ aC aM pc lv st σ τ := by
  subst hv
  subst hx
  obtain ⟨p, l, en, R, s, m, args, below, meth, c, cA, D, W0, lo⟩ := Γ
  obtain ⟨hx, hb, -⟩ := hC
  intro ls H locs hl hP hS
  obtain ⟨j, hj⟩ := List.getElem?_of_mem (z_pr_mem.mpr hg)
  exact lv_iinc hx hb hd (z_h_has hl) hj rfl hk rfl (fun ls' h' => kk ls' H locs (z_h_set hl rfl h') hP hS)
theorem l_tabIn (hC : lX Γ aC aM b L xs) {dflt lo hi off : Int} {offs : Array Int} {len : Nat} {x : Int32} (tgt : Nat) (hd : decode code pc = .ok (.tableswitch dflt lo hi offs, len)) (v : Int32) (hxv : x = v) (h1 : ¬ v.toInt < lo) (h2 : ¬ hi < v.toInt) (ho1 : offs[(v.toInt - lo).toNat]? = some off) (ht : (pc : Int) + off = (tgt : Int)) (kk : lK Γ aC aM tgt lv st σ τ) : lK Γ aC aM pc lv (.int x :: st) σ τ := by
  subst hxv
  obtain ⟨p, l, en, R, s, m, args, below, meth, c, cA, D, W0, lo⟩ := Γ
  obtain ⟨hx, hb, -⟩ := hC
  intro ls H locs hl hP hS
  exact lv_tableIn hx hb hd h1 h2 ho1 ht (kk ls H locs hl hP hS)
theorem l_tabOut (hC : lX Γ aC aM b L xs) {dflt lo hi : Int} {offs : Array Int} {len : Nat} {x : Int32} (tgt : Nat) (hd : decode code pc = .ok (.tableswitch dflt lo hi offs, len)) (h : x.toInt < lo ∨ hi < x.toInt) (ht : (pc : Int) + dflt = (tgt : Int)) (kk : lK Γ aC aM tgt lv st σ τ) : lK Γ aC aM pc lv (.int x :: st) σ τ := by
  obtain ⟨p, l, en, R, s, m, args, below, meth, c, cA, D, W0, lo⟩ := Γ
  obtain ⟨hx, hb, -⟩ := hC
  intro ls H locs hl hP hS
  exact lv_tableOut hx hb hd h ht (kk ls H locs hl hP hS)
/-- 'x != 0' as a number -/
theorem l_bool (hC : lX Γ aC aM b L xs) {x : Int32} (tgt end_ : Nat) (d0 : decode code pc = .ok (.ifCond .eq 7, 3)) (d1 : decode code (pc + 3) = .ok (.iconst 1, 1)) (d2 : decode code (pc + 3 + 1) = .ok (.goto 4, 3)) (d3 : decode code tgt = .ok (.iconst 0, 1)) (ht : (pc : Int) + 7 = (tgt : Int)) (he : ((pc + 3 + 1 : Nat) : Int) + 4 = (end_ : Int)) (he2 : tgt + 1 = end_) (kk : lK Γ aC aM end_ lv (.int (if x = 0 then 0 else 1) :: st) σ τ) : lK Γ aC aM pc lv (.int x :: st) σ τ := by
  refine l_if_eq hC tgt d0 ht (fun h => ?_) (fun h => ?_)
  · refine l_iconst hC d3 ki_0 ?_
    rw [if_pos h] at kk
    rw [he2]
    exact kk
  · refine l_iconst hC d1 ki_1 ?_
    refine l_goto hC end_ d2 he ?_
    rw [if_neg h] at kk
    exact kk
theorem l_callC (hC : lX Γ aC aM b L xs) {y : MethodName} {cd : ByteArray} {mL na idx : Nat} {rmc : Room} {av : (Nat → Nat) → List Value} {f : zS → Option (Int32 × zS)} {rest : List Value} (As : List Value) (hM : zM layC nC y cd mL (some .int) rmc av f) (hY : zY y cd mL (some .int) RX7 na) (hL : Cond.methodLink RL idx y ∈ z_TB) (hd : decode code pc = .ok (.invokevirtual idx, 3)) (hav : av aC = .ref (aC 0) :: As) (hna : As.length = na) (hst : st = As.reverse ++ .ref (aC 0) :: rest) (hW : (rest.map fun v => v.category).sum ≤ 8) (hR : zR rmc mL room_1) {r : Int32} {σ1 : zS} (hf : f σ = some (r, σ1))
    (kk : lK Γ aC aM (pc + 3) lv (.int r :: rest) σ1 τ) : lK Γ aC aM pc lv st σ τ := by
  obtain ⟨p, l, en, R, s, m, args, below, meth, c, cA, D, W0, lo⟩ := Γ
  obtain ⟨hx, hb, hml, hown, hts, hK, hN, hD, rfl, hr, hlk, ha, hX, hbl, hlo⟩ := hC
  obtain ⟨y1, y2, y3, y4, y5, y6, y7, y8⟩ := hY
  obtain ⟨r1, r2, r3, r4⟩ := hR
  intro ls H locs hl1 hP hS
  subst hst
  have hM' : Met l y (.code y cd mL (some .int) :: z_TB) rmc (va_Pc (.ref (aC 0) :: As) (z_B layC nC aC cA D (z_wd layM nM aM cA τ) lo σ)) (va_Qi (fun r' u => (r', u) = (r, σ1)) (z_B layC nC aC cA D (z_wd layM nM aM cA τ) lo) (fun q => lo ≤ q)) 0 0 (fun q => lo ≤ q) := hav ▸ hM l aC cA D (z_wd layM nM aM cA τ) lo σ (r, σ1) hf
  refine va_calli (va_runV (As := As) (rest := rest) (C := RX7) ⟨hx, hb, hml, hown, hts⟩ hM' ⟨callB_of na hts (z_good y4) rfl r1 r2 (y5 ▸ hts _ y3) (hts _ hL) ⟨y6, y7, y8⟩ ⟨r3, r4⟩, hts _ y1, hts _ y2⟩ ⟨z_blind, va_recv hK hP (ci := 7) (q0 := 0) vcz_X7 (z_obj (n := nC) (lay := layC) ltC_0 layC_0), fun U hU hWm => ⟨rfl, by rw [hU]; exact hP, va_K.moved hWm.alike hK, z_N_warm hWm hN, fun σ' => hD σ' τ⟩⟩ rfl hna hl1.1 rfl (lv_room hW) hd ⟨Nat.le_of_ble_eq_true rfl, Nat.le_of_ble_eq_true rfl⟩) hS (fun q _ h => h) (fun q h => h) (fun r' u t H1 locs1 ht hvm hw hB hz1 hk1 hS1 => ?_)
  obtain ⟨rfl, rfl⟩ := Prod.mk.inj hw
  exact kk ls H1 locs1 hl1 (by rw [← ht]; exact hB.1) hS1
theorem l_callM (hC : lX Γ aC aM b L xs) {y : MethodName} {cd : ByteArray} {mL na idx : Nat} {rmc : Room} {av : (Nat → Nat) → List Value} {f : zS → Option (Int32 × zS)} {rest : List Value} (As : List Value) (hM : zM layM nM y cd mL (some .int) rmc av f) (hY : zY y cd mL (some .int) RX8 na) (hL : Cond.methodLink RL idx y ∈ z_TB) (hd : decode code pc = .ok (.invokevirtual idx, 3)) (hav : av aM = .ref (aM 0) :: As) (hna : As.length = na) (hst : st = As.reverse ++ .ref (aM 0) :: rest) (hW : (rest.map fun v => v.category).sum ≤ 8) (hR : zR rmc mL room_1) {r : Int32} {τ1 : zS} (hf : f τ = some (r, τ1))
    (kk : lK Γ aC aM (pc + 3) lv (.int r :: rest) σ τ1) : lK Γ aC aM pc lv st σ τ := by
  obtain ⟨p, l, en, R, s, m, args, below, meth, c, cA, D, W0, lo⟩ := Γ
  obtain ⟨hx, hb, hml, hown, hts, hK, hN, hD, rfl, hr, hlk, ha, hX, hbl, hlo⟩ := hC
  obtain ⟨y1, y2, y3, y4, y5, y6, y7, y8⟩ := hY
  obtain ⟨r1, r2, r3, r4⟩ := hR
  intro ls H locs hl1 hP hS
  subst hst
  have hP := y_P_perm List.perm_append_comm hP
  have hM' : Met l y (.code y cd mL (some .int) :: z_TB) rmc (va_Pc (.ref (aM 0) :: As) (z_B layM nM aM cA D (z_wd layC nC aC cA σ) lo τ)) (va_Qi (fun r' u => (r', u) = (r, τ1)) (z_B layM nM aM cA D (z_wd layC nC aC cA σ) lo) (fun q => lo ≤ q)) 0 0 (fun q => lo ≤ q) := hav ▸ hM l aM cA D (z_wd layC nC aC cA σ) lo τ (r, τ1) hf
  refine va_calli (va_runV (As := As) (rest := rest) (C := RX8) ⟨hx, hb, hml, hown, hts⟩ hM' ⟨callB_of na hts (z_good y4) rfl r1 r2 (y5 ▸ hts _ y3) (hts _ hL) ⟨y6, y7, y8⟩ ⟨r3, r4⟩, hts _ y1, hts _ y2⟩ ⟨z_blind, va_recv hK hP (ci := 8) (q0 := 0) vcz_X8 (z_obj (n := nM) (lay := layM) ltM_0 layM_0), fun U hU hWm => ⟨rfl, by rw [hU]; exact hP, va_K.moved hWm.alike hK, z_N_warm hWm hN, fun τ' => y_D_perm List.perm_append_comm (hD σ τ')⟩⟩ rfl hna hl1.1 rfl (lv_room hW) hd ⟨Nat.le_of_ble_eq_true rfl, Nat.le_of_ble_eq_true rfl⟩) hS (fun q _ h => h) (fun q h => h) (fun r' u t H1 locs1 ht hvm hw hB hz1 hk1 hS1 => ?_)
  obtain ⟨rfl, rfl⟩ := Prod.mk.inj hw
  exact kk ls H1 locs1 hl1 (y_P_perm List.perm_append_comm (by rw [← ht]; exact hB.1)) hS1
theorem l_end (hC : lX Γ aC aM b L xs) (hd : decode code pc = .ok (.iconst 1, 1)) (hd2 : decode code (pc + 1) = .ok (.ireturn, 1)) : lK Γ aC aM pc lv [] σ τ := by
  refine l_iconst hC hd ki_1 ?_
  obtain ⟨p, l, en, R, s, m, args, below, meth, c, cA, D, W0, lo⟩ := Γ
  obtain ⟨hx, hb, hml, hown, hts, hK, hN, hD, rfl, hr, hlk, rfl, hX, hbl, rfl⟩ := hC
  intro ls H locs hl hP hS
  refine va_forget (fun q hq => hS.2.2 q hq) ?_
  exact lw_ret hx hb hr hlk hd2
end LR
theorem l_in {i k L : Nat} (h : i + k < L) (hL : L ≤ 2048) {x : Int32} (hx : x = nI k) : vp_in (nI i + x) L := by
  rw [hx, nI_add]
  exact vp_in_nI h (by omega)
theorem l_cond {i L : Nat} (hL : L ≤ 2048) (hi : i ≤ L) (h : ¬ (nI L - 4 < nI i)) : i + 4 ≤ L := by
  rcases Nat.lt_or_ge L (i + 4) with h1 | h1
  · exfalso
    apply h
    rw [Int32.lt_iff_toInt_lt]
    have e := pk_sub_toInt (a := L) (b := 4) (by omega) (by omega)
    have e2 : (nI L - 4).toInt = (L : Int) - 4 := e
    rw [e2, nI_toInt (by omega)]
    omega
  · exact h1
set_option maxRecDepth 100000 in
set_option maxHeartbeats 4000000 in
theorem l_case_room {Γ : zG} {aC aM : Nat → Nat} {b L i : Nat} {xs : Nat → Int32} {σ τ : zS} {R : zS → zS → Prop} (hC : lX Γ aC aM b L xs) (hL : L ≤ 2048) (hi : i + 4 ≤ L) (hR : R σ τ) (hsim : Sm R (f_X7_room) (f_X8_room)) (hnext : ∀ σ1 τ1, R σ1 τ1 → lK Γ aC aM 757 [some (.ref b), some (.ref (aC 0)), some (.ref (aM 0)), some (.int (nI i))] [] σ1 τ1) : lK Γ aC aM 132 [some (.ref b), some (.ref (aC 0)), some (.ref (aM 0)), some (.int (nI i))] [] σ τ := by
  obtain ⟨r, σ1, τ1, h1, h2, h3⟩ := hsim σ τ hR
  refine l_aload_n hC dL_law_132 rfl ?_
  refine l_callC hC [] c_X7_room yy_X7_room wl_L_13 dL_law_133 rfl rfl rfl (Nat.le_of_ble_eq_true rfl) (by decide) h1 ?_
  refine l_aload_n hC dL_law_136 rfl ?_
  refine l_callM hC [] c_X8_room yy_X8_room wl_L_17 dL_law_137 rfl rfl rfl (Nat.le_of_ble_eq_true rfl) (by decide) h2 ?_
  refine l_icmp_same hC 757 dL_law_140 (by decide) ?_
  exact hnext σ1 τ1 h3
set_option maxRecDepth 100000 in
set_option maxHeartbeats 4000000 in
theorem l_case_door {Γ : zG} {aC aM : Nat → Nat} {b L i : Nat} {xs : Nat → Int32} {σ τ : zS} {R : zS → zS → Prop} (hC : lX Γ aC aM b L xs) (hL : L ≤ 2048) (hi : i + 4 ≤ L) (hR : R σ τ) (hsim : Sm R (f_X7_door (xs (nI i + 1).toNatClampNeg) (xs (nI i + 2).toNatClampNeg)) (f_X8_door (xs (nI i + 1).toNatClampNeg) (xs (nI i + 2).toNatClampNeg))) (hnext : ∀ σ1 τ1, R σ1 τ1 → lK Γ aC aM 757 [some (.ref b), some (.ref (aC 0)), some (.ref (aM 0)), some (.int (nI i))] [] σ1 τ1) : lK Γ aC aM 145 [some (.ref b), some (.ref (aC 0)), some (.ref (aM 0)), some (.int (nI i))] [] σ τ := by
  obtain ⟨r, σ1, τ1, h1, h2, h3⟩ := hsim σ τ hR
  refine l_aload_n hC dL_law_145 rfl ?_
  refine l_aload_n hC dL_law_146 rfl ?_
  refine l_iload_n hC dL_law_147 rfl ?_
  refine l_iconst hC dL_law_148 ki_1 ?_
  refine l_iadd hC dL_law_149 ?_
  refine l_sld hC (l_in (k := 1) (by omega) hL rfl) dL_law_150 ?_
  refine l_aload_n hC dL_law_151 rfl ?_
  refine l_iload_n hC dL_law_152 rfl ?_
  refine l_iconst hC dL_law_153 ki_2 ?_
  refine l_iadd hC dL_law_154 ?_
  refine l_sld hC (l_in (k := 2) (by omega) hL rfl) dL_law_155 ?_
  refine l_callC hC [.int (xs (nI i + 1).toNatClampNeg), .int (xs (nI i + 2).toNatClampNeg)] (c_X7_door (xs (nI i + 1).toNatClampNeg) (xs (nI i + 2).toNatClampNeg)) yy_X7_door wl_L_18 dL_law_156 rfl rfl rfl (Nat.le_of_ble_eq_true rfl) (by decide) h1 ?_
  refine l_aload_n hC dL_law_159 rfl ?_
  refine l_aload_n hC dL_law_160 rfl ?_
  refine l_iload_n hC dL_law_161 rfl ?_
  refine l_iconst hC dL_law_162 ki_1 ?_
  refine l_iadd hC dL_law_163 ?_
  refine l_sld hC (l_in (k := 1) (by omega) hL rfl) dL_law_164 ?_
  refine l_aload_n hC dL_law_165 rfl ?_
  refine l_iload_n hC dL_law_166 rfl ?_
  refine l_iconst hC dL_law_167 ki_2 ?_
  refine l_iadd hC dL_law_168 ?_
  refine l_sld hC (l_in (k := 2) (by omega) hL rfl) dL_law_169 ?_
  refine l_callM hC [.int (xs (nI i + 1).toNatClampNeg), .int (xs (nI i + 2).toNatClampNeg)] (c_X8_door (xs (nI i + 1).toNatClampNeg) (xs (nI i + 2).toNatClampNeg)) yy_X8_door wl_L_22 dL_law_170 rfl rfl rfl (Nat.le_of_ble_eq_true rfl) (by decide) h2 ?_
  refine l_icmp_same hC 757 dL_law_173 (by decide) ?_
  exact hnext σ1 τ1 h3
set_option maxRecDepth 100000 in
set_option maxHeartbeats 4000000 in
theorem l_case_walker {Γ : zG} {aC aM : Nat → Nat} {b L i : Nat} {xs : Nat → Int32} {σ τ : zS} {R : zS → zS → Prop} (hC : lX Γ aC aM b L xs) (hL : L ≤ 2048) (hi : i + 4 ≤ L) (hR : R σ τ) (hsim : Sm R (f_X7_walker (xs (nI i + 1).toNatClampNeg)) (f_X8_walker (xs (nI i + 1).toNatClampNeg))) (hnext : ∀ σ1 τ1, R σ1 τ1 → lK Γ aC aM 757 [some (.ref b), some (.ref (aC 0)), some (.ref (aM 0)), some (.int (nI i))] [] σ1 τ1) : lK Γ aC aM 178 [some (.ref b), some (.ref (aC 0)), some (.ref (aM 0)), some (.int (nI i))] [] σ τ := by
  obtain ⟨r, σ1, τ1, h1, h2, h3⟩ := hsim σ τ hR
  refine l_aload_n hC dL_law_178 rfl ?_
  refine l_aload_n hC dL_law_179 rfl ?_
  refine l_iload_n hC dL_law_180 rfl ?_
  refine l_iconst hC dL_law_181 ki_1 ?_
  refine l_iadd hC dL_law_182 ?_
  refine l_sld hC (l_in (k := 1) (by omega) hL rfl) dL_law_183 ?_
  refine l_callC hC [.int (xs (nI i + 1).toNatClampNeg)] (c_X7_walker (xs (nI i + 1).toNatClampNeg)) yy_X7_walker wl_L_23 dL_law_184 rfl rfl rfl (Nat.le_of_ble_eq_true rfl) (by decide) h1 ?_
  refine l_aload_n hC dL_law_187 rfl ?_
  refine l_aload_n hC dL_law_188 rfl ?_
  refine l_iload_n hC dL_law_189 rfl ?_
  refine l_iconst hC dL_law_190 ki_1 ?_
  refine l_iadd hC dL_law_191 ?_
  refine l_sld hC (l_in (k := 1) (by omega) hL rfl) dL_law_192 ?_
  refine l_callM hC [.int (xs (nI i + 1).toNatClampNeg)] (c_X8_walker (xs (nI i + 1).toNatClampNeg)) yy_X8_walker wl_L_27 dL_law_193 rfl rfl rfl (Nat.le_of_ble_eq_true rfl) (by decide) h2 ?_
  refine l_icmp_same hC 757 dL_law_196 (by decide) ?_
  exact hnext σ1 τ1 h3
set_option maxRecDepth 100000 in
set_option maxHeartbeats 4000000 in
theorem l_case_deed {Γ : zG} {aC aM : Nat → Nat} {b L i : Nat} {xs : Nat → Int32} {σ τ : zS} {R : zS → zS → Prop} (hC : lX Γ aC aM b L xs) (hL : L ≤ 2048) (hi : i + 4 ≤ L) (hR : R σ τ) (hsim : Sm R (f_X7_deed (xs (nI i + 1).toNatClampNeg) (xs (nI i + 2).toNatClampNeg) (xs (nI i + 3).toNatClampNeg)) (f_X8_deed (xs (nI i + 1).toNatClampNeg) (xs (nI i + 2).toNatClampNeg) (xs (nI i + 3).toNatClampNeg))) (hnext : ∀ σ1 τ1, R σ1 τ1 → lK Γ aC aM 757 [some (.ref b), some (.ref (aC 0)), some (.ref (aM 0)), some (.int (nI i))] [] σ1 τ1) : lK Γ aC aM 201 [some (.ref b), some (.ref (aC 0)), some (.ref (aM 0)), some (.int (nI i))] [] σ τ := by
  obtain ⟨r, σ1, τ1, h1, h2, h3⟩ := hsim σ τ hR
  refine l_aload_n hC dL_law_201 rfl ?_
  refine l_aload_n hC dL_law_202 rfl ?_
  refine l_iload_n hC dL_law_203 rfl ?_
  refine l_iconst hC dL_law_204 ki_1 ?_
  refine l_iadd hC dL_law_205 ?_
  refine l_sld hC (l_in (k := 1) (by omega) hL rfl) dL_law_206 ?_
  refine l_aload_n hC dL_law_207 rfl ?_
  refine l_iload_n hC dL_law_208 rfl ?_
  refine l_iconst hC dL_law_209 ki_2 ?_
  refine l_iadd hC dL_law_210 ?_
  refine l_sld hC (l_in (k := 2) (by omega) hL rfl) dL_law_211 ?_
  refine l_aload_n hC dL_law_212 rfl ?_
  refine l_iload_n hC dL_law_213 rfl ?_
  refine l_iconst hC dL_law_214 ki_3 ?_
  refine l_iadd hC dL_law_215 ?_
  refine l_sld hC (l_in (k := 3) (by omega) hL rfl) dL_law_216 ?_
  refine l_callC hC [.int (xs (nI i + 1).toNatClampNeg), .int (xs (nI i + 2).toNatClampNeg), .int (xs (nI i + 3).toNatClampNeg)] (c_X7_deed (xs (nI i + 1).toNatClampNeg) (xs (nI i + 2).toNatClampNeg) (xs (nI i + 3).toNatClampNeg)) yy_X7_deed wl_L_28 dL_law_217 rfl rfl rfl (Nat.le_of_ble_eq_true rfl) (by decide) h1 ?_
  refine l_aload_n hC dL_law_220 rfl ?_
  refine l_aload_n hC dL_law_221 rfl ?_
  refine l_iload_n hC dL_law_222 rfl ?_
  refine l_iconst hC dL_law_223 ki_1 ?_
  refine l_iadd hC dL_law_224 ?_
  refine l_sld hC (l_in (k := 1) (by omega) hL rfl) dL_law_225 ?_
  refine l_aload_n hC dL_law_226 rfl ?_
  refine l_iload_n hC dL_law_227 rfl ?_
  refine l_iconst hC dL_law_228 ki_2 ?_
  refine l_iadd hC dL_law_229 ?_
  refine l_sld hC (l_in (k := 2) (by omega) hL rfl) dL_law_230 ?_
  refine l_aload_n hC dL_law_231 rfl ?_
  refine l_iload_n hC dL_law_232 rfl ?_
  refine l_iconst hC dL_law_233 ki_3 ?_
  refine l_iadd hC dL_law_234 ?_
  refine l_sld hC (l_in (k := 3) (by omega) hL rfl) dL_law_235 ?_
  refine l_callM hC [.int (xs (nI i + 1).toNatClampNeg), .int (xs (nI i + 2).toNatClampNeg), .int (xs (nI i + 3).toNatClampNeg)] (c_X8_deed (xs (nI i + 1).toNatClampNeg) (xs (nI i + 2).toNatClampNeg) (xs (nI i + 3).toNatClampNeg)) yy_X8_deed wl_L_32 dL_law_236 rfl rfl rfl (Nat.le_of_ble_eq_true rfl) (by decide) h2 ?_
  refine l_icmp_same hC 757 dL_law_239 (by decide) ?_
  exact hnext σ1 τ1 h3
set_option maxRecDepth 100000 in
set_option maxHeartbeats 4000000 in
theorem l_case_condition {Γ : zG} {aC aM : Nat → Nat} {b L i : Nat} {xs : Nat → Int32} {σ τ : zS} {R : zS → zS → Prop} (hC : lX Γ aC aM b L xs) (hL : L ≤ 2048) (hi : i + 4 ≤ L) (hR : R σ τ) (hsim : Sm R (f_X7_condition (xs (nI i + 1).toNatClampNeg) (xs (nI i + 2).toNatClampNeg) (xs (nI i + 3).toNatClampNeg)) (f_X8_condition (xs (nI i + 1).toNatClampNeg) (xs (nI i + 2).toNatClampNeg) (xs (nI i + 3).toNatClampNeg))) (hnext : ∀ σ1 τ1, R σ1 τ1 → lK Γ aC aM 757 [some (.ref b), some (.ref (aC 0)), some (.ref (aM 0)), some (.int (nI i))] [] σ1 τ1) : lK Γ aC aM 244 [some (.ref b), some (.ref (aC 0)), some (.ref (aM 0)), some (.int (nI i))] [] σ τ := by
  obtain ⟨r, σ1, τ1, h1, h2, h3⟩ := hsim σ τ hR
  refine l_aload_n hC dL_law_244 rfl ?_
  refine l_aload_n hC dL_law_245 rfl ?_
  refine l_iload_n hC dL_law_246 rfl ?_
  refine l_iconst hC dL_law_247 ki_1 ?_
  refine l_iadd hC dL_law_248 ?_
  refine l_sld hC (l_in (k := 1) (by omega) hL rfl) dL_law_249 ?_
  refine l_aload_n hC dL_law_250 rfl ?_
  refine l_iload_n hC dL_law_251 rfl ?_
  refine l_iconst hC dL_law_252 ki_2 ?_
  refine l_iadd hC dL_law_253 ?_
  refine l_sld hC (l_in (k := 2) (by omega) hL rfl) dL_law_254 ?_
  refine l_aload_n hC dL_law_255 rfl ?_
  refine l_iload_n hC dL_law_256 rfl ?_
  refine l_iconst hC dL_law_257 ki_3 ?_
  refine l_iadd hC dL_law_258 ?_
  refine l_sld hC (l_in (k := 3) (by omega) hL rfl) dL_law_259 ?_
  refine l_callC hC [.int (xs (nI i + 1).toNatClampNeg), .int (xs (nI i + 2).toNatClampNeg), .int (xs (nI i + 3).toNatClampNeg)] (c_X7_condition (xs (nI i + 1).toNatClampNeg) (xs (nI i + 2).toNatClampNeg) (xs (nI i + 3).toNatClampNeg)) yy_X7_condition wl_L_33 dL_law_260 rfl rfl rfl (Nat.le_of_ble_eq_true rfl) (by decide) h1 ?_
  refine l_aload_n hC dL_law_263 rfl ?_
  refine l_aload_n hC dL_law_264 rfl ?_
  refine l_iload_n hC dL_law_265 rfl ?_
  refine l_iconst hC dL_law_266 ki_1 ?_
  refine l_iadd hC dL_law_267 ?_
  refine l_sld hC (l_in (k := 1) (by omega) hL rfl) dL_law_268 ?_
  refine l_aload_n hC dL_law_269 rfl ?_
  refine l_iload_n hC dL_law_270 rfl ?_
  refine l_iconst hC dL_law_271 ki_2 ?_
  refine l_iadd hC dL_law_272 ?_
  refine l_sld hC (l_in (k := 2) (by omega) hL rfl) dL_law_273 ?_
  refine l_aload_n hC dL_law_274 rfl ?_
  refine l_iload_n hC dL_law_275 rfl ?_
  refine l_iconst hC dL_law_276 ki_3 ?_
  refine l_iadd hC dL_law_277 ?_
  refine l_sld hC (l_in (k := 3) (by omega) hL rfl) dL_law_278 ?_
  refine l_callM hC [.int (xs (nI i + 1).toNatClampNeg), .int (xs (nI i + 2).toNatClampNeg), .int (xs (nI i + 3).toNatClampNeg)] (c_X8_condition (xs (nI i + 1).toNatClampNeg) (xs (nI i + 2).toNatClampNeg) (xs (nI i + 3).toNatClampNeg)) yy_X8_condition wl_L_36 dL_law_279 rfl rfl rfl (Nat.le_of_ble_eq_true rfl) (by decide) h2 ?_
  refine l_icmp_same hC 757 dL_law_282 (by decide) ?_
  exact hnext σ1 τ1 h3
set_option maxRecDepth 100000 in
set_option maxHeartbeats 4000000 in
theorem l_case_event {Γ : zG} {aC aM : Nat → Nat} {b L i : Nat} {xs : Nat → Int32} {σ τ : zS} {R : zS → zS → Prop} (hC : lX Γ aC aM b L xs) (hL : L ≤ 2048) (hi : i + 4 ≤ L) (hR : R σ τ) (hsim : Sm R (f_X7_event (xs (nI i + 1).toNatClampNeg) (xs (nI i + 2).toNatClampNeg) (if xs (nI i + 3).toNatClampNeg = 0 then 0 else 1)) (f_X8_event (xs (nI i + 1).toNatClampNeg) (xs (nI i + 2).toNatClampNeg) (if xs (nI i + 3).toNatClampNeg = 0 then 0 else 1))) (hnext : ∀ σ1 τ1, R σ1 τ1 → lK Γ aC aM 757 [some (.ref b), some (.ref (aC 0)), some (.ref (aM 0)), some (.int (nI i))] [] σ1 τ1) : lK Γ aC aM 287 [some (.ref b), some (.ref (aC 0)), some (.ref (aM 0)), some (.int (nI i))] [] σ τ := by
  obtain ⟨r, σ1, τ1, h1, h2, h3⟩ := hsim σ τ hR
  refine l_aload_n hC dL_law_287 rfl ?_
  refine l_aload_n hC dL_law_288 rfl ?_
  refine l_iload_n hC dL_law_289 rfl ?_
  refine l_iconst hC dL_law_290 ki_1 ?_
  refine l_iadd hC dL_law_291 ?_
  refine l_sld hC (l_in (k := 1) (by omega) hL rfl) dL_law_292 ?_
  refine l_aload_n hC dL_law_293 rfl ?_
  refine l_iload_n hC dL_law_294 rfl ?_
  refine l_iconst hC dL_law_295 ki_2 ?_
  refine l_iadd hC dL_law_296 ?_
  refine l_sld hC (l_in (k := 2) (by omega) hL rfl) dL_law_297 ?_
  refine l_aload_n hC dL_law_298 rfl ?_
  refine l_iload_n hC dL_law_299 rfl ?_
  refine l_iconst hC dL_law_300 ki_3 ?_
  refine l_iadd hC dL_law_301 ?_
  refine l_sld hC (l_in (k := 3) (by omega) hL rfl) dL_law_302 ?_
  refine l_bool hC 310 311 dL_law_303 dL_law_306 dL_law_307 dL_law_310 (by decide) (by decide) rfl ?_
  refine l_callC hC [.int (xs (nI i + 1).toNatClampNeg), .int (xs (nI i + 2).toNatClampNeg), .int (if xs (nI i + 3).toNatClampNeg = 0 then 0 else 1)] (c_X7_event (xs (nI i + 1).toNatClampNeg) (xs (nI i + 2).toNatClampNeg) (if xs (nI i + 3).toNatClampNeg = 0 then 0 else 1)) yy_X7_event wl_L_37 dL_law_311 rfl rfl rfl (Nat.le_of_ble_eq_true rfl) (by decide) h1 ?_
  refine l_aload_n hC dL_law_314 rfl ?_
  refine l_aload_n hC dL_law_315 rfl ?_
  refine l_iload_n hC dL_law_316 rfl ?_
  refine l_iconst hC dL_law_317 ki_1 ?_
  refine l_iadd hC dL_law_318 ?_
  refine l_sld hC (l_in (k := 1) (by omega) hL rfl) dL_law_319 ?_
  refine l_aload_n hC dL_law_320 rfl ?_
  refine l_iload_n hC dL_law_321 rfl ?_
  refine l_iconst hC dL_law_322 ki_2 ?_
  refine l_iadd hC dL_law_323 ?_
  refine l_sld hC (l_in (k := 2) (by omega) hL rfl) dL_law_324 ?_
  refine l_aload_n hC dL_law_325 rfl ?_
  refine l_iload_n hC dL_law_326 rfl ?_
  refine l_iconst hC dL_law_327 ki_3 ?_
  refine l_iadd hC dL_law_328 ?_
  refine l_sld hC (l_in (k := 3) (by omega) hL rfl) dL_law_329 ?_
  refine l_bool hC 337 338 dL_law_330 dL_law_333 dL_law_334 dL_law_337 (by decide) (by decide) rfl ?_
  refine l_callM hC [.int (xs (nI i + 1).toNatClampNeg), .int (xs (nI i + 2).toNatClampNeg), .int (if xs (nI i + 3).toNatClampNeg = 0 then 0 else 1)] (c_X8_event (xs (nI i + 1).toNatClampNeg) (xs (nI i + 2).toNatClampNeg) (if xs (nI i + 3).toNatClampNeg = 0 then 0 else 1)) yy_X8_event wl_L_41 dL_law_338 rfl rfl rfl (Nat.le_of_ble_eq_true rfl) (by decide) h2 ?_
  refine l_icmp_same hC 757 dL_law_341 (by decide) ?_
  exact hnext σ1 τ1 h3
set_option maxRecDepth 100000 in
set_option maxHeartbeats 4000000 in
theorem l_case_timer {Γ : zG} {aC aM : Nat → Nat} {b L i : Nat} {xs : Nat → Int32} {σ τ : zS} {R : zS → zS → Prop} (hC : lX Γ aC aM b L xs) (hL : L ≤ 2048) (hi : i + 4 ≤ L) (hR : R σ τ) (hsim : Sm R (f_X7_timer (xs (nI i + 1).toNatClampNeg) (xs (nI i + 2).toNatClampNeg) (if xs (nI i + 3).toNatClampNeg = 0 then 0 else 1)) (f_X8_timer (xs (nI i + 1).toNatClampNeg) (xs (nI i + 2).toNatClampNeg) (if xs (nI i + 3).toNatClampNeg = 0 then 0 else 1))) (hnext : ∀ σ1 τ1, R σ1 τ1 → lK Γ aC aM 757 [some (.ref b), some (.ref (aC 0)), some (.ref (aM 0)), some (.int (nI i))] [] σ1 τ1) : lK Γ aC aM 346 [some (.ref b), some (.ref (aC 0)), some (.ref (aM 0)), some (.int (nI i))] [] σ τ := by
  obtain ⟨r, σ1, τ1, h1, h2, h3⟩ := hsim σ τ hR
  refine l_aload_n hC dL_law_346 rfl ?_
  refine l_aload_n hC dL_law_347 rfl ?_
  refine l_iload_n hC dL_law_348 rfl ?_
  refine l_iconst hC dL_law_349 ki_1 ?_
  refine l_iadd hC dL_law_350 ?_
  refine l_sld hC (l_in (k := 1) (by omega) hL rfl) dL_law_351 ?_
  refine l_aload_n hC dL_law_352 rfl ?_
  refine l_iload_n hC dL_law_353 rfl ?_
  refine l_iconst hC dL_law_354 ki_2 ?_
  refine l_iadd hC dL_law_355 ?_
  refine l_sld hC (l_in (k := 2) (by omega) hL rfl) dL_law_356 ?_
  refine l_aload_n hC dL_law_357 rfl ?_
  refine l_iload_n hC dL_law_358 rfl ?_
  refine l_iconst hC dL_law_359 ki_3 ?_
  refine l_iadd hC dL_law_360 ?_
  refine l_sld hC (l_in (k := 3) (by omega) hL rfl) dL_law_361 ?_
  refine l_bool hC 369 370 dL_law_362 dL_law_365 dL_law_366 dL_law_369 (by decide) (by decide) rfl ?_
  refine l_callC hC [.int (xs (nI i + 1).toNatClampNeg), .int (xs (nI i + 2).toNatClampNeg), .int (if xs (nI i + 3).toNatClampNeg = 0 then 0 else 1)] (c_X7_timer (xs (nI i + 1).toNatClampNeg) (xs (nI i + 2).toNatClampNeg) (if xs (nI i + 3).toNatClampNeg = 0 then 0 else 1)) yy_X7_timer wl_L_42 dL_law_370 rfl rfl rfl (Nat.le_of_ble_eq_true rfl) (by decide) h1 ?_
  refine l_aload_n hC dL_law_373 rfl ?_
  refine l_aload_n hC dL_law_374 rfl ?_
  refine l_iload_n hC dL_law_375 rfl ?_
  refine l_iconst hC dL_law_376 ki_1 ?_
  refine l_iadd hC dL_law_377 ?_
  refine l_sld hC (l_in (k := 1) (by omega) hL rfl) dL_law_378 ?_
  refine l_aload_n hC dL_law_379 rfl ?_
  refine l_iload_n hC dL_law_380 rfl ?_
  refine l_iconst hC dL_law_381 ki_2 ?_
  refine l_iadd hC dL_law_382 ?_
  refine l_sld hC (l_in (k := 2) (by omega) hL rfl) dL_law_383 ?_
  refine l_aload_n hC dL_law_384 rfl ?_
  refine l_iload_n hC dL_law_385 rfl ?_
  refine l_iconst hC dL_law_386 ki_3 ?_
  refine l_iadd hC dL_law_387 ?_
  refine l_sld hC (l_in (k := 3) (by omega) hL rfl) dL_law_388 ?_
  refine l_bool hC 396 397 dL_law_389 dL_law_392 dL_law_393 dL_law_396 (by decide) (by decide) rfl ?_
  refine l_callM hC [.int (xs (nI i + 1).toNatClampNeg), .int (xs (nI i + 2).toNatClampNeg), .int (if xs (nI i + 3).toNatClampNeg = 0 then 0 else 1)] (c_X8_timer (xs (nI i + 1).toNatClampNeg) (xs (nI i + 2).toNatClampNeg) (if xs (nI i + 3).toNatClampNeg = 0 then 0 else 1)) yy_X8_timer wl_L_45 dL_law_397 rfl rfl rfl (Nat.le_of_ble_eq_true rfl) (by decide) h2 ?_
  refine l_icmp_same hC 757 dL_law_400 (by decide) ?_
  exact hnext σ1 τ1 h3
set_option maxRecDepth 100000 in
set_option maxHeartbeats 4000000 in
theorem l_case_daemon {Γ : zG} {aC aM : Nat → Nat} {b L i : Nat} {xs : Nat → Int32} {σ τ : zS} {R : zS → zS → Prop} (hC : lX Γ aC aM b L xs) (hL : L ≤ 2048) (hi : i + 4 ≤ L) (hR : R σ τ) (hsim : Sm R (f_X7_daemon (xs (nI i + 1).toNatClampNeg) (xs (nI i + 2).toNatClampNeg)) (f_X8_daemon (xs (nI i + 1).toNatClampNeg) (xs (nI i + 2).toNatClampNeg))) (hnext : ∀ σ1 τ1, R σ1 τ1 → lK Γ aC aM 757 [some (.ref b), some (.ref (aC 0)), some (.ref (aM 0)), some (.int (nI i))] [] σ1 τ1) : lK Γ aC aM 405 [some (.ref b), some (.ref (aC 0)), some (.ref (aM 0)), some (.int (nI i))] [] σ τ := by
  obtain ⟨r, σ1, τ1, h1, h2, h3⟩ := hsim σ τ hR
  refine l_aload_n hC dL_law_405 rfl ?_
  refine l_aload_n hC dL_law_406 rfl ?_
  refine l_iload_n hC dL_law_407 rfl ?_
  refine l_iconst hC dL_law_408 ki_1 ?_
  refine l_iadd hC dL_law_409 ?_
  refine l_sld hC (l_in (k := 1) (by omega) hL rfl) dL_law_410 ?_
  refine l_aload_n hC dL_law_411 rfl ?_
  refine l_iload_n hC dL_law_412 rfl ?_
  refine l_iconst hC dL_law_413 ki_2 ?_
  refine l_iadd hC dL_law_414 ?_
  refine l_sld hC (l_in (k := 2) (by omega) hL rfl) dL_law_415 ?_
  refine l_callC hC [.int (xs (nI i + 1).toNatClampNeg), .int (xs (nI i + 2).toNatClampNeg)] (c_X7_daemon (xs (nI i + 1).toNatClampNeg) (xs (nI i + 2).toNatClampNeg)) yy_X7_daemon wl_L_46 dL_law_416 rfl rfl rfl (Nat.le_of_ble_eq_true rfl) (by decide) h1 ?_
  refine l_aload_n hC dL_law_419 rfl ?_
  refine l_aload_n hC dL_law_420 rfl ?_
  refine l_iload_n hC dL_law_421 rfl ?_
  refine l_iconst hC dL_law_422 ki_1 ?_
  refine l_iadd hC dL_law_423 ?_
  refine l_sld hC (l_in (k := 1) (by omega) hL rfl) dL_law_424 ?_
  refine l_aload_n hC dL_law_425 rfl ?_
  refine l_iload_n hC dL_law_426 rfl ?_
  refine l_iconst hC dL_law_427 ki_2 ?_
  refine l_iadd hC dL_law_428 ?_
  refine l_sld hC (l_in (k := 2) (by omega) hL rfl) dL_law_429 ?_
  refine l_callM hC [.int (xs (nI i + 1).toNatClampNeg), .int (xs (nI i + 2).toNatClampNeg)] (c_X8_daemon (xs (nI i + 1).toNatClampNeg) (xs (nI i + 2).toNatClampNeg)) yy_X8_daemon wl_L_49 dL_law_430 rfl rfl rfl (Nat.le_of_ble_eq_true rfl) (by decide) h2 ?_
  refine l_icmp_same hC 757 dL_law_433 (by decide) ?_
  exact hnext σ1 τ1 h3
set_option maxRecDepth 100000 in
set_option maxHeartbeats 4000000 in
theorem l_case_act {Γ : zG} {aC aM : Nat → Nat} {b L i : Nat} {xs : Nat → Int32} {σ τ : zS} {R : zS → zS → Prop} (hC : lX Γ aC aM b L xs) (hL : L ≤ 2048) (hi : i + 4 ≤ L) (hR : R σ τ) (hsim : Sm R (f_X7_act (xs (nI i + 1).toNatClampNeg)) (f_X8_act (xs (nI i + 1).toNatClampNeg))) (hnext : ∀ σ1 τ1, R σ1 τ1 → lK Γ aC aM 757 [some (.ref b), some (.ref (aC 0)), some (.ref (aM 0)), some (.int (nI i))] [] σ1 τ1) : lK Γ aC aM 438 [some (.ref b), some (.ref (aC 0)), some (.ref (aM 0)), some (.int (nI i))] [] σ τ := by
  obtain ⟨r, σ1, τ1, h1, h2, h3⟩ := hsim σ τ hR
  refine l_aload_n hC dL_law_438 rfl ?_
  refine l_aload_n hC dL_law_439 rfl ?_
  refine l_iload_n hC dL_law_440 rfl ?_
  refine l_iconst hC dL_law_441 ki_1 ?_
  refine l_iadd hC dL_law_442 ?_
  refine l_sld hC (l_in (k := 1) (by omega) hL rfl) dL_law_443 ?_
  refine l_callC hC [.int (xs (nI i + 1).toNatClampNeg)] (c_X7_act (xs (nI i + 1).toNatClampNeg)) yy_X7_act wl_L_50 dL_law_444 rfl rfl rfl (Nat.le_of_ble_eq_true rfl) (by decide) h1 ?_
  refine l_aload_n hC dL_law_447 rfl ?_
  refine l_aload_n hC dL_law_448 rfl ?_
  refine l_iload_n hC dL_law_449 rfl ?_
  refine l_iconst hC dL_law_450 ki_1 ?_
  refine l_iadd hC dL_law_451 ?_
  refine l_sld hC (l_in (k := 1) (by omega) hL rfl) dL_law_452 ?_
  refine l_callM hC [.int (xs (nI i + 1).toNatClampNeg)] (c_X8_act (xs (nI i + 1).toNatClampNeg)) yy_X8_act wl_L_53 dL_law_453 rfl rfl rfl (Nat.le_of_ble_eq_true rfl) (by decide) h2 ?_
  refine l_icmp_same hC 757 dL_law_456 (by decide) ?_
  exact hnext σ1 τ1 h3
set_option maxRecDepth 100000 in
set_option maxHeartbeats 4000000 in
theorem l_case_pace {Γ : zG} {aC aM : Nat → Nat} {b L i : Nat} {xs : Nat → Int32} {σ τ : zS} {R : zS → zS → Prop} (hC : lX Γ aC aM b L xs) (hL : L ≤ 2048) (hi : i + 4 ≤ L) (hR : R σ τ) (hsim : Sm R (f_X7_pace (xs (nI i + 1).toNatClampNeg)) (f_X8_pace (xs (nI i + 1).toNatClampNeg))) (hnext : ∀ σ1 τ1, R σ1 τ1 → lK Γ aC aM 757 [some (.ref b), some (.ref (aC 0)), some (.ref (aM 0)), some (.int (nI i))] [] σ1 τ1) : lK Γ aC aM 461 [some (.ref b), some (.ref (aC 0)), some (.ref (aM 0)), some (.int (nI i))] [] σ τ := by
  obtain ⟨r, σ1, τ1, h1, h2, h3⟩ := hsim σ τ hR
  refine l_aload_n hC dL_law_461 rfl ?_
  refine l_aload_n hC dL_law_462 rfl ?_
  refine l_iload_n hC dL_law_463 rfl ?_
  refine l_iconst hC dL_law_464 ki_1 ?_
  refine l_iadd hC dL_law_465 ?_
  refine l_sld hC (l_in (k := 1) (by omega) hL rfl) dL_law_466 ?_
  refine l_callC hC [.int (xs (nI i + 1).toNatClampNeg)] (c_X7_pace (xs (nI i + 1).toNatClampNeg)) yy_X7_pace wl_L_54 dL_law_467 rfl rfl rfl (Nat.le_of_ble_eq_true rfl) (by decide) h1 ?_
  refine l_aload_n hC dL_law_470 rfl ?_
  refine l_aload_n hC dL_law_471 rfl ?_
  refine l_iload_n hC dL_law_472 rfl ?_
  refine l_iconst hC dL_law_473 ki_1 ?_
  refine l_iadd hC dL_law_474 ?_
  refine l_sld hC (l_in (k := 1) (by omega) hL rfl) dL_law_475 ?_
  refine l_callM hC [.int (xs (nI i + 1).toNatClampNeg)] (c_X8_pace (xs (nI i + 1).toNatClampNeg)) yy_X8_pace wl_L_57 dL_law_476 rfl rfl rfl (Nat.le_of_ble_eq_true rfl) (by decide) h2 ?_
  refine l_icmp_same hC 757 dL_law_479 (by decide) ?_
  exact hnext σ1 τ1 h3
set_option maxRecDepth 100000 in
set_option maxHeartbeats 4000000 in
theorem l_case_turn {Γ : zG} {aC aM : Nat → Nat} {b L i : Nat} {xs : Nat → Int32} {σ τ : zS} {R : zS → zS → Prop} (hC : lX Γ aC aM b L xs) (hL : L ≤ 2048) (hi : i + 4 ≤ L) (hR : R σ τ) (hsim : Sm R (f_X7_turn) (f_X8_turn)) (hnext : ∀ σ1 τ1, R σ1 τ1 → lK Γ aC aM 757 [some (.ref b), some (.ref (aC 0)), some (.ref (aM 0)), some (.int (nI i))] [] σ1 τ1) : lK Γ aC aM 484 [some (.ref b), some (.ref (aC 0)), some (.ref (aM 0)), some (.int (nI i))] [] σ τ := by
  obtain ⟨r, σ1, τ1, h1, h2, h3⟩ := hsim σ τ hR
  refine l_aload_n hC dL_law_484 rfl ?_
  refine l_callC hC [] c_X7_turn yy_X7_turn wl_L_58 dL_law_485 rfl rfl rfl (Nat.le_of_ble_eq_true rfl) (by decide) h1 ?_
  refine l_aload_n hC dL_law_488 rfl ?_
  refine l_callM hC [] c_X8_turn yy_X8_turn wl_L_61 dL_law_489 rfl rfl rfl (Nat.le_of_ble_eq_true rfl) (by decide) h2 ?_
  refine l_icmp_same hC 757 dL_law_492 (by decide) ?_
  exact hnext σ1 τ1 h3
set_option maxRecDepth 100000 in
set_option maxHeartbeats 4000000 in
theorem l_case_back {Γ : zG} {aC aM : Nat → Nat} {b L i : Nat} {xs : Nat → Int32} {σ τ : zS} {R : zS → zS → Prop} (hC : lX Γ aC aM b L xs) (hL : L ≤ 2048) (hi : i + 4 ≤ L) (hR : R σ τ) (hsim : Sm R (f_X7_back) (f_X8_back)) (hnext : ∀ σ1 τ1, R σ1 τ1 → lK Γ aC aM 757 [some (.ref b), some (.ref (aC 0)), some (.ref (aM 0)), some (.int (nI i))] [] σ1 τ1) : lK Γ aC aM 497 [some (.ref b), some (.ref (aC 0)), some (.ref (aM 0)), some (.int (nI i))] [] σ τ := by
  obtain ⟨r, σ1, τ1, h1, h2, h3⟩ := hsim σ τ hR
  refine l_aload_n hC dL_law_497 rfl ?_
  refine l_callC hC [] c_X7_back yy_X7_back wl_L_62 dL_law_498 rfl rfl rfl (Nat.le_of_ble_eq_true rfl) (by decide) h1 ?_
  refine l_aload_n hC dL_law_501 rfl ?_
  refine l_callM hC [] c_X8_back yy_X8_back wl_L_65 dL_law_502 rfl rfl rfl (Nat.le_of_ble_eq_true rfl) (by decide) h2 ?_
  refine l_icmp_same hC 757 dL_law_505 (by decide) ?_
  exact hnext σ1 τ1 h3
set_option maxRecDepth 100000 in
set_option maxHeartbeats 4000000 in
theorem l_case_told {Γ : zG} {aC aM : Nat → Nat} {b L i : Nat} {xs : Nat → Int32} {σ τ : zS} {R : zS → zS → Prop} (hC : lX Γ aC aM b L xs) (hL : L ≤ 2048) (hi : i + 4 ≤ L) (hR : R σ τ) (hsim : Sm R (f_X7_told (xs (nI i + 1).toNatClampNeg)) (f_X8_told (xs (nI i + 1).toNatClampNeg))) (hnext : ∀ σ1 τ1, R σ1 τ1 → lK Γ aC aM 757 [some (.ref b), some (.ref (aC 0)), some (.ref (aM 0)), some (.int (nI i))] [] σ1 τ1) : lK Γ aC aM 510 [some (.ref b), some (.ref (aC 0)), some (.ref (aM 0)), some (.int (nI i))] [] σ τ := by
  obtain ⟨r, σ1, τ1, h1, h2, h3⟩ := hsim σ τ hR
  refine l_aload_n hC dL_law_510 rfl ?_
  refine l_aload_n hC dL_law_511 rfl ?_
  refine l_iload_n hC dL_law_512 rfl ?_
  refine l_iconst hC dL_law_513 ki_1 ?_
  refine l_iadd hC dL_law_514 ?_
  refine l_sld hC (l_in (k := 1) (by omega) hL rfl) dL_law_515 ?_
  refine l_callC hC [.int (xs (nI i + 1).toNatClampNeg)] (c_X7_told (xs (nI i + 1).toNatClampNeg)) yy_X7_told wl_L_66 dL_law_516 rfl rfl rfl (Nat.le_of_ble_eq_true rfl) (by decide) h1 ?_
  refine l_aload_n hC dL_law_519 rfl ?_
  refine l_aload_n hC dL_law_520 rfl ?_
  refine l_iload_n hC dL_law_521 rfl ?_
  refine l_iconst hC dL_law_522 ki_1 ?_
  refine l_iadd hC dL_law_523 ?_
  refine l_sld hC (l_in (k := 1) (by omega) hL rfl) dL_law_524 ?_
  refine l_callM hC [.int (xs (nI i + 1).toNatClampNeg)] (c_X8_told (xs (nI i + 1).toNatClampNeg)) yy_X8_told wl_L_69 dL_law_525 rfl rfl rfl (Nat.le_of_ble_eq_true rfl) (by decide) h2 ?_
  refine l_icmp_same hC 757 dL_law_528 (by decide) ?_
  exact hnext σ1 τ1 h3
set_option maxRecDepth 100000 in
set_option maxHeartbeats 4000000 in
theorem l_case_count {Γ : zG} {aC aM : Nat → Nat} {b L i : Nat} {xs : Nat → Int32} {σ τ : zS} {R : zS → zS → Prop} (hC : lX Γ aC aM b L xs) (hL : L ≤ 2048) (hi : i + 4 ≤ L) (hR : R σ τ) (hsim : Sm R (f_X7_count (xs (nI i + 1).toNatClampNeg)) (f_X8_count (xs (nI i + 1).toNatClampNeg))) (hnext : ∀ σ1 τ1, R σ1 τ1 → lK Γ aC aM 757 [some (.ref b), some (.ref (aC 0)), some (.ref (aM 0)), some (.int (nI i))] [] σ1 τ1) : lK Γ aC aM 533 [some (.ref b), some (.ref (aC 0)), some (.ref (aM 0)), some (.int (nI i))] [] σ τ := by
  obtain ⟨r, σ1, τ1, h1, h2, h3⟩ := hsim σ τ hR
  refine l_aload_n hC dL_law_533 rfl ?_
  refine l_aload_n hC dL_law_534 rfl ?_
  refine l_iload_n hC dL_law_535 rfl ?_
  refine l_iconst hC dL_law_536 ki_1 ?_
  refine l_iadd hC dL_law_537 ?_
  refine l_sld hC (l_in (k := 1) (by omega) hL rfl) dL_law_538 ?_
  refine l_callC hC [.int (xs (nI i + 1).toNatClampNeg)] (c_X7_count (xs (nI i + 1).toNatClampNeg)) yy_X7_count wl_L_70 dL_law_539 rfl rfl rfl (Nat.le_of_ble_eq_true rfl) (by decide) h1 ?_
  refine l_aload_n hC dL_law_542 rfl ?_
  refine l_aload_n hC dL_law_543 rfl ?_
  refine l_iload_n hC dL_law_544 rfl ?_
  refine l_iconst hC dL_law_545 ki_1 ?_
  refine l_iadd hC dL_law_546 ?_
  refine l_sld hC (l_in (k := 1) (by omega) hL rfl) dL_law_547 ?_
  refine l_callM hC [.int (xs (nI i + 1).toNatClampNeg)] (c_X8_count (xs (nI i + 1).toNatClampNeg)) yy_X8_count wl_L_73 dL_law_548 rfl rfl rfl (Nat.le_of_ble_eq_true rfl) (by decide) h2 ?_
  refine l_icmp_same hC 757 dL_law_551 (by decide) ?_
  exact hnext σ1 τ1 h3
set_option maxRecDepth 100000 in
set_option maxHeartbeats 4000000 in
theorem l_case_counter {Γ : zG} {aC aM : Nat → Nat} {b L i : Nat} {xs : Nat → Int32} {σ τ : zS} {R : zS → zS → Prop} (hC : lX Γ aC aM b L xs) (hL : L ≤ 2048) (hi : i + 4 ≤ L) (hR : R σ τ) (hsim : Sm R (f_X7_counter (xs (nI i + 1).toNatClampNeg)) (f_X8_counter (xs (nI i + 1).toNatClampNeg))) (hnext : ∀ σ1 τ1, R σ1 τ1 → lK Γ aC aM 757 [some (.ref b), some (.ref (aC 0)), some (.ref (aM 0)), some (.int (nI i))] [] σ1 τ1) : lK Γ aC aM 556 [some (.ref b), some (.ref (aC 0)), some (.ref (aM 0)), some (.int (nI i))] [] σ τ := by
  obtain ⟨r, σ1, τ1, h1, h2, h3⟩ := hsim σ τ hR
  refine l_aload_n hC dL_law_556 rfl ?_
  refine l_aload_n hC dL_law_557 rfl ?_
  refine l_iload_n hC dL_law_558 rfl ?_
  refine l_iconst hC dL_law_559 ki_1 ?_
  refine l_iadd hC dL_law_560 ?_
  refine l_sld hC (l_in (k := 1) (by omega) hL rfl) dL_law_561 ?_
  refine l_callC hC [.int (xs (nI i + 1).toNatClampNeg)] (c_X7_counter (xs (nI i + 1).toNatClampNeg)) yy_X7_counter wl_L_74 dL_law_562 rfl rfl rfl (Nat.le_of_ble_eq_true rfl) (by decide) h1 ?_
  refine l_aload_n hC dL_law_565 rfl ?_
  refine l_aload_n hC dL_law_566 rfl ?_
  refine l_iload_n hC dL_law_567 rfl ?_
  refine l_iconst hC dL_law_568 ki_1 ?_
  refine l_iadd hC dL_law_569 ?_
  refine l_sld hC (l_in (k := 1) (by omega) hL rfl) dL_law_570 ?_
  refine l_callM hC [.int (xs (nI i + 1).toNatClampNeg)] (c_X8_counter (xs (nI i + 1).toNatClampNeg)) yy_X8_counter wl_L_77 dL_law_571 rfl rfl rfl (Nat.le_of_ble_eq_true rfl) (by decide) h2 ?_
  refine l_icmp_same hC 757 dL_law_574 (by decide) ?_
  exact hnext σ1 τ1 h3
set_option maxRecDepth 100000 in
set_option maxHeartbeats 4000000 in
theorem l_case_left {Γ : zG} {aC aM : Nat → Nat} {b L i : Nat} {xs : Nat → Int32} {σ τ : zS} {R : zS → zS → Prop} (hC : lX Γ aC aM b L xs) (hL : L ≤ 2048) (hi : i + 4 ≤ L) (hR : R σ τ) (hsim : Sm R (f_X7_left (xs (nI i + 1).toNatClampNeg)) (f_X8_left (xs (nI i + 1).toNatClampNeg))) (hnext : ∀ σ1 τ1, R σ1 τ1 → lK Γ aC aM 757 [some (.ref b), some (.ref (aC 0)), some (.ref (aM 0)), some (.int (nI i))] [] σ1 τ1) : lK Γ aC aM 579 [some (.ref b), some (.ref (aC 0)), some (.ref (aM 0)), some (.int (nI i))] [] σ τ := by
  obtain ⟨r, σ1, τ1, h1, h2, h3⟩ := hsim σ τ hR
  refine l_aload_n hC dL_law_579 rfl ?_
  refine l_aload_n hC dL_law_580 rfl ?_
  refine l_iload_n hC dL_law_581 rfl ?_
  refine l_iconst hC dL_law_582 ki_1 ?_
  refine l_iadd hC dL_law_583 ?_
  refine l_sld hC (l_in (k := 1) (by omega) hL rfl) dL_law_584 ?_
  refine l_callC hC [.int (xs (nI i + 1).toNatClampNeg)] (c_X7_left (xs (nI i + 1).toNatClampNeg)) yy_X7_left wl_L_78 dL_law_585 rfl rfl rfl (Nat.le_of_ble_eq_true rfl) (by decide) h1 ?_
  refine l_aload_n hC dL_law_588 rfl ?_
  refine l_aload_n hC dL_law_589 rfl ?_
  refine l_iload_n hC dL_law_590 rfl ?_
  refine l_iconst hC dL_law_591 ki_1 ?_
  refine l_iadd hC dL_law_592 ?_
  refine l_sld hC (l_in (k := 1) (by omega) hL rfl) dL_law_593 ?_
  refine l_callM hC [.int (xs (nI i + 1).toNatClampNeg)] (c_X8_left (xs (nI i + 1).toNatClampNeg)) yy_X8_left wl_L_81 dL_law_594 rfl rfl rfl (Nat.le_of_ble_eq_true rfl) (by decide) h2 ?_
  refine l_icmp_same hC 757 dL_law_597 (by decide) ?_
  exact hnext σ1 τ1 h3
set_option maxRecDepth 100000 in
set_option maxHeartbeats 4000000 in
theorem l_case_is {Γ : zG} {aC aM : Nat → Nat} {b L i : Nat} {xs : Nat → Int32} {σ τ : zS} {R : zS → zS → Prop} (hC : lX Γ aC aM b L xs) (hL : L ≤ 2048) (hi : i + 4 ≤ L) (hR : R σ τ) (hsim : Sm R (f_X7_is (xs (nI i + 1).toNatClampNeg) (xs (nI i + 2).toNatClampNeg)) (f_X8_is (xs (nI i + 1).toNatClampNeg) (xs (nI i + 2).toNatClampNeg))) (hnext : ∀ σ1 τ1, R σ1 τ1 → lK Γ aC aM 757 [some (.ref b), some (.ref (aC 0)), some (.ref (aM 0)), some (.int (nI i))] [] σ1 τ1) : lK Γ aC aM 602 [some (.ref b), some (.ref (aC 0)), some (.ref (aM 0)), some (.int (nI i))] [] σ τ := by
  obtain ⟨r, σ1, τ1, h1, h2, h3⟩ := hsim σ τ hR
  refine l_aload_n hC dL_law_602 rfl ?_
  refine l_aload_n hC dL_law_603 rfl ?_
  refine l_iload_n hC dL_law_604 rfl ?_
  refine l_iconst hC dL_law_605 ki_1 ?_
  refine l_iadd hC dL_law_606 ?_
  refine l_sld hC (l_in (k := 1) (by omega) hL rfl) dL_law_607 ?_
  refine l_aload_n hC dL_law_608 rfl ?_
  refine l_iload_n hC dL_law_609 rfl ?_
  refine l_iconst hC dL_law_610 ki_2 ?_
  refine l_iadd hC dL_law_611 ?_
  refine l_sld hC (l_in (k := 2) (by omega) hL rfl) dL_law_612 ?_
  refine l_callC hC [.int (xs (nI i + 1).toNatClampNeg), .int (xs (nI i + 2).toNatClampNeg)] (c_X7_is (xs (nI i + 1).toNatClampNeg) (xs (nI i + 2).toNatClampNeg)) yy_X7_is wl_L_82 dL_law_613 rfl rfl rfl (Nat.le_of_ble_eq_true rfl) (by decide) h1 ?_
  refine l_aload_n hC dL_law_616 rfl ?_
  refine l_aload_n hC dL_law_617 rfl ?_
  refine l_iload_n hC dL_law_618 rfl ?_
  refine l_iconst hC dL_law_619 ki_1 ?_
  refine l_iadd hC dL_law_620 ?_
  refine l_sld hC (l_in (k := 1) (by omega) hL rfl) dL_law_621 ?_
  refine l_aload_n hC dL_law_622 rfl ?_
  refine l_iload_n hC dL_law_623 rfl ?_
  refine l_iconst hC dL_law_624 ki_2 ?_
  refine l_iadd hC dL_law_625 ?_
  refine l_sld hC (l_in (k := 2) (by omega) hL rfl) dL_law_626 ?_
  refine l_callM hC [.int (xs (nI i + 1).toNatClampNeg), .int (xs (nI i + 2).toNatClampNeg)] (c_X8_is (xs (nI i + 1).toNatClampNeg) (xs (nI i + 2).toNatClampNeg)) yy_X8_is wl_L_85 dL_law_627 rfl rfl rfl (Nat.le_of_ble_eq_true rfl) (by decide) h2 ?_
  refine l_icmp_same hC 757 dL_law_630 (by decide) ?_
  exact hnext σ1 τ1 h3
set_option maxRecDepth 100000 in
set_option maxHeartbeats 4000000 in
theorem l_case_walks {Γ : zG} {aC aM : Nat → Nat} {b L i : Nat} {xs : Nat → Int32} {σ τ : zS} {R : zS → zS → Prop} (hC : lX Γ aC aM b L xs) (hL : L ≤ 2048) (hi : i + 4 ≤ L) (hR : R σ τ) (hsim : Sm R (f_X7_walks (xs (nI i + 1).toNatClampNeg) (xs (nI i + 2).toNatClampNeg)) (f_X8_walks (xs (nI i + 1).toNatClampNeg) (xs (nI i + 2).toNatClampNeg))) (hnext : ∀ σ1 τ1, R σ1 τ1 → lK Γ aC aM 757 [some (.ref b), some (.ref (aC 0)), some (.ref (aM 0)), some (.int (nI i))] [] σ1 τ1) : lK Γ aC aM 635 [some (.ref b), some (.ref (aC 0)), some (.ref (aM 0)), some (.int (nI i))] [] σ τ := by
  obtain ⟨r, σ1, τ1, h1, h2, h3⟩ := hsim σ τ hR
  refine l_aload_n hC dL_law_635 rfl ?_
  refine l_aload_n hC dL_law_636 rfl ?_
  refine l_iload_n hC dL_law_637 rfl ?_
  refine l_iconst hC dL_law_638 ki_1 ?_
  refine l_iadd hC dL_law_639 ?_
  refine l_sld hC (l_in (k := 1) (by omega) hL rfl) dL_law_640 ?_
  refine l_aload_n hC dL_law_641 rfl ?_
  refine l_iload_n hC dL_law_642 rfl ?_
  refine l_iconst hC dL_law_643 ki_2 ?_
  refine l_iadd hC dL_law_644 ?_
  refine l_sld hC (l_in (k := 2) (by omega) hL rfl) dL_law_645 ?_
  refine l_callC hC [.int (xs (nI i + 1).toNatClampNeg), .int (xs (nI i + 2).toNatClampNeg)] (c_X7_walks (xs (nI i + 1).toNatClampNeg) (xs (nI i + 2).toNatClampNeg)) yy_X7_walks wl_L_86 dL_law_646 rfl rfl rfl (Nat.le_of_ble_eq_true rfl) (by decide) h1 ?_
  refine l_aload_n hC dL_law_649 rfl ?_
  refine l_aload_n hC dL_law_650 rfl ?_
  refine l_iload_n hC dL_law_651 rfl ?_
  refine l_iconst hC dL_law_652 ki_1 ?_
  refine l_iadd hC dL_law_653 ?_
  refine l_sld hC (l_in (k := 1) (by omega) hL rfl) dL_law_654 ?_
  refine l_aload_n hC dL_law_655 rfl ?_
  refine l_iload_n hC dL_law_656 rfl ?_
  refine l_iconst hC dL_law_657 ki_2 ?_
  refine l_iadd hC dL_law_658 ?_
  refine l_sld hC (l_in (k := 2) (by omega) hL rfl) dL_law_659 ?_
  refine l_callM hC [.int (xs (nI i + 1).toNatClampNeg), .int (xs (nI i + 2).toNatClampNeg)] (c_X8_walks (xs (nI i + 1).toNatClampNeg) (xs (nI i + 2).toNatClampNeg)) yy_X8_walks wl_L_89 dL_law_660 rfl rfl rfl (Nat.le_of_ble_eq_true rfl) (by decide) h2 ?_
  refine l_icmp_same hC 757 dL_law_663 (by decide) ?_
  exact hnext σ1 τ1 h3
set_option maxRecDepth 100000 in
set_option maxHeartbeats 4000000 in
theorem l_case_way {Γ : zG} {aC aM : Nat → Nat} {b L i : Nat} {xs : Nat → Int32} {σ τ : zS} {R : zS → zS → Prop} (hC : lX Γ aC aM b L xs) (hL : L ≤ 2048) (hi : i + 4 ≤ L) (hR : R σ τ) (hsim : Sm R (f_X7_way (xs (nI i + 1).toNatClampNeg) (xs (nI i + 2).toNatClampNeg)) (f_X8_way (xs (nI i + 1).toNatClampNeg) (xs (nI i + 2).toNatClampNeg))) (hnext : ∀ σ1 τ1, R σ1 τ1 → lK Γ aC aM 757 [some (.ref b), some (.ref (aC 0)), some (.ref (aM 0)), some (.int (nI i))] [] σ1 τ1) : lK Γ aC aM 668 [some (.ref b), some (.ref (aC 0)), some (.ref (aM 0)), some (.int (nI i))] [] σ τ := by
  obtain ⟨r, σ1, τ1, h1, h2, h3⟩ := hsim σ τ hR
  refine l_aload_n hC dL_law_668 rfl ?_
  refine l_aload_n hC dL_law_669 rfl ?_
  refine l_iload_n hC dL_law_670 rfl ?_
  refine l_iconst hC dL_law_671 ki_1 ?_
  refine l_iadd hC dL_law_672 ?_
  refine l_sld hC (l_in (k := 1) (by omega) hL rfl) dL_law_673 ?_
  refine l_aload_n hC dL_law_674 rfl ?_
  refine l_iload_n hC dL_law_675 rfl ?_
  refine l_iconst hC dL_law_676 ki_2 ?_
  refine l_iadd hC dL_law_677 ?_
  refine l_sld hC (l_in (k := 2) (by omega) hL rfl) dL_law_678 ?_
  refine l_callC hC [.int (xs (nI i + 1).toNatClampNeg), .int (xs (nI i + 2).toNatClampNeg)] (c_X7_way (xs (nI i + 1).toNatClampNeg) (xs (nI i + 2).toNatClampNeg)) yy_X7_way wl_L_90 dL_law_679 rfl rfl rfl (Nat.le_of_ble_eq_true rfl) (by decide) h1 ?_
  refine l_aload_n hC dL_law_682 rfl ?_
  refine l_aload_n hC dL_law_683 rfl ?_
  refine l_iload_n hC dL_law_684 rfl ?_
  refine l_iconst hC dL_law_685 ki_1 ?_
  refine l_iadd hC dL_law_686 ?_
  refine l_sld hC (l_in (k := 1) (by omega) hL rfl) dL_law_687 ?_
  refine l_aload_n hC dL_law_688 rfl ?_
  refine l_iload_n hC dL_law_689 rfl ?_
  refine l_iconst hC dL_law_690 ki_2 ?_
  refine l_iadd hC dL_law_691 ?_
  refine l_sld hC (l_in (k := 2) (by omega) hL rfl) dL_law_692 ?_
  refine l_callM hC [.int (xs (nI i + 1).toNatClampNeg), .int (xs (nI i + 2).toNatClampNeg)] (c_X8_way (xs (nI i + 1).toNatClampNeg) (xs (nI i + 2).toNatClampNeg)) yy_X8_way wl_L_93 dL_law_693 rfl rfl rfl (Nat.le_of_ble_eq_true rfl) (by decide) h2 ?_
  refine l_icmp_same hC 757 dL_law_696 (by decide) ?_
  exact hnext σ1 τ1 h3
set_option maxRecDepth 100000 in
set_option maxHeartbeats 4000000 in
theorem l_case_row {Γ : zG} {aC aM : Nat → Nat} {b L i : Nat} {xs : Nat → Int32} {σ τ : zS} {R : zS → zS → Prop} (hC : lX Γ aC aM b L xs) (hL : L ≤ 2048) (hi : i + 4 ≤ L) (hR : R σ τ) (hsim : Sm R (f_X7_row (xs (nI i + 1).toNatClampNeg) (xs (nI i + 2).toNatClampNeg)) (f_X8_row (xs (nI i + 1).toNatClampNeg) (xs (nI i + 2).toNatClampNeg))) (hnext : ∀ σ1 τ1, R σ1 τ1 → lK Γ aC aM 757 [some (.ref b), some (.ref (aC 0)), some (.ref (aM 0)), some (.int (nI i))] [] σ1 τ1) : lK Γ aC aM 701 [some (.ref b), some (.ref (aC 0)), some (.ref (aM 0)), some (.int (nI i))] [] σ τ := by
  obtain ⟨r, σ1, τ1, h1, h2, h3⟩ := hsim σ τ hR
  refine l_aload_n hC dL_law_701 rfl ?_
  refine l_aload_n hC dL_law_702 rfl ?_
  refine l_iload_n hC dL_law_703 rfl ?_
  refine l_iconst hC dL_law_704 ki_1 ?_
  refine l_iadd hC dL_law_705 ?_
  refine l_sld hC (l_in (k := 1) (by omega) hL rfl) dL_law_706 ?_
  refine l_aload_n hC dL_law_707 rfl ?_
  refine l_iload_n hC dL_law_708 rfl ?_
  refine l_iconst hC dL_law_709 ki_2 ?_
  refine l_iadd hC dL_law_710 ?_
  refine l_sld hC (l_in (k := 2) (by omega) hL rfl) dL_law_711 ?_
  refine l_callC hC [.int (xs (nI i + 1).toNatClampNeg), .int (xs (nI i + 2).toNatClampNeg)] (c_X7_row (xs (nI i + 1).toNatClampNeg) (xs (nI i + 2).toNatClampNeg)) yy_X7_row wl_L_94 dL_law_712 rfl rfl rfl (Nat.le_of_ble_eq_true rfl) (by decide) h1 ?_
  refine l_aload_n hC dL_law_715 rfl ?_
  refine l_aload_n hC dL_law_716 rfl ?_
  refine l_iload_n hC dL_law_717 rfl ?_
  refine l_iconst hC dL_law_718 ki_1 ?_
  refine l_iadd hC dL_law_719 ?_
  refine l_sld hC (l_in (k := 1) (by omega) hL rfl) dL_law_720 ?_
  refine l_aload_n hC dL_law_721 rfl ?_
  refine l_iload_n hC dL_law_722 rfl ?_
  refine l_iconst hC dL_law_723 ki_2 ?_
  refine l_iadd hC dL_law_724 ?_
  refine l_sld hC (l_in (k := 2) (by omega) hL rfl) dL_law_725 ?_
  refine l_callM hC [.int (xs (nI i + 1).toNatClampNeg), .int (xs (nI i + 2).toNatClampNeg)] (c_X8_row (xs (nI i + 1).toNatClampNeg) (xs (nI i + 2).toNatClampNeg)) yy_X8_row wl_L_97 dL_law_726 rfl rfl rfl (Nat.le_of_ble_eq_true rfl) (by decide) h2 ?_
  refine l_icmp_same hC 757 dL_law_729 (by decide) ?_
  exact hnext σ1 τ1 h3
set_option maxRecDepth 100000 in
set_option maxHeartbeats 4000000 in
theorem l_case_minutes {Γ : zG} {aC aM : Nat → Nat} {b L i : Nat} {xs : Nat → Int32} {σ τ : zS} {R : zS → zS → Prop} (hC : lX Γ aC aM b L xs) (hL : L ≤ 2048) (hi : i + 4 ≤ L) (hR : R σ τ) (hsim : Sm R (f_X7_minutes (xs (nI i + 1).toNatClampNeg)) (f_X8_minutes (xs (nI i + 1).toNatClampNeg))) (hnext : ∀ σ1 τ1, R σ1 τ1 → lK Γ aC aM 757 [some (.ref b), some (.ref (aC 0)), some (.ref (aM 0)), some (.int (nI i))] [] σ1 τ1) : lK Γ aC aM 734 [some (.ref b), some (.ref (aC 0)), some (.ref (aM 0)), some (.int (nI i))] [] σ τ := by
  obtain ⟨r, σ1, τ1, h1, h2, h3⟩ := hsim σ τ hR
  refine l_aload_n hC dL_law_734 rfl ?_
  refine l_aload_n hC dL_law_735 rfl ?_
  refine l_iload_n hC dL_law_736 rfl ?_
  refine l_iconst hC dL_law_737 ki_1 ?_
  refine l_iadd hC dL_law_738 ?_
  refine l_sld hC (l_in (k := 1) (by omega) hL rfl) dL_law_739 ?_
  refine l_callC hC [.int (xs (nI i + 1).toNatClampNeg)] (c_X7_minutes (xs (nI i + 1).toNatClampNeg)) yy_X7_minutes wl_L_98 dL_law_740 rfl rfl rfl (Nat.le_of_ble_eq_true rfl) (by decide) h1 ?_
  refine l_aload_n hC dL_law_743 rfl ?_
  refine l_aload_n hC dL_law_744 rfl ?_
  refine l_iload_n hC dL_law_745 rfl ?_
  refine l_iconst hC dL_law_746 ki_1 ?_
  refine l_iadd hC dL_law_747 ?_
  refine l_sld hC (l_in (k := 1) (by omega) hL rfl) dL_law_748 ?_
  refine l_callM hC [.int (xs (nI i + 1).toNatClampNeg)] (c_X8_minutes (xs (nI i + 1).toNatClampNeg)) yy_X8_minutes wl_L_101 dL_law_749 rfl rfl rfl (Nat.le_of_ble_eq_true rfl) (by decide) h2 ?_
  refine l_icmp_same hC 757 dL_law_752 (by decide) ?_
  exact hnext σ1 τ1 h3
