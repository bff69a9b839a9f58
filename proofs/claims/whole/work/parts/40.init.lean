theorem y_D_iff {A : Nat → Prop} {ws : va_W} : va_D A ws ↔ (ws.map Prod.fst).Nodup ∧ ∀ q ∈ ws, A q.1 := by
  constructor
  · intro h
    refine ⟨List.pairwise_iff_getElem.mpr (fun i j hi hj hij => ?_), fun q hq => ?_⟩
    · rw [List.length_map] at hi hj
      rw [List.getElem_map, List.getElem_map]
      intro e
      have := h.1 i j ws[i] ws[j] (List.getElem?_eq_getElem hi) (List.getElem?_eq_getElem hj) e
      omega
    · obtain ⟨i, hi⟩ := List.getElem?_of_mem hq
      exact h.2 i q hi
  · intro h
    refine ⟨fun i j p q hi hj e => ?_, fun k q hk => h.2 q (List.mem_of_getElem? hk)⟩
    obtain ⟨li, ei⟩ := List.getElem?_eq_some_iff.mp hi
    obtain ⟨lj, ej⟩ := List.getElem?_eq_some_iff.mp hj
    have hp := List.pairwise_iff_getElem.mp h.1
    rcases Nat.lt_trichotomy i j with h1 | h1 | h1
    · exact absurd (by rw [List.getElem_map, List.getElem_map, ei, ej]; exact e) (hp i j (by rw [List.length_map]; exact li) (by rw [List.length_map]; exact lj) h1)
    · exact h1
    · exact absurd (by rw [List.getElem_map, List.getElem_map, ei, ej]; exact e.symm) (hp j i (by rw [List.length_map]; exact lj) (by rw [List.length_map]; exact li) h1)
theorem y_D_perm {A : Nat → Prop} {w1 w2 : va_W} (h : w1.Perm w2) (hD : va_D A w1) : va_D A w2 := by
  rw [y_D_iff] at hD ⊢
  exact ⟨(h.map _).nodup hD.1, fun q hq => hD.2 q (h.mem_iff.mpr hq)⟩
theorem y_P_mem {D : va_G} {cl : List vw_C} {w1 w2 : va_W} {H : Heap} (h : ∀ q ∈ w2, q ∈ w1) (hP : va_P D cl w1 H) : va_P D cl w2 H := fun k q hk => by
  obtain ⟨i, hi⟩ := List.getElem?_of_mem (h q (List.mem_of_getElem? hk))
  exact hP i q hi
theorem y_P_perm {D : va_G} {cl : List vw_C} {w1 w2 : va_W} {H : Heap} (h : w1.Perm w2) (hP : va_P D cl w1 H) : va_P D cl w2 H := y_P_mem (fun q hq => h.mem_iff.mpr hq) hP
theorem y_perm1 {α : Type} {B W x : List α} : ((B ++ W) ++ x).Perm ((B ++ x) ++ W) := by
  rw [List.append_assoc, List.append_assoc]
  exact List.Perm.append_left B List.perm_append_comm
theorem y_perm2 {α : Type} {B W x : List α} : ((B ++ x) ++ W).Perm (x ++ (B ++ W)) := by
  rw [← List.append_assoc]
  exact List.Perm.append_right W List.perm_append_comm
theorem y_KI {D : va_G} {cA : Nat → ClassId} {c' : ClassId} {s : State} (h : va_K D vwCl (z_ty cA ++ [(c', .int)]) s) : c' = cA 0 := by
  have h1 : s.vm.findClass ("[" ++ FieldType.int.toString) = some (cA 0) := (h.2 0 _ rfl).2
  have h2 : s.vm.findClass ("[" ++ FieldType.int.toString) = some c' := (h.2 3 _ rfl).2
  rw [h1] at h2
  exact (Option.some.inj h2).symm
theorem y_KZ {D : va_G} {cA : Nat → ClassId} {c' : ClassId} {s : State} (h : va_K D vwCl (z_ty cA ++ [(c', .boolean)]) s) : c' = cA 1 := by
  have h1 : s.vm.findClass ("[" ++ FieldType.boolean.toString) = some (cA 1) := (h.2 1 _ rfl).2
  have h2 : s.vm.findClass ("[" ++ FieldType.boolean.toString) = some c' := (h.2 3 _ rfl).2
  rw [h1] at h2
  exact (Option.some.inj h2).symm
theorem y_KM {D : va_G} {cA : Nat → ClassId} {c' : ClassId} {s : State} (h : va_K D vwCl (z_ty cA ++ [(c', .object "TurnClock$Moment")]) s) : c' = cA 2 := by
  obtain ⟨k1, p1, a1, a2, a3, h1⟩ := (h.2 2 (cA 2, .object "TurnClock$Moment") rfl).2
  obtain ⟨k2, p2, b1, b2, b3, h2⟩ := (h.2 3 (c', .object "TurnClock$Moment") rfl).2
  rw [h1] at h2
  exact (Option.some.inj h2).symm
abbrev yAO (U : State) : Prop := va_AO "TurnClock$Moment" U
def yX (Γ : zG) (cc : ByteArray) (own : String) (nL : Nat) (rm : Room) (ret : Option FieldType) (ini : Bool) : Prop := match Γ with
  | (p, l, e, R, s, m, args, below, meth, c, cA, D, W0, lo) => p.tables.exec = Jvm.exec ∧ c.code = cc ∧ c.maxLocals = nL ∧ s.vm.findClass own = some m.cls ∧ (∀ w ∈ z_TB, w.before args s = true) ∧ va_K D vwCl (z_ty cA) s ∧ z_N s ∧ yAO s ∧ R = rm ∧ meth.sig.returnType = ret ∧ meth.locks = false ∧ lo ≤ s.heap.size ∧ (ini = true → meth.name = "<init>")
def yK (Γ : zG) (nL : Nat) (cells slots : Nat) (Q : State → Prop) (pc : Nat) (lv : List (Option Value)) (st : List Value) (ws : va_W) : Prop := match Γ with
  | (p, l, e, R, s, m, args, below, meth, c, cA, D, W0, lo) => ∀ (ls : Array Slot) (H : Heap) (locs : List Loc), z_h ls nL lv → va_P D vwCl ws H → va_D (fun q => lo ≤ q) ws → va_S (fun q => lo ≤ q) s.heap H locs → W p l e R s m args below meth c H locs cells slots Q (F0 m pc ls st)
def y_cA (Γ : zG) : Nat → ClassId := Γ.2.2.2.2.2.2.2.2.2.2.1
/-- a constructor's contract: the new object becomes a block of cells; all else stays -/
def yM (y : MethodName) (cd : ByteArray) (mL : Nat) (rm : Room) (mc ms ci : Nat) (fs0 : List Value) (blk : (Nat → ClassId) → (Nat → Nat) → va_W) : Prop :=
  ∀ (l : Launch) (cA : Nat → ClassId) (D : va_G) (W0 : va_W) (lo h0 : Nat), Met l y (.code y cd mL none :: z_TB) rm
    (va_Pc [.ref h0] (fun U => lo ≤ U.heap.size ∧ va_P D vwCl ([(h0, .inr (ci, fs0))] ++ W0) U.heap ∧ va_D (fun q => lo ≤ q) ([(h0, .inr (ci, fs0))] ++ W0) ∧ va_K D vwCl (z_ty cA) U ∧ z_N U ∧ yAO U))
    (va_Qv (fun a : Nat → Nat => a 0 = h0) (fun a t => va_P D vwCl (blk cA a ++ W0) t.heap ∧ va_D (fun q => lo ≤ q) (blk cA a ++ W0)) (fun q => lo ≤ q)) mc ms (fun q => lo ≤ q)
def yQ (Γ : zG) (h0 mc ms : Nat) (blk : (Nat → ClassId) → (Nat → Nat) → va_W) : State → Prop := match Γ with
  | (p, l, e, R, s, m, args, below, meth, c, cA, D, W0, lo) => MQ below (va_Qv (fun a : Nat → Nat => a 0 = h0) (fun a t => va_P D vwCl (blk cA a ++ W0) t.heap ∧ va_D (fun q => lo ≤ q) (blk cA a ++ W0)) (fun q => lo ≤ q)) args s mc ms (fun q => lo ≤ q)
def y_W0 (Γ : zG) : va_W := Γ.2.2.2.2.2.2.2.2.2.2.2.2.1
theorem yM_of {y : MethodName} {cd : ByteArray} {mL : Nat} {rm : Room} {mc ms ci : Nat} {fs0 : List Value} {blk : (Nat → ClassId) → (Nat → Nat) → va_W} {own : String} (hy : plainName y.cls = true) (hcls : y.cls = own) (hnm : y.name = "<init>") (hl : 1 ≤ mL)
    (walk : ∀ (Γ : zG) (h0 : Nat), yX Γ cd own mL rm none true → yK Γ mL 0 0 (yQ Γ h0 mc ms blk) 0 (z_lv [.ref h0] mL) [] ([(h0, .inr (ci, fs0))] ++ y_W0 Γ)) : yM y cd mL rm mc ms ci fs0 blk := by
  intro l cA D W0 lo h0
  refine Met.ofW (cc := cd) (maxL := mL) (ret := none) hy rfl ?_
  intro p e s m args below meth c s₁ B hml hv
  obtain ⟨rfl, hlo, hP, hD, hK, hN, hAO⟩ := hv
  have hts := atoms_spec (ws := .code y cd mL none :: z_TB) B.pre
  have hown : s.vm.findClass own = some m.cls := hcls ▸ findClass_of_methodNamed B.named
  have hin : meth.name = "<init>" := (name_of_methodNamed B.named B.method).1.trans hnm
  rw [lg_entry_eq]
  exact walk (p, l, e, rm, s, m, [Value.ref h0].toArray, below, meth, c, cA, D, W0, lo) h0 ⟨B.exec, B.bytes, hml, hown, fun w hw => hts w (List.mem_cons_of_mem _ hw), hK, hN, hAO, rfl, B.returns, B.notSynchronized, hlo, fun _ => hin⟩ _ s.heap [] (z_h_entry (by intro w hw; simp only [List.mem_cons, List.not_mem_nil, or_false] at hw; subst hw; rfl) hl) hP hD va_S.rf
section YR
variable {Γ : zG} {cc : ByteArray} {own : String} {nL : Nat} {rm : Room} {ret : Option FieldType} {ini : Bool} {cells slots : Nat} {Q : State → Prop} {pc : Nat} {lv : List (Option Value)} {st : List Value} {ws : va_W}
theorem y_iconst (hC : yX Γ cc own nL rm ret ini) {k : Int} {v : Int32} (hd : decode cc pc = .ok (.iconst k, 1)) (hv : Int32.ofInt k = v) (kk : yK Γ nL cells slots Q (pc + 1) lv (.int v :: st) ws) : yK Γ nL cells slots Q pc lv st ws := by
  obtain ⟨p, l, en, R, s, m, args, below, meth, c, cA, D, W0, lo⟩ := Γ
  obtain ⟨hx, hb, -⟩ := hC
  intro ls H locs hl hP hD hS
  exact lv_iconst hx hb hd hv (kk ls H locs hl hP hD hS)
theorem y_bipush (hC : yX Γ cc own nL rm ret ini) {k : Int} {v : Int32} (hd : decode cc pc = .ok (.bipush k, 2)) (hv : (Int8.ofInt k).toInt32 = v) (kk : yK Γ nL cells slots Q (pc + 2) lv (.int v :: st) ws) : yK Γ nL cells slots Q pc lv st ws := by
  obtain ⟨p, l, en, R, s, m, args, below, meth, c, cA, D, W0, lo⟩ := Γ
  obtain ⟨hx, hb, -⟩ := hC
  intro ls H locs hl hP hD hS
  exact lv_bipush hx hb hd hv (kk ls H locs hl hP hD hS)
theorem y_sipush (hC : yX Γ cc own nL rm ret ini) {k : Int} {v : Int32} (hd : decode cc pc = .ok (.sipush k, 3)) (hv : (Int16.ofInt k).toInt32 = v) (kk : yK Γ nL cells slots Q (pc + 3) lv (.int v :: st) ws) : yK Γ nL cells slots Q pc lv st ws := by
  obtain ⟨p, l, en, R, s, m, args, below, meth, c, cA, D, W0, lo⟩ := Γ
  obtain ⟨hx, hb, -⟩ := hC
  intro ls H locs hl hP hD hS
  exact lv_sipush hx hb hd hv (kk ls H locs hl hP hD hS)
theorem y_aload_n (hC : yX Γ cc own nL rm ret ini) {k : Fin 4} {x : Nat} (hd : decode cc pc = .ok (.aload_n k, 1)) (hv : lv[(k : Nat)]? = some (some (.ref x))) (kk : yK Γ nL cells slots Q (pc + 1) lv (.ref x :: st) ws) : yK Γ nL cells slots Q pc lv st ws := by
  obtain ⟨p, l, en, R, s, m, args, below, meth, c, cA, D, W0, lo⟩ := Γ
  obtain ⟨hx, hb, -⟩ := hC
  intro ls H locs hl hP hD hS
  exact lv_aload_n hx hb hd rfl (hl.2.2 _ _ hv).1 (kk ls H locs hl hP hD hS)
theorem y_iload_n (hC : yX Γ cc own nL rm ret ini) {k : Fin 4} {x : Int32} (hd : decode cc pc = .ok (.iload_n k, 1)) (hv : lv[(k : Nat)]? = some (some (.int x))) (kk : yK Γ nL cells slots Q (pc + 1) lv (.int x :: st) ws) : yK Γ nL cells slots Q pc lv st ws := by
  obtain ⟨p, l, en, R, s, m, args, below, meth, c, cA, D, W0, lo⟩ := Γ
  obtain ⟨hx, hb, -⟩ := hC
  intro ls H locs hl hP hD hS
  exact lv_iload_n hx hb hd rfl (hl.2.2 _ _ hv).1 (kk ls H locs hl hP hD hS)
theorem y_istore_n (hC : yX Γ cc own nL rm ret ini) {k : Fin 4} {x : Int32} (hd : decode cc pc = .ok (.istore_n k, 1)) {lv' : List (Option Value)} (hk : (k : Nat) < nL) (hv : lv.set (k : Nat) (some (.int x)) = lv') (kk : yK Γ nL cells slots Q (pc + 1) lv' st ws) : yK Γ nL cells slots Q pc lv (.int x :: st) ws := by
  subst hv
  obtain ⟨p, l, en, R, s, m, args, below, meth, c, cA, D, W0, lo⟩ := Γ
  obtain ⟨hx, hb, -⟩ := hC
  intro ls H locs hl hP hD hS
  exact lv_istore_n hx hb hd rfl (z_h_has hl) hk rfl (fun ls' h' => kk ls' H locs (z_h_set hl rfl h') hP hD hS)
theorem y_astore_n (hC : yX Γ cc own nL rm ret ini) {k : Fin 4} {x : Nat} (hd : decode cc pc = .ok (.astore_n k, 1)) {lv' : List (Option Value)} (hk : (k : Nat) < nL) (hv : lv.set (k : Nat) (some (.ref x)) = lv') (kk : yK Γ nL cells slots Q (pc + 1) lv' st ws) : yK Γ nL cells slots Q pc lv (.ref x :: st) ws := by
  subst hv
  obtain ⟨p, l, en, R, s, m, args, below, meth, c, cA, D, W0, lo⟩ := Γ
  obtain ⟨hx, hb, -⟩ := hC
  intro ls H locs hl hP hD hS
  exact lv_astore_n hx hb hd rfl (z_h_has hl) hk rfl (fun ls' h' => kk ls' H locs (z_h_set hl rfl h') hP hD hS)
theorem y_iinc (hC : yX Γ cc own nL rm ret ini) {k : Nat} {d : Int} {x v : Int32} (hd : decode cc pc = .ok (.iinc k d, 3)) {lv' : List (Option Value)} (hg : lv[k]? = some (some (.int x))) (hk : k < nL) (hx : Int32.ofInt d = v) (hv : lv.set k (some (.int (x + v))) = lv') (kk : yK Γ nL cells slots Q (pc + 3) lv' st ws) : yK Γ nL cells slots Q pc lv st ws := by
  subst hv
  subst hx
  obtain ⟨p, l, en, R, s, m, args, below, meth, c, cA, D, W0, lo⟩ := Γ
  obtain ⟨hx, hb, -⟩ := hC
  intro ls H locs hl hP hD hS
  obtain ⟨j, hj⟩ := List.getElem?_of_mem (z_pr_mem.mpr hg)
  exact lv_iinc hx hb hd (z_h_has hl) hj rfl hk rfl (fun ls' h' => kk ls' H locs (z_h_set hl rfl h') hP hD hS)
theorem y_dup (hC : yX Γ cc own nL rm ret ini) {v : Value} (hd : decode cc pc = .ok (.dup, 1)) (hv : v.category = 1) (kk : yK Γ nL cells slots Q (pc + 1) lv (v :: v :: st) ws) : yK Γ nL cells slots Q pc lv (v :: st) ws := by
  obtain ⟨p, l, en, R, s, m, args, below, meth, c, cA, D, W0, lo⟩ := Γ
  obtain ⟨hx, hb, -⟩ := hC
  intro ls H locs hl hP hD hS
  exact lv_dup hx hb hd hv (kk ls H locs hl hP hD hS)
theorem y_goto (hC : yX Γ cc own nL rm ret ini) {off : Int} (tgt : Nat) (hd : decode cc pc = .ok (.goto off, 3)) (ht : (pc : Int) + off = (tgt : Int)) (kk : yK Γ nL cells slots Q tgt lv st ws) : yK Γ nL cells slots Q pc lv st ws := by
  obtain ⟨p, l, en, R, s, m, args, below, meth, c, cA, D, W0, lo⟩ := Γ
  obtain ⟨hx, hb, -⟩ := hC
  intro ls H locs hl hP hD hS
  exact lv_goto hx hb hd ht (kk ls H locs hl hP hD hS)
theorem y_icmp_ge (hC : yX Γ cc own nL rm ret ini) {x y : Int32} {off : Int} (tgt : Nat) (hd : decode cc pc = .ok (.if_icmp .ge off, 3)) (ht : (pc : Int) + off = (tgt : Int)) (k1 : y ≤ x → yK Γ nL cells slots Q tgt lv st ws) (k2 : ¬ y ≤ x → yK Γ nL cells slots Q (pc + 3) lv st ws) : yK Γ nL cells slots Q pc lv (.int y :: .int x :: st) ws := by
  obtain ⟨p, l, en, R, s, m, args, below, meth, c, cA, D, W0, lo⟩ := Γ
  obtain ⟨hx, hb, -⟩ := hC
  intro ls H locs hl hP hD hS
  exact lv_icmp_ge hx hb hd ht (fun h => k1 h ls H locs hl hP hD hS) (fun h => k2 h ls H locs hl hP hD hS)
theorem y_perm {w2 : va_W} (h : ws.Perm w2) (kk : yK Γ nL cells slots Q pc lv st w2) : yK Γ nL cells slots Q pc lv st ws := by
  obtain ⟨p, l, en, R, s, m, args, below, meth, c, cA, D, W0, lo⟩ := Γ
  intro ls H locs hl hP hD hS
  exact kk ls H locs hl (y_P_perm h hP) (y_D_perm h hD) hS
theorem y_objI (hC : yX Γ cc own nL rm ret ini) {idx a : Nat} (hw1 : Cond.methodLink own idx Lib.objectInit ∈ z_TB) (hw2 : Cond.instanceMethod Lib.objectInit ∈ z_TB) (hw3 : Cond.code Lib.objectInit ⟨#[0xb1]⟩ 1 none ∈ z_TB) (hd : decode cc pc = .ok (.invokespecial idx, 3)) (hR : 1 ≤ rm.frames ∧ (st.map fun v => v.category).sum + 12 ≤ rm.locals) (kk : yK Γ nL cells slots Q (pc + 3) lv st ws) : yK Γ nL cells slots Q pc lv (.ref a :: st) ws := by
  obtain ⟨p, l, en, R, s, m, args, below, meth, c, cA, D, W0, lo⟩ := Γ
  obtain ⟨hx, hb, hml, hown, hts, hK, hN, hAO, rfl, -⟩ := hC
  intro ls H locs hl hP hD hS
  exact W.objInit hx hb hown (hts _ hw1) (hts _ hw2) (hts _ hw3) rfl (hl.1.trans hml.symm) rfl hd hR.1 (by show 2 * 0 + _ + 12 ≤ _; omega) (kk ls H locs hl hP hD hS)
theorem y_newI (hC : yX Γ cc own nL rm ret ini) {B W1 : va_W} {x : Int32} {N : Nat} (hw : Cond.arrayClass .int ∈ z_TB) (hd : decode cc pc = .ok (.newarray .int, 2)) (hx : ¬ x < 0 ∧ x.toNatClampNeg = N ∧ N ≤ 100000) (hR : cells + 1 ≤ rm.cells ∧ slots + N ≤ rm.slots)
    (kk : ∀ q : Nat, yK Γ nL (cells + 1) (slots + N) Q (pc + 2) lv (.ref q :: st) ((B ++ [(q, .inl (y_cA Γ 0, N, .inl (fun _ => 0)))]) ++ W1)) : yK Γ nL cells slots Q pc lv (.int x :: st) (B ++ W1) := by
  obtain ⟨p, l, en, R, s, m, args, below, meth, c, cA, D, W0, lo⟩ := Γ
  obtain ⟨hex, hb, hml, hown, hts, hK, hN, hAO, rfl, hr, hlk, hlo, -⟩ := hC
  intro ls H locs hl hP hD hS
  refine va_newa (a0 := (N, .inl (fun _ => 0))) hex hb (atype := .int) (hts _ hw) rfl hK hP hD hS (fun q hq => Nat.le_trans hlo hq) (fun cA => rfl) hx.1 hx.2.1 (by show N * 4 ≤ 536870912; have := hx.2.2; omega) hR.1 hR.2 hd (fun q c' H1 hK1 hP1 hD1 hS1 => ?_)
  have e := y_KI hK1
  subst e
  exact kk q ls H1 locs hl (y_P_perm y_perm1 hP1) (y_D_perm y_perm1 hD1) hS1
theorem y_newZ (hC : yX Γ cc own nL rm ret ini) {B W1 : va_W} {x : Int32} {N : Nat} (hw : Cond.arrayClass .boolean ∈ z_TB) (hd : decode cc pc = .ok (.newarray .boolean, 2)) (hx : ¬ x < 0 ∧ x.toNatClampNeg = N ∧ N ≤ 100000) (hR : cells + 1 ≤ rm.cells ∧ slots + N ≤ rm.slots)
    (kk : ∀ q : Nat, yK Γ nL (cells + 1) (slots + N) Q (pc + 2) lv (.ref q :: st) ((B ++ [(q, .inl (y_cA Γ 1, N, .inl (fun _ => 0)))]) ++ W1)) : yK Γ nL cells slots Q pc lv (.int x :: st) (B ++ W1) := by
  obtain ⟨p, l, en, R, s, m, args, below, meth, c, cA, D, W0, lo⟩ := Γ
  obtain ⟨hex, hb, hml, hown, hts, hK, hN, hAO, rfl, hr, hlk, hlo, -⟩ := hC
  intro ls H locs hl hP hD hS
  refine va_newa (a0 := (N, .inl (fun _ => 0))) hex hb (atype := .boolean) (hts _ hw) rfl hK hP hD hS (fun q hq => Nat.le_trans hlo hq) (fun cA => rfl) hx.1 hx.2.1 (by show N * 1 ≤ 536870912; have := hx.2.2; omega) hR.1 hR.2 hd (fun q c' H1 hK1 hP1 hD1 hS1 => ?_)
  have e := y_KZ hK1
  subst e
  exact kk q ls H1 locs hl (y_P_perm y_perm1 hP1) (y_D_perm y_perm1 hD1) hS1
theorem y_newM (hC : yX Γ cc own nL rm ret ini) {B W1 : va_W} {x : Int32} {N idx : Nat} (hw : Cond.classLink own idx "TurnClock$Moment" ∈ z_TB) (hd : decode cc pc = .ok (.anewarray idx, 3)) (hx : ¬ x < 0 ∧ x.toNatClampNeg = N ∧ N ≤ 100000) (hR : cells + 1 ≤ rm.cells ∧ slots + N ≤ rm.slots)
    (kk : ∀ q : Nat, yK Γ nL (cells + 1) (slots + N) Q (pc + 3) lv (.ref q :: st) ((B ++ [(q, .inl (y_cA Γ 2, N, .inr (.inr (.inr (.inr (fun _ => none))))))]) ++ W1)) : yK Γ nL cells slots Q pc lv (.int x :: st) (B ++ W1) := by
  obtain ⟨p, l, en, R, s, m, args, below, meth, c, cA, D, W0, lo⟩ := Γ
  obtain ⟨hex, hb, hml, hown, hts, hK, hN, hAO, rfl, hr, hlk, hlo, -⟩ := hC
  intro ls H locs hl hP hD hS
  refine va_newq hex hb hown (hts _ hw) hAO hK hP hD hS (fun q hq => Nat.le_trans hlo hq) hx.1 hx.2.1 (by have := hx.2.2; omega) hR.1 hR.2 hd (fun q c' H1 hK1 hP1 hD1 hS1 => ?_)
  have e := y_KM hK1
  subst e
  exact kk q ls H1 locs hl (y_P_perm y_perm1 hP1) (y_D_perm y_perm1 hD1) hS1
theorem y_new (hC : yX Γ cc own nL rm ret ini) {B W1 : va_W} {C : String} {T : u_T} {ci N idx : Nat} {fs : List Value} (ty : Nat → FieldType) (hty : ∀ k, k < N → parseFieldDescriptor (T k).2.2.1 = some (ty k)) (hcl : vwCl[ci]? = some (C, T, N)) (hin : ∀ w ∈ u_ws C T N, w ∈ z_TB) (hw1 : Cond.classLink own idx C ∈ z_TB) (hw2 : Cond.instantiable C N ∈ z_TB) (hw3 : Cond.initialized C ∈ z_TB) (hd : decode cc pc = .ok (.new idx, 3)) (hfs : ∀ j, j < N → defaultValue (ty j) = vp_V fs j) (hR : cells + 1 ≤ rm.cells ∧ slots + N ≤ rm.slots)
    (kk : ∀ q : Nat, yK Γ nL (cells + 1) (slots + N) Q (pc + 3) lv (.ref q :: st) ((B ++ [(q, .inr (ci, fs))]) ++ W1)) : yK Γ nL cells slots Q pc lv st (B ++ W1) := by
  obtain ⟨p, l, en, R, s, m, args, below, meth, c, cA, D, W0, lo⟩ := Γ
  obtain ⟨hex, hb, hml, hown, hts, hK, hN, hAO, rfl, hr, hlk, hlo, -⟩ := hC
  intro ls H locs hl hP hD hS
  exact va_new (ci := ci) (fs := fs) (C := C) (T := T) (N := N) hex hb hts hin ty hty hown (hts _ hw1) (hts _ hw2) (hts _ hw3) hK hP hD hS (fun q hq => Nat.le_trans hlo hq) hcl hfs hR.1 hR.2 hd (fun q H1 hP1 hD1 hS1 => kk q ls H1 locs hl (y_P_perm y_perm1 hP1) (y_D_perm y_perm1 hD1) hS1)
/-- a final field of the object under construction: the first cell of its block -/
theorem y_putF (hC : yX Γ cc own nL rm ret true) {B W1 : va_W} {C : String} {T : u_T} {ci k N idx h0 q : Nat} {fs : List Value} {ty : FieldType} (hf : zF own idx ci k C T N) (tys : Nat → FieldType) (hty : ∀ k, k < N → parseFieldDescriptor (T k).2.2.1 = some (tys k)) (hnm : ∀ a, a < N → ∀ b, b < N → a ≠ b → (T a).2.1 ≠ (T b).2.1) (hfin : (T k).2.2.2 = true) (hdecl : (T k).1 = own) (hpd : parseFieldDescriptor (T k).2.2.1 = some ty) (hnar : narrow ty (.ref q) = .ref q) (hfit : fits ty (.ref q) = true) (hlen : k < fs.length) (hd : decode cc pc = .ok (.putfield idx, 3))
    (kk : yK Γ nL cells slots Q (pc + 3) lv st (((h0, .inr (ci, fs.set k (.ref q))) :: B) ++ W1)) : yK Γ nL cells slots Q pc lv (.ref q :: .ref h0 :: st) (((h0, .inr (ci, fs)) :: B) ++ W1) := by
  obtain ⟨p, l, en, R, s, m, args, below, meth, c, cA, D, W0, lo⟩ := Γ
  obtain ⟨hex, hb, hml, hown, hts, hK, hN, hAO, rfl, hr, hlk, hlo, hin⟩ := hC
  intro ls H locs hl hP hD hS
  exact va_putF (D := D) hex hb hts hf.2.2.2 tys hty hnm hown hK hP hD hS 0 rfl hf.2.1 k hf.2.2.1 (hts _ hf.1) (fun _ h => h) hfin (hin rfl) hdecl hpd hnar hfit hlen hd (fun H1 locs1 hP1 hD1 hS1 => kk ls H1 locs1 hl hP1 hD1 hS1)
theorem y_puti (hC : yX Γ cc own nL rm ret ini) {B W1 : va_W} {C : String} {T : u_T} {ci k N idx h0 : Nat} {fs : List Value} {x : Int32} (hf : zP own idx ci k C T N .int) (hlen : k < fs.length) (hd : decode cc pc = .ok (.putfield idx, 3))
    (kk : yK Γ nL cells slots Q (pc + 3) lv st (((h0, .inr (ci, fs.set k (.int x))) :: B) ++ W1)) : yK Γ nL cells slots Q pc lv (.int x :: .ref h0 :: st) (((h0, .inr (ci, fs)) :: B) ++ W1) := by
  obtain ⟨p, l, en, R, s, m, args, below, meth, c, cA, D, W0, lo⟩ := Γ
  obtain ⟨hex, hb, hml, hown, hts, hK, hN, hAO, rfl, hr, hlk, hlo, hin⟩ := hC
  obtain ⟨hF, ⟨ty0, hty⟩, hnm, hfin, hpd⟩ := hf
  intro ls H locs hl hP hD hS
  exact va_put (D := D) hex hb hts hF.2.2.2 ty0 hty hnm hown hK hP hD hS 0 rfl hF.2.1 k hF.2.2.1 (hts _ hF.1) (fun _ h => h) hfin hpd rfl rfl hlen hd (fun H1 locs1 hP1 hD1 hS1 => kk ls H1 locs1 hl hP1 hD1 hS1)
theorem y_getr (hC : yX Γ cc own nL rm ret ini) {C : String} {T : u_T} {ci k N idx h0 r q0 : Nat} {fs : List Value} (hf : zF own idx ci k C T N) (hd : decode cc pc = .ok (.getfield idx, 3)) (he : ws[q0]? = some (h0, .inr (ci, fs))) (hv : fs[k]? = some (.ref r)) (kk : yK Γ nL cells slots Q (pc + 3) lv (.ref r :: st) ws) : yK Γ nL cells slots Q pc lv (.ref h0 :: st) ws := by
  obtain ⟨p, l, en, R, s, m, args, below, meth, c, cA, D, W0, lo⟩ := Γ
  obtain ⟨hex, hb, hml, hown, hts, hK, hN, hAO, rfl, hr, hlk, hlo, hin⟩ := hC
  intro ls H locs hl hP hD hS
  exact va_get (D := D) hex hb hts hf.2.2.2 hown hK hP q0 he hf.2.1 k hf.2.2.1 (hts _ hf.1) (fun _ h => h) hv hd (kk ls H locs hl hP hD hS)
theorem y_aast (hC : yX Γ cc own nL rm ret ini) {q0 k b v : Nat} {i : Int32} {f : Nat → Option Nat} {vs : List Value} {w2 : va_W} (hd : decode cc pc = .ok (.aastore, 1)) (ha : ws[q0]? = some (b, .inl (y_cA Γ 2, k, .inr (.inr (.inr (.inr f)))))) (hv : (v, .inr (4, vs)) ∈ ws) (hi : z_in i k) (hw2 : ws.set q0 (b, .inl (y_cA Γ 2, k, .inr (.inr (.inr (.inr (va_up f i.toNatClampNeg (some v))))))) = w2)
    (kk : yK Γ nL cells slots Q (pc + 1) lv st w2) : yK Γ nL cells slots Q pc lv (.ref v :: .int i :: .ref b :: st) ws := by
  subst hw2
  obtain ⟨p, l, en, R, s, m, args, below, meth, c, cA, D, W0, lo⟩ := Γ
  obtain ⟨hex, hb, hml, hown, hts, hK, hN, hAO, rfl, hr, hlk, hlo, hin⟩ := hC
  intro ls H locs hl hP hD hS
  obtain ⟨qk, hqk⟩ := List.getElem?_of_mem hv
  exact va_astq hex hb hK hP hD hS q0 2 qk 4 (r := (RX4, TX4, 15)) ha rfl hqk rfl (z_in_vp hi) hd (fun H1 locs1 hP1 hD1 hS1 => kk ls H1 locs1 hl hP1 hD1 hS1)
theorem y_vret {h0 : Nat} {blk : (Nat → ClassId) → (Nat → Nat) → va_W} (hC : yX Γ cc own nL rm none ini) (a : Nat → Nat) (ha : a 0 = h0) (hws : ws = blk (y_cA Γ) a ++ y_W0 Γ) (hd : decode cc pc = .ok (.return_, 1)) : yK Γ nL cells slots (yQ Γ h0 cells slots blk) pc lv [] ws := by
  subst hws
  obtain ⟨p, l, en, R, s, m, args, below, meth, c, cA, D, W0, lo⟩ := Γ
  obtain ⟨hx, hb, hml, hown, hts, hK, hN, hAO, rfl, hr, hlk, -⟩ := hC
  intro ls H locs hl1 hP hD hS
  exact W.vret hx hb hr (fun t ht hW => ⟨⟨a, rfl, ha, by rw [ht]; exact hP, hD⟩, hS.F ht⟩) hS.2.2 hd hlk
/-- calls of constructors: a nest mate's private one, and another -/
theorem y_callN (hC : yX Γ cc own nL rm ret ini) {B W1 : va_W} {y : MethodName} {cd : ByteArray} {mL mc ms ci idx q : Nat} {rmc : Room} {fs0 : List Value} {blk : (Nat → ClassId) → (Nat → Nat) → va_W} {host : String} (hM : yM y cd mL rmc mc ms ci fs0 blk) (hL : (own, idx, y, host) ∈ z_nest) (hw1 : Cond.instanceMethod y ∈ z_TB) (hw2 : Cond.initialized y.cls ∈ z_TB) (hw3 : Cond.code y cd mL none ∈ z_TB) (hY : y.name = "<init>" ∧ y.cls ≠ "java/lang/invoke/MethodHandle" ∧ y.cls ≠ "java/lang/invoke/VarHandle" ∧ (parseMethodDescriptor y.desc).map (fun d => d.parameters.length) = some 0) (hd : decode cc pc = .ok (.invokespecial idx, 3)) (hW : (st.map fun v => v.category).sum ≤ 8) (hR : rmc.cells = mc ∧ rmc.slots = ms ∧ rmc.frames + 1 ≤ rm.frames ∧ 8 + (mL + 11) + rmc.locals ≤ rm.locals) (hcs : cells + mc ≤ rm.cells ∧ slots + ms ≤ rm.slots)
    (kk : ∀ a : Nat → Nat, a 0 = q → yK Γ nL (cells + mc) (slots + ms) Q (pc + 3) lv st ((B ++ blk (y_cA Γ) a) ++ W1)) : yK Γ nL cells slots Q pc lv (.ref q :: st) ((B ++ [(q, .inr (ci, fs0))]) ++ W1) := by
  obtain ⟨p, l, en, R, s, m, args, below, meth, c, cA, D, W0, lo⟩ := Γ
  obtain ⟨hx, hb, hml, hown, hts, hK, hN, hAO, rfl, hr, hlk, hlo, -⟩ := hC
  obtain ⟨r1, r2, r3, r4⟩ := hR
  intro ls H locs hl hP hD hS
  have hP2 := y_P_perm y_perm2 hP
  have hD2 := y_D_perm y_perm2 hD
  refine va_callv (A0 := fun q => lo ≤ q) (va_runIN (As := []) (rest := st) (host := host) ⟨hx, hb, hml, hown, hts⟩ (hM l cA D (B ++ W1) lo q) ⟨va_cnB 0 hts (z_good hw3) rfl r1 r2 (hN _ hL) (hts _ hw2) hY.2 ⟨r3, r4⟩, hY.1, hts _ hw1⟩ ⟨fun a U g mk hq => ⟨hq.1, hq.2.1, hq.2.2.1, hq.2.2.2.1, va_K.moved (u := U) (U := U.calling g mk a) (Vm.Alike.refl U.vm) hq.2.2.2.2.1, z_N_vm rfl hq.2.2.2.2.2.1, va_AO.moved (Vm.Alike.refl U.vm) hq.2.2.2.2.2.2⟩, fun U hU hWm => ⟨rfl, by rw [hU]; exact Nat.le_trans hlo hS.1, by rw [hU]; exact hP2, hD2, va_K.moved hWm.alike hK, z_N_warm hWm hN, va_AO.moved hWm.alike hAO⟩⟩ rfl rfl hl.1 rfl (lv_room hW) hd hcs) hS (fun q _ h => h) (fun q h => h) (fun a t H1 locs1 ht hvm hw hB hz1 hk1 hS1 => ?_)
  exact kk a hw ls H1 locs1 hl (y_P_perm y_perm2.symm (by rw [← ht]; exact hB.1)) (y_D_perm y_perm2.symm hB.2) hS1
theorem y_callI (hC : yX Γ cc own nL rm ret ini) {B W1 : va_W} {y : MethodName} {cd : ByteArray} {mL mc ms ci idx q : Nat} {rmc : Room} {fs0 : List Value} {blk : (Nat → ClassId) → (Nat → Nat) → va_W} (hM : yM y cd mL rmc mc ms ci fs0 blk) (hL : Cond.methodLink own idx y ∈ z_TB) (hw1 : Cond.instanceMethod y ∈ z_TB) (hw2 : Cond.initialized y.cls ∈ z_TB) (hw3 : Cond.code y cd mL none ∈ z_TB) (hY : y.name = "<init>" ∧ y.cls ≠ "java/lang/invoke/MethodHandle" ∧ y.cls ≠ "java/lang/invoke/VarHandle" ∧ (parseMethodDescriptor y.desc).map (fun d => d.parameters.length) = some 0) (hd : decode cc pc = .ok (.invokespecial idx, 3)) (hW : (st.map fun v => v.category).sum ≤ 8) (hR : rmc.cells = mc ∧ rmc.slots = ms ∧ rmc.frames + 1 ≤ rm.frames ∧ 8 + (mL + 11) + rmc.locals ≤ rm.locals) (hcs : cells + mc ≤ rm.cells ∧ slots + ms ≤ rm.slots)
    (kk : ∀ a : Nat → Nat, a 0 = q → yK Γ nL (cells + mc) (slots + ms) Q (pc + 3) lv st ((B ++ blk (y_cA Γ) a) ++ W1)) : yK Γ nL cells slots Q pc lv (.ref q :: st) ((B ++ [(q, .inr (ci, fs0))]) ++ W1) := by
  obtain ⟨p, l, en, R, s, m, args, below, meth, c, cA, D, W0, lo⟩ := Γ
  obtain ⟨hx, hb, hml, hown, hts, hK, hN, hAO, rfl, hr, hlk, hlo, -⟩ := hC
  obtain ⟨r1, r2, r3, r4⟩ := hR
  intro ls H locs hl hP hD hS
  have hP2 := y_P_perm y_perm2 hP
  have hD2 := y_D_perm y_perm2 hD
  refine va_callv (A0 := fun q => lo ≤ q) (va_runI (As := []) (rest := st) ⟨hx, hb, hml, hown, hts⟩ (hM l cA D (B ++ W1) lo q) ⟨callB_of 0 hts (z_good hw3) rfl r1 r2 (hts _ hw2) (hts _ hL) hY.2 ⟨r3, r4⟩, hY.1, hts _ hw1⟩ ⟨fun a U g mk hq => ⟨hq.1, hq.2.1, hq.2.2.1, hq.2.2.2.1, va_K.moved (u := U) (U := U.calling g mk a) (Vm.Alike.refl U.vm) hq.2.2.2.2.1, z_N_vm rfl hq.2.2.2.2.2.1, va_AO.moved (Vm.Alike.refl U.vm) hq.2.2.2.2.2.2⟩, fun U hU hWm => ⟨rfl, by rw [hU]; exact Nat.le_trans hlo hS.1, by rw [hU]; exact hP2, hD2, va_K.moved hWm.alike hK, z_N_warm hWm hN, va_AO.moved hWm.alike hAO⟩⟩ rfl rfl hl.1 rfl (lv_room hW) hd hcs) hS (fun q _ h => h) (fun q h => h) (fun a t H1 locs1 ht hvm hw hB hz1 hk1 hS1 => ?_)
  exact kk a hw ls H1 locs1 hl (y_P_perm y_perm2.symm (by rw [← ht]; exact hB.1)) (y_D_perm y_perm2.symm hB.2) hS1
end YR
