theorem z_TB_in {w : Cond} (h : w ∈ z_TB) : w ∈ lw_tbl := (List.mem_filter.mp h).1
theorem z_TB_good {w : Cond} (h : w ∈ z_TB) : goodWord w = true := (List.mem_filter.mp h).2
theorem z_good {y : Cond} (h : y ∈ z_TB) : GoodIn z_TB (y :: z_TB) := fun w hw => by
  rcases List.mem_cons.mp hw with rfl | hw
  · exact ⟨h, good_of_word (z_TB_good h)⟩
  · exact ⟨hw, good_of_word (z_TB_good hw)⟩
theorem z_args_mem : ∀ (vs : List Value) (i j : Nat) (v : Value), (∀ w ∈ vs, w.category = 1) → vs[j]? = some v → (i + j, v) ∈ lv_args i vs
  | [], i, j, v, _, h => by simp at h
  | w :: vs, i, 0, v, hc, h => by
    have e : w = v := by simpa using h
    subst e
    simp [lv_args]
  | w :: vs, i, j + 1, v, hc, h => by
    have hw : w.category = 1 := hc w List.mem_cons_self
    have h2 : ¬ w.category = 2 := by omega
    rw [List.getElem?_cons_succ] at h
    have := z_args_mem vs (i + 1) j v (fun x hx => hc x (List.mem_cons_of_mem _ hx)) h
    simp only [lv_args, h2, if_false]
    exact List.mem_cons_of_mem _ (by rw [show i + (j + 1) = i + 1 + j by omega]; exact this)
theorem z_sl_len : ∀ (vs : List Value), (∀ w ∈ vs, w.category = 1) → (lg_sl vs).length = vs.length
  | [], _ => rfl
  | w :: vs, hc => by
    have hw : w.category = 1 := hc w List.mem_cons_self
    have := z_sl_len vs (fun x hx => hc x (List.mem_cons_of_mem _ hx))
    simp [lg_sl] at this ⊢
    simp [hw, this]
    omega
theorem z_h_entry {vs : List Value} {mL : Nat} (hc : ∀ w ∈ vs, w.category = 1) (hl : vs.length ≤ mL) : z_h ((lg_sl vs ++ List.replicate (mL - (lg_sl vs).length) Slot.unset).toArray) mL (z_lv vs mL) := by
  have h := lv_entry vs (n := mL) (by rw [z_sl_len vs hc]; exact hl)
  refine ⟨h.1, h.2.1, fun i v hi => ?_⟩
  have hi2 : vs[i]? = some v := by
    unfold z_lv at hi
    by_cases hlt : i < vs.length
    · rw [List.getElem?_append_left (by rw [List.length_map]; exact hlt), List.getElem?_map] at hi
      cases hv : vs[i]? with
      | none => rw [hv] at hi; cases hi
      | some w => rw [hv] at hi; exact congrArg some (Option.some.inj (Option.some.inj hi))
    · rw [List.getElem?_append_right (by rw [List.length_map]; omega), List.getElem?_replicate] at hi
      split at hi <;> cases hi
  refine ⟨?_, hc v (List.mem_of_getElem? hi2)⟩
  have := h.2.2 (0 + i, v) (z_args_mem vs 0 i v hc hi2)
  simpa using this
/-- a contract out of a walk -/
theorem zM_of {lay : Nat → zL} {n : Nat} {y : MethodName} {cd : ByteArray} {mL : Nat} {ret : Option FieldType} {rm : Room} {av : (Nat → Nat) → List Value} {f : zS → Option (Int32 × zS)} {own : String} (hy : plainName y.cls = true) (hcls : y.cls = own) (hc : ∀ ad, ∀ w ∈ av ad, w.category = 1) (hl : ∀ ad, (av ad).length ≤ mL)
    (walk : ∀ (Γ : zG) (ad : Nat → Nat), zX Γ lay n ad cd own mL rm ret → ∀ σ, zK Γ lay n ad mL ret 0 (z_lv (av ad) mL) [] σ (f σ) some) : zM lay n y cd mL ret rm av f := by
  intro l ad cA D W0 lo σ out ho
  refine Met.ofW (cc := cd) (maxL := mL) (ret := ret) hy rfl ?_
  intro p e s m args below meth c s₁ B hml hv
  obtain ⟨rfl, hP, hK, hN, hD⟩ := hv
  have hts := atoms_spec (ws := .code y cd mL ret :: z_TB) B.pre
  have hown : s.vm.findClass own = some m.cls := hcls ▸ findClass_of_methodNamed B.named
  rw [lg_entry_eq]
  exact walk (p, l, e, rm, s, m, (av ad).toArray, below, meth, c, cA, D, W0, lo) ad ⟨B.exec, B.bytes, hml, hown, fun w hw => hts w (List.mem_cons_of_mem _ hw), hK, hN, hD, rfl, B.returns, B.notSynchronized⟩ σ out (by rw [ho]; rfl) _ s.heap [] (z_h_entry (hc ad) (hl ad)) hP va_S.rf
def zg {α : Type} (c : Prop) [Decidable c] (e : Option α) : Option α := if c then e else none
section ZR
variable {Γ : zG} {lay : Nat → zL} {n : Nat} {ad : Nat → Nat} {cc : ByteArray} {own : String} {nL : Nat} {rm : Room} {ret : Option FieldType} {pc : Nat} {lv : List (Option Value)} {st : List Value} {σ : zS} {α : Type} {e : Option α} {K : α → Option (Int32 × zS)}
/-- pure steps -/
theorem z_ite {c : Prop} {d : Decidable c} {e1 e2 : Option α} (k1 : c → zK Γ lay n ad nL ret pc lv st σ e1 K) (k2 : ¬ c → zK Γ lay n ad nL ret pc lv st σ e2 K) : zK Γ lay n ad nL ret pc lv st σ (if c then e1 else e2) K := by
  by_cases h : c
  · rw [if_pos h]; exact k1 h
  · rw [if_neg h]; exact k2 h
theorem z_chk {c : Prop} {d : Decidable c} {e1 : Option α} (k1 : c → zK Γ lay n ad nL ret pc lv st σ e1 K) : zK Γ lay n ad nL ret pc lv st σ (zg c e1) K := by
  unfold zg
  by_cases h : c
  · rw [if_pos h]; exact k1 h
  · rw [if_neg h]
    obtain ⟨p, l, en, R, s, m, args, below, meth, c, cA, D, W0, lo⟩ := Γ
    intro out ho
    cases ho
theorem z_none : zK Γ lay n ad nL ret pc lv st σ (none : Option α) K := by
  obtain ⟨p, l, en, R, s, m, args, below, meth, c, cA, D, W0, lo⟩ := Γ
  intro out ho
  cases ho
theorem z_bind {β : Type} {f : Option β} {g : β → Option α} (k : ∀ b, f = some b → zK Γ lay n ad nL ret pc lv st σ (g b) K) : zK Γ lay n ad nL ret pc lv st σ (f.bind g) K := by
  cases f with
  | none => exact z_none (α := α) (K := K)
  | some b => exact k b rfl
theorem z_forget (ks : List Nat) {lv' : List (Option Value)} (h : z_keep ks lv = lv') (k : zK Γ lay n ad nL ret pc lv' st σ e K) : zK Γ lay n ad nL ret pc lv st σ e K := by
  subst h
  obtain ⟨p, l, en, R, s, m, args, below, meth, c, cA, D, W0, lo⟩ := Γ
  intro out ho ls H locs hl hP hS
  exact k out ho ls H locs (z_h_keep ks hl) hP hS
/-- constants -/
theorem z_iconst (hC : zX Γ lay n ad cc own nL rm ret) {k : Int} {v : Int32} (hd : decode cc pc = .ok (.iconst k, 1)) (hv : Int32.ofInt k = v) (kk : zK Γ lay n ad nL ret (pc + 1) lv (.int v :: st) σ e K) : zK Γ lay n ad nL ret pc lv st σ e K := by
  obtain ⟨p, l, en, R, s, m, args, below, meth, c, cA, D, W0, lo⟩ := Γ
  obtain ⟨hx, hb, hml, hown, hts, hK, hN, hD, hR, hr, hlk⟩ := hC
  intro out ho ls H locs hl hP hS
  exact lv_iconst hx hb hd hv (kk out ho ls H locs hl hP hS)
theorem z_bipush (hC : zX Γ lay n ad cc own nL rm ret) {k : Int} {v : Int32} (hd : decode cc pc = .ok (.bipush k, 2)) (hv : (Int8.ofInt k).toInt32 = v) (kk : zK Γ lay n ad nL ret (pc + 2) lv (.int v :: st) σ e K) : zK Γ lay n ad nL ret pc lv st σ e K := by
  obtain ⟨p, l, en, R, s, m, args, below, meth, c, cA, D, W0, lo⟩ := Γ
  obtain ⟨hx, hb, hml, hown, hts, hK, hN, hD, hR, hr, hlk⟩ := hC
  intro out ho ls H locs hl hP hS
  exact lv_bipush hx hb hd hv (kk out ho ls H locs hl hP hS)
theorem z_sipush (hC : zX Γ lay n ad cc own nL rm ret) {k : Int} {v : Int32} (hd : decode cc pc = .ok (.sipush k, 3)) (hv : (Int16.ofInt k).toInt32 = v) (kk : zK Γ lay n ad nL ret (pc + 3) lv (.int v :: st) σ e K) : zK Γ lay n ad nL ret pc lv st σ e K := by
  obtain ⟨p, l, en, R, s, m, args, below, meth, c, cA, D, W0, lo⟩ := Γ
  obtain ⟨hx, hb, hml, hown, hts, hK, hN, hD, hR, hr, hlk⟩ := hC
  intro out ho ls H locs hl hP hS
  exact lv_sipush hx hb hd hv (kk out ho ls H locs hl hP hS)
/-- locals -/
theorem z_iload_n (hC : zX Γ lay n ad cc own nL rm ret) {k : Fin 4} {x : Int32} (hd : decode cc pc = .ok (.iload_n k, 1)) (hv : lv[(k : Nat)]? = some (some (.int x))) (kk : zK Γ lay n ad nL ret (pc + 1) lv (.int x :: st) σ e K) : zK Γ lay n ad nL ret pc lv st σ e K := by
  obtain ⟨p, l, en, R, s, m, args, below, meth, c, cA, D, W0, lo⟩ := Γ
  obtain ⟨hx, hb, hml, hown, hts, hK, hN, hD, hR, hr, hlk⟩ := hC
  intro out ho ls H locs hl hP hS
  exact lv_iload_n hx hb hd rfl (hl.2.2 _ _ hv).1 (kk out ho ls H locs hl hP hS)
theorem z_iload (hC : zX Γ lay n ad cc own nL rm ret) {k : Nat} {x : Int32} (hd : decode cc pc = .ok (.iload k, 2)) (hv : lv[k]? = some (some (.int x))) (kk : zK Γ lay n ad nL ret (pc + 2) lv (.int x :: st) σ e K) : zK Γ lay n ad nL ret pc lv st σ e K := by
  obtain ⟨p, l, en, R, s, m, args, below, meth, c, cA, D, W0, lo⟩ := Γ
  obtain ⟨hx, hb, hml, hown, hts, hK, hN, hD, hR, hr, hlk⟩ := hC
  intro out ho ls H locs hl hP hS
  exact lv_iload hx hb hd (hl.2.2 _ _ hv).1 (kk out ho ls H locs hl hP hS)
theorem z_aload_n (hC : zX Γ lay n ad cc own nL rm ret) {k : Fin 4} {x : Nat} (hd : decode cc pc = .ok (.aload_n k, 1)) (hv : lv[(k : Nat)]? = some (some (.ref x))) (kk : zK Γ lay n ad nL ret (pc + 1) lv (.ref x :: st) σ e K) : zK Γ lay n ad nL ret pc lv st σ e K := by
  obtain ⟨p, l, en, R, s, m, args, below, meth, c, cA, D, W0, lo⟩ := Γ
  obtain ⟨hx, hb, hml, hown, hts, hK, hN, hD, hR, hr, hlk⟩ := hC
  intro out ho ls H locs hl hP hS
  exact lv_aload_n hx hb hd rfl (hl.2.2 _ _ hv).1 (kk out ho ls H locs hl hP hS)
theorem z_istore_n (hC : zX Γ lay n ad cc own nL rm ret) {k : Fin 4} {x : Int32} (hd : decode cc pc = .ok (.istore_n k, 1)) {lv' : List (Option Value)} (hk : (k : Nat) < nL) (hv : lv.set (k : Nat) (some (.int x)) = lv') (kk : zK Γ lay n ad nL ret (pc + 1) lv' st σ e K) : zK Γ lay n ad nL ret pc lv (.int x :: st) σ e K := by
  subst hv
  obtain ⟨p, l, en, R, s, m, args, below, meth, c, cA, D, W0, lo⟩ := Γ
  obtain ⟨hx, hb, hml, hown, hts, hK, hN, hD, hR, hr, hlk⟩ := hC
  intro out ho ls H locs hl hP hS
  exact lv_istore_n hx hb hd rfl (z_h_has hl) hk rfl (fun ls' h' => kk out ho ls' H locs (z_h_set hl rfl h') hP hS)
theorem z_istore (hC : zX Γ lay n ad cc own nL rm ret) {k : Nat} {x : Int32} (hd : decode cc pc = .ok (.istore k, 2)) {lv' : List (Option Value)} (hk : k < nL) (hv : lv.set k (some (.int x)) = lv') (kk : zK Γ lay n ad nL ret (pc + 2) lv' st σ e K) : zK Γ lay n ad nL ret pc lv (.int x :: st) σ e K := by
  subst hv
  obtain ⟨p, l, en, R, s, m, args, below, meth, c, cA, D, W0, lo⟩ := Γ
  obtain ⟨hx, hb, hml, hown, hts, hK, hN, hD, hR, hr, hlk⟩ := hC
  intro out ho ls H locs hl hP hS
  exact lv_istore hx hb hd (z_h_has hl) hk rfl (fun ls' h' => kk out ho ls' H locs (z_h_set hl rfl h') hP hS)
theorem z_astore_n (hC : zX Γ lay n ad cc own nL rm ret) {k : Fin 4} {x : Nat} (hd : decode cc pc = .ok (.astore_n k, 1)) {lv' : List (Option Value)} (hk : (k : Nat) < nL) (hv : lv.set (k : Nat) (some (.ref x)) = lv') (kk : zK Γ lay n ad nL ret (pc + 1) lv' st σ e K) : zK Γ lay n ad nL ret pc lv (.ref x :: st) σ e K := by
  subst hv
  obtain ⟨p, l, en, R, s, m, args, below, meth, c, cA, D, W0, lo⟩ := Γ
  obtain ⟨hx, hb, hml, hown, hts, hK, hN, hD, hR, hr, hlk⟩ := hC
  intro out ho ls H locs hl hP hS
  exact lv_astore_n hx hb hd rfl (z_h_has hl) hk rfl (fun ls' h' => kk out ho ls' H locs (z_h_set hl rfl h') hP hS)
theorem z_iinc (hC : zX Γ lay n ad cc own nL rm ret) {k : Nat} {d : Int} {x v : Int32} (hd : decode cc pc = .ok (.iinc k d, 3)) {lv' : List (Option Value)} (hg : lv[k]? = some (some (.int x))) (hk : k < nL) (hx : Int32.ofInt d = v) (hv : lv.set k (some (.int (x + v))) = lv') (kk : zK Γ lay n ad nL ret (pc + 3) lv' st σ e K) : zK Γ lay n ad nL ret pc lv st σ e K := by
  subst hv
  subst hx
  obtain ⟨p, l, en, R, s, m, args, below, meth, c, cA, D, W0, lo⟩ := Γ
  obtain ⟨hx, hb, hml, hown, hts, hK, hN, hD, hR, hr, hlk⟩ := hC
  intro out ho ls H locs hl hP hS
  obtain ⟨j, hj⟩ := List.getElem?_of_mem (z_pr_mem.mpr hg)
  exact lv_iinc hx hb hd (z_h_has hl) hj rfl hk rfl (fun ls' h' => kk out ho ls' H locs (z_h_set hl rfl h') hP hS)
/-- arithmetic, stack -/
theorem z_iadd (hC : zX Γ lay n ad cc own nL rm ret) {x y : Int32} (hd : decode cc pc = .ok (.iadd, 1)) (kk : zK Γ lay n ad nL ret (pc + 1) lv (.int (x + y) :: st) σ e K) : zK Γ lay n ad nL ret pc lv (.int y :: .int x :: st) σ e K := by
  obtain ⟨p, l, en, R, s, m, args, below, meth, c, cA, D, W0, lo⟩ := Γ
  obtain ⟨hx, hb, hml, hown, hts, hK, hN, hD, hR, hr, hlk⟩ := hC
  intro out ho ls H locs hl hP hS
  exact lv_iadd hx hb hd (kk out ho ls H locs hl hP hS)
theorem z_isub (hC : zX Γ lay n ad cc own nL rm ret) {x y : Int32} (hd : decode cc pc = .ok (.isub, 1)) (kk : zK Γ lay n ad nL ret (pc + 1) lv (.int (x - y) :: st) σ e K) : zK Γ lay n ad nL ret pc lv (.int y :: .int x :: st) σ e K := by
  obtain ⟨p, l, en, R, s, m, args, below, meth, c, cA, D, W0, lo⟩ := Γ
  obtain ⟨hx, hb, hml, hown, hts, hK, hN, hD, hR, hr, hlk⟩ := hC
  intro out ho ls H locs hl hP hS
  exact lv_isub hx hb hd (kk out ho ls H locs hl hP hS)
theorem z_imul (hC : zX Γ lay n ad cc own nL rm ret) {x y : Int32} (hd : decode cc pc = .ok (.imul, 1)) (kk : zK Γ lay n ad nL ret (pc + 1) lv (.int (x * y) :: st) σ e K) : zK Γ lay n ad nL ret pc lv (.int y :: .int x :: st) σ e K := by
  obtain ⟨p, l, en, R, s, m, args, below, meth, c, cA, D, W0, lo⟩ := Γ
  obtain ⟨hx, hb, hml, hown, hts, hK, hN, hD, hR, hr, hlk⟩ := hC
  intro out ho ls H locs hl hP hS
  exact lv_imul hx hb hd (kk out ho ls H locs hl hP hS)
theorem z_idiv (hC : zX Γ lay n ad cc own nL rm ret) {x y : Int32} (hd : decode cc pc = .ok (.idiv, 1)) (hne : ¬ y = 0) (kk : zK Γ lay n ad nL ret (pc + 1) lv (.int (x / y) :: st) σ e K) : zK Γ lay n ad nL ret pc lv (.int y :: .int x :: st) σ e K := by
  obtain ⟨p, l, en, R, s, m, args, below, meth, c, cA, D, W0, lo⟩ := Γ
  obtain ⟨hx, hb, hml, hown, hts, hK, hN, hD, hR, hr, hlk⟩ := hC
  intro out ho ls H locs hl hP hS
  exact lv_idiv hx hb hd hne (kk out ho ls H locs hl hP hS)
theorem z_irem (hC : zX Γ lay n ad cc own nL rm ret) {x y : Int32} (hd : decode cc pc = .ok (.irem, 1)) (hne : ¬ y = 0) (kk : zK Γ lay n ad nL ret (pc + 1) lv (.int (x - x / y * y) :: st) σ e K) : zK Γ lay n ad nL ret pc lv (.int y :: .int x :: st) σ e K := by
  obtain ⟨p, l, en, R, s, m, args, below, meth, c, cA, D, W0, lo⟩ := Γ
  obtain ⟨hx, hb, hml, hown, hts, hK, hN, hD, hR, hr, hlk⟩ := hC
  intro out ho ls H locs hl hP hS
  exact lv_irem hx hb hd hne (kk out ho ls H locs hl hP hS)
theorem z_dup (hC : zX Γ lay n ad cc own nL rm ret) {v : Value} (hd : decode cc pc = .ok (.dup, 1)) (hv : v.category = 1) (kk : zK Γ lay n ad nL ret (pc + 1) lv (v :: v :: st) σ e K) : zK Γ lay n ad nL ret pc lv (v :: st) σ e K := by
  obtain ⟨p, l, en, R, s, m, args, below, meth, c, cA, D, W0, lo⟩ := Γ
  obtain ⟨hx, hb, hml, hown, hts, hK, hN, hD, hR, hr, hlk⟩ := hC
  intro out ho ls H locs hl hP hS
  exact lv_dup hx hb hd hv (kk out ho ls H locs hl hP hS)
theorem z_dup2 (hC : zX Γ lay n ad cc own nL rm ret) {v w : Value} (hd : decode cc pc = .ok (.dup2, 1)) (hv : v.category = 1) (hw : w.category = 1) (kk : zK Γ lay n ad nL ret (pc + 1) lv (v :: w :: v :: w :: st) σ e K) : zK Γ lay n ad nL ret pc lv (v :: w :: st) σ e K := by
  obtain ⟨p, l, en, R, s, m, args, below, meth, c, cA, D, W0, lo⟩ := Γ
  obtain ⟨hx, hb, hml, hown, hts, hK, hN, hD, hR, hr, hlk⟩ := hC
  intro out ho ls H locs hl hP hS
  exact lv_dup2_11 hx hb hd hv hw (kk out ho ls H locs hl hP hS)
theorem z_pop (hC : zX Γ lay n ad cc own nL rm ret) {v : Value} (hd : decode cc pc = .ok (.pop, 1)) (hv : v.category = 1) (kk : zK Γ lay n ad nL ret (pc + 1) lv st σ e K) : zK Γ lay n ad nL ret pc lv (v :: st) σ e K := by
  obtain ⟨p, l, en, R, s, m, args, below, meth, c, cA, D, W0, lo⟩ := Γ
  obtain ⟨hx, hb, hml, hown, hts, hK, hN, hD, hR, hr, hlk⟩ := hC
  intro out ho ls H locs hl hP hS
  exact lv_pop hx hb hd hv (kk out ho ls H locs hl hP hS)
theorem z_goto (hC : zX Γ lay n ad cc own nL rm ret) {off : Int} (tgt : Nat) (hd : decode cc pc = .ok (.goto off, 3)) (ht : (pc : Int) + off = (tgt : Int)) (kk : zK Γ lay n ad nL ret tgt lv st σ e K) : zK Γ lay n ad nL ret pc lv st σ e K := by
  obtain ⟨p, l, en, R, s, m, args, below, meth, c, cA, D, W0, lo⟩ := Γ
  obtain ⟨hx, hb, hml, hown, hts, hK, hN, hD, hR, hr, hlk⟩ := hC
  intro out ho ls H locs hl hP hS
  exact lv_goto hx hb hd ht (kk out ho ls H locs hl hP hS)
theorem z_if_eq (hC : zX Γ lay n ad cc own nL rm ret) {x : Int32} {off : Int} (tgt : Nat) (hd : decode cc pc = .ok (.ifCond .eq off, 3)) (ht : (pc : Int) + off = (tgt : Int)) {d : Decidable (x = 0)} {e1 e2 : Option α} (k1 : x = 0 → zK Γ lay n ad nL ret tgt lv st σ e1 K) (k2 : ¬ x = 0 → zK Γ lay n ad nL ret (pc + 3) lv st σ e2 K) : zK Γ lay n ad nL ret pc lv (.int x :: st) σ (if x = 0 then e1 else e2) K := by
  obtain ⟨p, l, en, R, s, m, args, below, meth, c, cA, D, W0, lo⟩ := Γ
  obtain ⟨hx, hb, hml, hown, hts, hK, hN, hD, hR, hr, hlk⟩ := hC
  intro out ho ls H locs hl hP hS
  exact lv_if_eq hx hb hd ht (fun h => k1 h out (by rw [if_pos h] at ho; exact ho) ls H locs hl hP hS) (fun h => k2 h out (by rw [if_neg h] at ho; exact ho) ls H locs hl hP hS)
theorem z_if_ne (hC : zX Γ lay n ad cc own nL rm ret) {x : Int32} {off : Int} (tgt : Nat) (hd : decode cc pc = .ok (.ifCond .ne off, 3)) (ht : (pc : Int) + off = (tgt : Int)) {d : Decidable (x = 0)} {e1 e2 : Option α} (k1 : ¬ x = 0 → zK Γ lay n ad nL ret tgt lv st σ e1 K) (k2 : x = 0 → zK Γ lay n ad nL ret (pc + 3) lv st σ e2 K) : zK Γ lay n ad nL ret pc lv (.int x :: st) σ (if x = 0 then e2 else e1) K := by
  obtain ⟨p, l, en, R, s, m, args, below, meth, c, cA, D, W0, lo⟩ := Γ
  obtain ⟨hx, hb, hml, hown, hts, hK, hN, hD, hR, hr, hlk⟩ := hC
  intro out ho ls H locs hl hP hS
  exact lv_if_ne hx hb hd ht (fun h => k1 h out (by rw [if_neg h] at ho; exact ho) ls H locs hl hP hS) (fun h => k2 h out (by rw [if_pos h] at ho; exact ho) ls H locs hl hP hS)
theorem z_if_lt (hC : zX Γ lay n ad cc own nL rm ret) {x : Int32} {off : Int} (tgt : Nat) (hd : decode cc pc = .ok (.ifCond .lt off, 3)) (ht : (pc : Int) + off = (tgt : Int)) {d : Decidable (x < 0)} {e1 e2 : Option α} (k1 : x < 0 → zK Γ lay n ad nL ret tgt lv st σ e1 K) (k2 : ¬ x < 0 → zK Γ lay n ad nL ret (pc + 3) lv st σ e2 K) : zK Γ lay n ad nL ret pc lv (.int x :: st) σ (if x < 0 then e1 else e2) K := by
  obtain ⟨p, l, en, R, s, m, args, below, meth, c, cA, D, W0, lo⟩ := Γ
  obtain ⟨hx, hb, hml, hown, hts, hK, hN, hD, hR, hr, hlk⟩ := hC
  intro out ho ls H locs hl hP hS
  exact lv_if_lt hx hb hd ht (fun h => k1 h out (by rw [if_pos h] at ho; exact ho) ls H locs hl hP hS) (fun h => k2 h out (by rw [if_neg h] at ho; exact ho) ls H locs hl hP hS)
theorem z_if_ge (hC : zX Γ lay n ad cc own nL rm ret) {x : Int32} {off : Int} (tgt : Nat) (hd : decode cc pc = .ok (.ifCond .ge off, 3)) (ht : (pc : Int) + off = (tgt : Int)) {d : Decidable (0 ≤ x)} {e1 e2 : Option α} (k1 : 0 ≤ x → zK Γ lay n ad nL ret tgt lv st σ e1 K) (k2 : ¬ 0 ≤ x → zK Γ lay n ad nL ret (pc + 3) lv st σ e2 K) : zK Γ lay n ad nL ret pc lv (.int x :: st) σ (if 0 ≤ x then e1 else e2) K := by
  obtain ⟨p, l, en, R, s, m, args, below, meth, c, cA, D, W0, lo⟩ := Γ
  obtain ⟨hx, hb, hml, hown, hts, hK, hN, hD, hR, hr, hlk⟩ := hC
  intro out ho ls H locs hl hP hS
  exact lv_if_ge hx hb hd ht (fun h => k1 h out (by rw [if_pos h] at ho; exact ho) ls H locs hl hP hS) (fun h => k2 h out (by rw [if_neg h] at ho; exact ho) ls H locs hl hP hS)
theorem z_if_gt (hC : zX Γ lay n ad cc own nL rm ret) {x : Int32} {off : Int} (tgt : Nat) (hd : decode cc pc = .ok (.ifCond .gt off, 3)) (ht : (pc : Int) + off = (tgt : Int)) {d : Decidable (0 < x)} {e1 e2 : Option α} (k1 : 0 < x → zK Γ lay n ad nL ret tgt lv st σ e1 K) (k2 : ¬ 0 < x → zK Γ lay n ad nL ret (pc + 3) lv st σ e2 K) : zK Γ lay n ad nL ret pc lv (.int x :: st) σ (if 0 < x then e1 else e2) K := by
  obtain ⟨p, l, en, R, s, m, args, below, meth, c, cA, D, W0, lo⟩ := Γ
  obtain ⟨hx, hb, hml, hown, hts, hK, hN, hD, hR, hr, hlk⟩ := hC
  intro out ho ls H locs hl hP hS
  exact lv_if_gt hx hb hd ht (fun h => k1 h out (by rw [if_pos h] at ho; exact ho) ls H locs hl hP hS) (fun h => k2 h out (by rw [if_neg h] at ho; exact ho) ls H locs hl hP hS)
theorem z_if_le (hC : zX Γ lay n ad cc own nL rm ret) {x : Int32} {off : Int} (tgt : Nat) (hd : decode cc pc = .ok (.ifCond .le off, 3)) (ht : (pc : Int) + off = (tgt : Int)) {d : Decidable (x ≤ 0)} {e1 e2 : Option α} (k1 : x ≤ 0 → zK Γ lay n ad nL ret tgt lv st σ e1 K) (k2 : ¬ x ≤ 0 → zK Γ lay n ad nL ret (pc + 3) lv st σ e2 K) : zK Γ lay n ad nL ret pc lv (.int x :: st) σ (if x ≤ 0 then e1 else e2) K := by
  obtain ⟨p, l, en, R, s, m, args, below, meth, c, cA, D, W0, lo⟩ := Γ
  obtain ⟨hx, hb, hml, hown, hts, hK, hN, hD, hR, hr, hlk⟩ := hC
  intro out ho ls H locs hl hP hS
  exact lv_if_le hx hb hd ht (fun h => k1 h out (by rw [if_pos h] at ho; exact ho) ls H locs hl hP hS) (fun h => k2 h out (by rw [if_neg h] at ho; exact ho) ls H locs hl hP hS)
theorem z_icmp_eq (hC : zX Γ lay n ad cc own nL rm ret) {x y : Int32} {off : Int} (tgt : Nat) (hd : decode cc pc = .ok (.if_icmp .eq off, 3)) (ht : (pc : Int) + off = (tgt : Int)) {d : Decidable (x = y)} {e1 e2 : Option α} (k1 : x = y → zK Γ lay n ad nL ret tgt lv st σ e1 K) (k2 : ¬ x = y → zK Γ lay n ad nL ret (pc + 3) lv st σ e2 K) : zK Γ lay n ad nL ret pc lv (.int y :: .int x :: st) σ (if x = y then e1 else e2) K := by
  obtain ⟨p, l, en, R, s, m, args, below, meth, c, cA, D, W0, lo⟩ := Γ
  obtain ⟨hx, hb, hml, hown, hts, hK, hN, hD, hR, hr, hlk⟩ := hC
  intro out ho ls H locs hl hP hS
  exact lv_icmp_eq hx hb hd ht (fun h => k1 h out (by rw [if_pos h] at ho; exact ho) ls H locs hl hP hS) (fun h => k2 h out (by rw [if_neg h] at ho; exact ho) ls H locs hl hP hS)
theorem z_icmp_ne (hC : zX Γ lay n ad cc own nL rm ret) {x y : Int32} {off : Int} (tgt : Nat) (hd : decode cc pc = .ok (.if_icmp .ne off, 3)) (ht : (pc : Int) + off = (tgt : Int)) {d : Decidable (x = y)} {e1 e2 : Option α} (k1 : ¬ x = y → zK Γ lay n ad nL ret tgt lv st σ e1 K) (k2 : x = y → zK Γ lay n ad nL ret (pc + 3) lv st σ e2 K) : zK Γ lay n ad nL ret pc lv (.int y :: .int x :: st) σ (if x = y then e2 else e1) K := by
  obtain ⟨p, l, en, R, s, m, args, below, meth, c, cA, D, W0, lo⟩ := Γ
  obtain ⟨hx, hb, hml, hown, hts, hK, hN, hD, hR, hr, hlk⟩ := hC
  intro out ho ls H locs hl hP hS
  exact lv_icmp_ne hx hb hd ht (fun h => k1 h out (by rw [if_neg h] at ho; exact ho) ls H locs hl hP hS) (fun h => k2 h out (by rw [if_pos h] at ho; exact ho) ls H locs hl hP hS)
theorem z_icmp_lt (hC : zX Γ lay n ad cc own nL rm ret) {x y : Int32} {off : Int} (tgt : Nat) (hd : decode cc pc = .ok (.if_icmp .lt off, 3)) (ht : (pc : Int) + off = (tgt : Int)) {d : Decidable (x < y)} {e1 e2 : Option α} (k1 : x < y → zK Γ lay n ad nL ret tgt lv st σ e1 K) (k2 : ¬ x < y → zK Γ lay n ad nL ret (pc + 3) lv st σ e2 K) : zK Γ lay n ad nL ret pc lv (.int y :: .int x :: st) σ (if x < y then e1 else e2) K := by
  obtain ⟨p, l, en, R, s, m, args, below, meth, c, cA, D, W0, lo⟩ := Γ
  obtain ⟨hx, hb, hml, hown, hts, hK, hN, hD, hR, hr, hlk⟩ := hC
  intro out ho ls H locs hl hP hS
  exact lv_icmp_lt hx hb hd ht (fun h => k1 h out (by rw [if_pos h] at ho; exact ho) ls H locs hl hP hS) (fun h => k2 h out (by rw [if_neg h] at ho; exact ho) ls H locs hl hP hS)
theorem z_icmp_ge (hC : zX Γ lay n ad cc own nL rm ret) {x y : Int32} {off : Int} (tgt : Nat) (hd : decode cc pc = .ok (.if_icmp .ge off, 3)) (ht : (pc : Int) + off = (tgt : Int)) {d : Decidable (y ≤ x)} {e1 e2 : Option α} (k1 : y ≤ x → zK Γ lay n ad nL ret tgt lv st σ e1 K) (k2 : ¬ y ≤ x → zK Γ lay n ad nL ret (pc + 3) lv st σ e2 K) : zK Γ lay n ad nL ret pc lv (.int y :: .int x :: st) σ (if y ≤ x then e1 else e2) K := by
  obtain ⟨p, l, en, R, s, m, args, below, meth, c, cA, D, W0, lo⟩ := Γ
  obtain ⟨hx, hb, hml, hown, hts, hK, hN, hD, hR, hr, hlk⟩ := hC
  intro out ho ls H locs hl hP hS
  exact lv_icmp_ge hx hb hd ht (fun h => k1 h out (by rw [if_pos h] at ho; exact ho) ls H locs hl hP hS) (fun h => k2 h out (by rw [if_neg h] at ho; exact ho) ls H locs hl hP hS)
theorem z_icmp_gt (hC : zX Γ lay n ad cc own nL rm ret) {x y : Int32} {off : Int} (tgt : Nat) (hd : decode cc pc = .ok (.if_icmp .gt off, 3)) (ht : (pc : Int) + off = (tgt : Int)) {d : Decidable (y < x)} {e1 e2 : Option α} (k1 : y < x → zK Γ lay n ad nL ret tgt lv st σ e1 K) (k2 : ¬ y < x → zK Γ lay n ad nL ret (pc + 3) lv st σ e2 K) : zK Γ lay n ad nL ret pc lv (.int y :: .int x :: st) σ (if y < x then e1 else e2) K := by
  obtain ⟨p, l, en, R, s, m, args, below, meth, c, cA, D, W0, lo⟩ := Γ
  obtain ⟨hx, hb, hml, hown, hts, hK, hN, hD, hR, hr, hlk⟩ := hC
  intro out ho ls H locs hl hP hS
  exact lv_icmp_gt hx hb hd ht (fun h => k1 h out (by rw [if_pos h] at ho; exact ho) ls H locs hl hP hS) (fun h => k2 h out (by rw [if_neg h] at ho; exact ho) ls H locs hl hP hS)
theorem z_icmp_le (hC : zX Γ lay n ad cc own nL rm ret) {x y : Int32} {off : Int} (tgt : Nat) (hd : decode cc pc = .ok (.if_icmp .le off, 3)) (ht : (pc : Int) + off = (tgt : Int)) {d : Decidable (x ≤ y)} {e1 e2 : Option α} (k1 : x ≤ y → zK Γ lay n ad nL ret tgt lv st σ e1 K) (k2 : ¬ x ≤ y → zK Γ lay n ad nL ret (pc + 3) lv st σ e2 K) : zK Γ lay n ad nL ret pc lv (.int y :: .int x :: st) σ (if x ≤ y then e1 else e2) K := by
  obtain ⟨p, l, en, R, s, m, args, below, meth, c, cA, D, W0, lo⟩ := Γ
  obtain ⟨hx, hb, hml, hown, hts, hK, hN, hD, hR, hr, hlk⟩ := hC
  intro out ho ls H locs hl hP hS
  exact lv_icmp_le hx hb hd ht (fun h => k1 h out (by rw [if_pos h] at ho; exact ho) ls H locs hl hP hS) (fun h => k2 h out (by rw [if_neg h] at ho; exact ho) ls H locs hl hP hS)
end ZR
