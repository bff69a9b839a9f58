def zY (y : MethodName) (cd : ByteArray) (mL : Nat) (ret : Option FieldType) (C : String) (na : Nat) : Prop := Cond.instanceMethod y ∈ z_TB ∧ Cond.selects C y y ∈ z_TB ∧ Cond.initialized C ∈ z_TB ∧ Cond.code y cd mL ret ∈ z_TB ∧ y.cls = C ∧ y.cls ≠ "java/lang/invoke/MethodHandle" ∧ y.cls ≠ "java/lang/invoke/VarHandle" ∧ (parseMethodDescriptor y.desc).map (fun d => d.parameters.length) = some na
def zYs (y : MethodName) (cd : ByteArray) (mL : Nat) (ret : Option FieldType) (na : Nat) : Prop := Cond.static y ∈ z_TB ∧ Cond.initialized y.cls ∈ z_TB ∧ Cond.code y cd mL ret ∈ z_TB ∧ y.cls ≠ "java/lang/invoke/MethodHandle" ∧ y.cls ≠ "java/lang/invoke/VarHandle" ∧ (parseMethodDescriptor y.desc).map (fun d => d.parameters.length) = some na
def zb {α : Type} (o : Option (Int32 × zS)) (g : Int32 → zS → Option α) : Option α := o.bind (fun q => g q.1 q.2)
def zl {α β : Type} (a : α) (g : α → Option β) : Option β := g a
abbrev zR (rmc : Room) (mL : Nat) (rm : Room) : Prop := rmc.cells = 0 ∧ rmc.slots = 0 ∧ rmc.frames + 1 ≤ rm.frames ∧ 8 + (mL + 11) + rmc.locals ≤ rm.locals
theorem z_blind {lay : Nat → zL} {n : Nat} {ad : Nat → Nat} {cA : Nat → ClassId} {D : va_G} {W0 : va_W} {lo : Nat} {σ : zS} {av : List Value} : FrameBlind (va_Pc av (z_B lay n ad cA D W0 lo σ)) := fun a U g mk q => ⟨q.1, q.2.1, va_K.moved (u := U) (U := U.calling g mk a) (Vm.Alike.refl U.vm) q.2.2.1, z_N_vm rfl q.2.2.2.1, q.2.2.2.2⟩
section ZC
variable {Γ : zG} {lay : Nat → zL} {n : Nat} {ad : Nat → Nat} {cc : ByteArray} {own : String} {nL : Nat} {rm : Room} {ret : Option FieldType} {pc : Nat} {lv : List (Option Value)} {st : List Value} {σ : zS} {α : Type} {e : Option α} {K : α → Option (Int32 × zS)}
variable {y : MethodName} {cd : ByteArray} {mL na idx b ci N : Nat} {rt : FieldType} {rmc : Room} {av : (Nat → Nat) → List Value} {f : zS → Option (Int32 × zS)} {C : String} {T : u_T} {fl : List (Option Nat)} {rest : List Value} {g : Int32 → zS → Option α}
theorem z_callVi (hC : zX Γ lay n ad cc own nL rm ret) (As : List Value) (hM : zM lay n y cd mL (some rt) rmc av f) (hY : zY y cd mL (some rt) C na) (hL : Cond.methodLink own idx y ∈ z_TB) (hd : decode cc pc = .ok (.invokevirtual idx, 3)) (hbn : b < n) (hlay : lay b = .inr (ci, fl)) (hcl : vwCl[ci]? = some (C, T, N)) (hav : av ad = .ref (ad b) :: As) (hna : As.length = na) (hst : st = As.reverse ++ .ref (ad b) :: rest) (hW : (rest.map fun v => v.category).sum ≤ 8) (hR : zR rmc mL rm)
    (kk : ∀ r σ1, f σ = some (r, σ1) → zK Γ lay n ad nL ret (pc + 3) lv (.int r :: rest) σ1 (g r σ1) K) : zK Γ lay n ad nL ret pc lv st σ (zb (f σ) g) K := by
  obtain ⟨p, l, en, R, s, m, args, below, meth, c, cA, D, W0, lo⟩ := Γ
  obtain ⟨hx, hb, hml, hown, hts, hK, hN, hD, rfl, hr, hlk⟩ := hC
  obtain ⟨y1, y2, y3, y4, y5, y6, y7, y8⟩ := hY
  obtain ⟨r1, r2, r3, r4⟩ := hR
  intro out ho ls H locs hl1 hP hS
  subst hst
  cases hf : f σ with
  | none => rw [hf] at ho; exact absurd ho (by simp [zb])
  | some q =>
    obtain ⟨r0, σ1⟩ := q
    rw [hf] at ho
    have hM' : Met l y (.code y cd mL (some rt) :: z_TB) rmc (va_Pc (.ref (ad b) :: As) (z_B lay n ad cA D W0 lo σ)) (va_Qi (fun r u => (r, u) = (r0, σ1)) (z_B lay n ad cA D W0 lo) (fun q => lo ≤ q)) 0 0 (fun q => lo ≤ q) := hav ▸ hM l ad cA D W0 lo σ (r0, σ1) hf
    refine va_calli (va_runV (As := As) (rest := rest) (C := C) ⟨hx, hb, hml, hown, hts⟩ hM' ⟨callB_of na hts (z_good y4) rfl r1 r2 (y5 ▸ hts _ y3) (hts _ hL) ⟨y6, y7, y8⟩ ⟨r3, r4⟩, hts _ y1, hts _ y2⟩ ⟨z_blind, va_recv hK hP (ci := ci) (q0 := b) hcl (z_obj hbn hlay), fun U hU hWm => ⟨rfl, by rw [hU]; exact hP, va_K.moved hWm.alike hK, z_N_warm hWm hN, hD⟩⟩ rfl hna hl1.1 rfl (lv_room hW) hd ⟨Nat.zero_le _, Nat.zero_le _⟩) hS (fun q _ h => h) (fun q h => h) (fun r u t H1 locs1 ht hvm hw hB hz1 hk1 hS1 => ?_)
    obtain ⟨rfl, rfl⟩ := Prod.mk.inj hw
    exact kk _ _ hf out ho ls H1 locs1 hl1 (by rw [← ht]; exact hB.1) hS1
theorem z_callVv (hC : zX Γ lay n ad cc own nL rm ret) (As : List Value) (hM : zM lay n y cd mL none rmc av f) (hY : zY y cd mL none C na) (hL : Cond.methodLink own idx y ∈ z_TB) (hd : decode cc pc = .ok (.invokevirtual idx, 3)) (hbn : b < n) (hlay : lay b = .inr (ci, fl)) (hcl : vwCl[ci]? = some (C, T, N)) (hav : av ad = .ref (ad b) :: As) (hna : As.length = na) (hst : st = As.reverse ++ .ref (ad b) :: rest) (hW : (rest.map fun v => v.category).sum ≤ 8) (hR : zR rmc mL rm)
    (kk : ∀ r σ1, f σ = some (r, σ1) → zK Γ lay n ad nL ret (pc + 3) lv rest σ1 (g r σ1) K) : zK Γ lay n ad nL ret pc lv st σ (zb (f σ) g) K := by
  obtain ⟨p, l, en, R, s, m, args, below, meth, c, cA, D, W0, lo⟩ := Γ
  obtain ⟨hx, hb, hml, hown, hts, hK, hN, hD, rfl, hr, hlk⟩ := hC
  obtain ⟨y1, y2, y3, y4, y5, y6, y7, y8⟩ := hY
  obtain ⟨r1, r2, r3, r4⟩ := hR
  intro out ho ls H locs hl1 hP hS
  subst hst
  cases hf : f σ with
  | none => rw [hf] at ho; exact absurd ho (by simp [zb])
  | some q =>
    obtain ⟨r0, σ1⟩ := q
    rw [hf] at ho
    have hM' : Met l y (.code y cd mL none :: z_TB) rmc (va_Pc (.ref (ad b) :: As) (z_B lay n ad cA D W0 lo σ)) (va_Qv (fun u => u = σ1) (z_B lay n ad cA D W0 lo) (fun q => lo ≤ q)) 0 0 (fun q => lo ≤ q) := hav ▸ hM l ad cA D W0 lo σ (r0, σ1) hf
    refine va_callv (va_runV (As := As) (rest := rest) (C := C) ⟨hx, hb, hml, hown, hts⟩ hM' ⟨callB_of na hts (z_good y4) rfl r1 r2 (y5 ▸ hts _ y3) (hts _ hL) ⟨y6, y7, y8⟩ ⟨r3, r4⟩, hts _ y1, hts _ y2⟩ ⟨z_blind, va_recv hK hP (ci := ci) (q0 := b) hcl (z_obj hbn hlay), fun U hU hWm => ⟨rfl, by rw [hU]; exact hP, va_K.moved hWm.alike hK, z_N_warm hWm hN, hD⟩⟩ rfl hna hl1.1 rfl (lv_room hW) hd ⟨Nat.zero_le _, Nat.zero_le _⟩) hS (fun q _ h => h) (fun q h => h) (fun u t H1 locs1 ht hvm hw hB hz1 hk1 hS1 => ?_)
    subst hw
    exact kk _ _ hf out ho ls H1 locs1 hl1 (by rw [← ht]; exact hB.1) hS1
theorem z_callSi (hC : zX Γ lay n ad cc own nL rm ret) (As : List Value) (hM : zM lay n y cd mL (some rt) rmc av f) (hY : zYs y cd mL (some rt) na) (hL : Cond.methodLink own idx y ∈ z_TB) (hd : decode cc pc = .ok (.invokestatic idx, 3)) (hav : av ad = As) (hna : As.length = na) (hst : st = As.reverse ++ rest) (hW : (rest.map fun v => v.category).sum ≤ 8) (hR : zR rmc mL rm)
    (kk : ∀ r σ1, f σ = some (r, σ1) → zK Γ lay n ad nL ret (pc + 3) lv (.int r :: rest) σ1 (g r σ1) K) : zK Γ lay n ad nL ret pc lv st σ (zb (f σ) g) K := by
  obtain ⟨p, l, en, R, s, m, args, below, meth, c, cA, D, W0, lo⟩ := Γ
  obtain ⟨hx, hb, hml, hown, hts, hK, hN, hD, rfl, hr, hlk⟩ := hC
  obtain ⟨y1, y3, y4, y6, y7, y8⟩ := hY
  obtain ⟨r1, r2, r3, r4⟩ := hR
  intro out ho ls H locs hl1 hP hS
  subst hst
  cases hf : f σ with
  | none => rw [hf] at ho; exact absurd ho (by simp [zb])
  | some q =>
    obtain ⟨r0, σ1⟩ := q
    rw [hf] at ho
    have hM' : Met l y (.code y cd mL (some rt) :: z_TB) rmc (va_Pc As (z_B lay n ad cA D W0 lo σ)) (va_Qi (fun r u => (r, u) = (r0, σ1)) (z_B lay n ad cA D W0 lo) (fun q => lo ≤ q)) 0 0 (fun q => lo ≤ q) := hav ▸ hM l ad cA D W0 lo σ (r0, σ1) hf
    refine va_calli (va_runS (As := As) (rest := rest) ⟨hx, hb, hml, hown, hts⟩ hM' ⟨callB_of na hts (z_good y4) rfl r1 r2 (hts _ y3) (hts _ hL) ⟨y6, y7, y8⟩ ⟨r3, r4⟩, hts _ y1⟩ ⟨z_blind, fun U hU hWm => ⟨rfl, by rw [hU]; exact hP, va_K.moved hWm.alike hK, z_N_warm hWm hN, hD⟩⟩ rfl hna hl1.1 rfl (lv_room hW) hd ⟨Nat.zero_le _, Nat.zero_le _⟩) hS (fun q _ h => h) (fun q h => h) (fun r u t H1 locs1 ht hvm hw hB hz1 hk1 hS1 => ?_)
    obtain ⟨rfl, rfl⟩ := Prod.mk.inj hw
    exact kk _ _ hf out ho ls H1 locs1 hl1 (by rw [← ht]; exact hB.1) hS1
theorem z_callSv (hC : zX Γ lay n ad cc own nL rm ret) (As : List Value) (hM : zM lay n y cd mL none rmc av f) (hY : zYs y cd mL none na) (hL : Cond.methodLink own idx y ∈ z_TB) (hd : decode cc pc = .ok (.invokestatic idx, 3)) (hav : av ad = As) (hna : As.length = na) (hst : st = As.reverse ++ rest) (hW : (rest.map fun v => v.category).sum ≤ 8) (hR : zR rmc mL rm)
    (kk : ∀ r σ1, f σ = some (r, σ1) → zK Γ lay n ad nL ret (pc + 3) lv rest σ1 (g r σ1) K) : zK Γ lay n ad nL ret pc lv st σ (zb (f σ) g) K := by
  obtain ⟨p, l, en, R, s, m, args, below, meth, c, cA, D, W0, lo⟩ := Γ
  obtain ⟨hx, hb, hml, hown, hts, hK, hN, hD, rfl, hr, hlk⟩ := hC
  obtain ⟨y1, y3, y4, y6, y7, y8⟩ := hY
  obtain ⟨r1, r2, r3, r4⟩ := hR
  intro out ho ls H locs hl1 hP hS
  subst hst
  cases hf : f σ with
  | none => rw [hf] at ho; exact absurd ho (by simp [zb])
  | some q =>
    obtain ⟨r0, σ1⟩ := q
    rw [hf] at ho
    have hM' : Met l y (.code y cd mL none :: z_TB) rmc (va_Pc As (z_B lay n ad cA D W0 lo σ)) (va_Qv (fun u => u = σ1) (z_B lay n ad cA D W0 lo) (fun q => lo ≤ q)) 0 0 (fun q => lo ≤ q) := hav ▸ hM l ad cA D W0 lo σ (r0, σ1) hf
    refine va_callv (va_runS (As := As) (rest := rest) ⟨hx, hb, hml, hown, hts⟩ hM' ⟨callB_of na hts (z_good y4) rfl r1 r2 (hts _ y3) (hts _ hL) ⟨y6, y7, y8⟩ ⟨r3, r4⟩, hts _ y1⟩ ⟨z_blind, fun U hU hWm => ⟨rfl, by rw [hU]; exact hP, va_K.moved hWm.alike hK, z_N_warm hWm hN, hD⟩⟩ rfl hna hl1.1 rfl (lv_room hW) hd ⟨Nat.zero_le _, Nat.zero_le _⟩) hS (fun q _ h => h) (fun q h => h) (fun u t H1 locs1 ht hvm hw hB hz1 hk1 hS1 => ?_)
    subst hw
    exact kk _ _ hf out ho ls H1 locs1 hl1 (by rw [← ht]; exact hB.1) hS1
/-- a private static method of a nest mate -/
theorem z_callSNi (hC : zX Γ lay n ad cc own nL rm ret) (As : List Value) {host : String} (hM : zM lay n y cd mL (some rt) rmc av f) (hY : zYs y cd mL (some rt) na) (hL : (own, idx, y, host) ∈ z_nest) (hd : decode cc pc = .ok (.invokestatic idx, 3)) (hav : av ad = As) (hna : As.length = na) (hst : st = As.reverse ++ rest) (hW : (rest.map fun v => v.category).sum ≤ 8) (hR : zR rmc mL rm)
    (kk : ∀ r σ1, f σ = some (r, σ1) → zK Γ lay n ad nL ret (pc + 3) lv (.int r :: rest) σ1 (g r σ1) K) : zK Γ lay n ad nL ret pc lv st σ (zb (f σ) g) K := by
  obtain ⟨p, l, en, R, s, m, args, below, meth, c, cA, D, W0, lo⟩ := Γ
  obtain ⟨hx, hb, hml, hown, hts, hK, hN, hD, rfl, hr, hlk⟩ := hC
  obtain ⟨y1, y3, y4, y6, y7, y8⟩ := hY
  obtain ⟨r1, r2, r3, r4⟩ := hR
  intro out ho ls H locs hl1 hP hS
  subst hst
  cases hf : f σ with
  | none => rw [hf] at ho; exact absurd ho (by simp [zb])
  | some q =>
    obtain ⟨r0, σ1⟩ := q
    rw [hf] at ho
    have hM' : Met l y (.code y cd mL (some rt) :: z_TB) rmc (va_Pc As (z_B lay n ad cA D W0 lo σ)) (va_Qi (fun r u => (r, u) = (r0, σ1)) (z_B lay n ad cA D W0 lo) (fun q => lo ≤ q)) 0 0 (fun q => lo ≤ q) := hav ▸ hM l ad cA D W0 lo σ (r0, σ1) hf
    refine va_calli (va_runSN (As := As) (rest := rest) (host := host) ⟨hx, hb, hml, hown, hts⟩ hM' ⟨va_cnB na hts (z_good y4) rfl r1 r2 (hN _ hL) (hts _ y3) ⟨y6, y7, y8⟩ ⟨r3, r4⟩, hts _ y1, trivial⟩ ⟨z_blind, fun U hU hWm => ⟨rfl, by rw [hU]; exact hP, va_K.moved hWm.alike hK, z_N_warm hWm hN, hD⟩⟩ rfl hna hl1.1 rfl (lv_room hW) hd ⟨Nat.zero_le _, Nat.zero_le _⟩) hS (fun q _ h => h) (fun q h => h) (fun r u t H1 locs1 ht hvm hw hB hz1 hk1 hS1 => ?_)
    obtain ⟨rfl, rfl⟩ := Prod.mk.inj hw
    exact kk _ _ hf out ho ls H1 locs1 hl1 (by rw [← ht]; exact hB.1) hS1
/-- switches -/
theorem z_tabIn (hC : zX Γ lay n ad cc own nL rm ret) {dflt lo hi off : Int} {offs : Array Int} {len : Nat} {x : Int32} (tgt : Nat) (hd : decode cc pc = .ok (.tableswitch dflt lo hi offs, len)) (v : Int32) (hxv : x = v) (h1 : ¬ v.toInt < lo) (h2 : ¬ hi < v.toInt) (ho1 : offs[(v.toInt - lo).toNat]? = some off) (ht : (pc : Int) + off = (tgt : Int)) (kk : zK Γ lay n ad nL ret tgt lv st σ e K) : zK Γ lay n ad nL ret pc lv (.int x :: st) σ e K := by
  subst hxv
  obtain ⟨p, l, en, R, s, m, args, below, meth, c, cA, D, W0, lo⟩ := Γ
  obtain ⟨hx, hb, hml, hown, hts, hK, hN, hD, hR, hr, hlk⟩ := hC
  intro out ho ls H locs hl1 hP hS
  exact lv_tableIn hx hb hd h1 h2 ho1 ht (kk out ho ls H locs hl1 hP hS)
theorem z_tabOut (hC : zX Γ lay n ad cc own nL rm ret) {dflt lo hi : Int} {offs : Array Int} {len : Nat} {x : Int32} (tgt : Nat) (hd : decode cc pc = .ok (.tableswitch dflt lo hi offs, len)) (h : x.toInt < lo ∨ hi < x.toInt) (ht : (pc : Int) + dflt = (tgt : Int)) (kk : zK Γ lay n ad nL ret tgt lv st σ e K) : zK Γ lay n ad nL ret pc lv (.int x :: st) σ e K := by
  obtain ⟨p, l, en, R, s, m, args, below, meth, c, cA, D, W0, lo⟩ := Γ
  obtain ⟨hx, hb, hml, hown, hts, hK, hN, hD, hR, hr, hlk⟩ := hC
  intro out ho ls H locs hl1 hP hS
  exact lv_tableOut hx hb hd h ht (kk out ho ls H locs hl1 hP hS)
theorem z_look (hC : zX Γ lay n ad cc own nL rm ret) {dflt off : Int} {ps : Array (Int × Int)} {len : Nat} {x : Int32} (tgt : Nat) (hd : decode cc pc = .ok (.lookupswitch dflt ps, len)) (hp : (ps.toList.zip (ps.toList.drop 1)).all (fun (a, next) => a.1 < next.1) = true) (hof : Op.lookupswitch.offset ps.toList dflt x.toInt = off) (ht : (pc : Int) + off = (tgt : Int)) (kk : zK Γ lay n ad nL ret tgt lv st σ e K) : zK Γ lay n ad nL ret pc lv (.int x :: st) σ e K := by
  obtain ⟨p, l, en, R, s, m, args, below, meth, c, cA, D, W0, lo⟩ := Γ
  obtain ⟨hx, hb, hml, hown, hts, hK, hN, hD, hR, hr, hlk⟩ := hC
  intro out ho ls H locs hl1 hP hS
  exact lv_lookup hx hb hd hp hof ht (kk out ho ls H locs hl1 hP hS)
theorem z_let {T : zS} {g : zS → Option α} (kk : ∀ σ1, σ1 = T → zK Γ lay n ad nL ret pc lv st σ1 (g σ1) K) : zK Γ lay n ad nL ret pc lv st T (zl T g) K := kk T rfl
theorem z_leaf {a : α} (h : zZ Γ lay n ad nL ret pc lv st σ (K a)) : zK Γ lay n ad nL ret pc lv st σ (some a) K := h
end ZC
def zfuel : Nat := 2048
/-- loops: one turn answers whether it goes on -/
def z_loop {α : Type} (b : α → Option (Bool × α)) : Nat → α → Option α
  | 0, _ => none
  | k + 1, a => (b a).bind (fun q => if q.1 = true then z_loop b k q.2 else some q.2)
theorem z_lp {Γ : zG} {lay : Nat → zL} {n : Nat} {ad : Nat → Nat} {nL : Nat} {ret : Option FieldType} {α : Type} {b : α → Option (Bool × α)} {lvf : α → List (Option Value)} {sg : α → zS} {st : List Value} {pc x : Nat}
    (hbody : ∀ (a : α) (K' : Bool × α → Option (Int32 × zS)), (∀ a', zZ Γ lay n ad nL ret pc (lvf a') st (sg a') (K' (true, a'))) → (∀ a', zZ Γ lay n ad nL ret x (lvf a') st (sg a') (K' (false, a'))) → zK Γ lay n ad nL ret pc (lvf a) st (sg a) (b a) K') :
    ∀ (k : Nat) (a : α) (K : α → Option (Int32 × zS)), (∀ a', zZ Γ lay n ad nL ret x (lvf a') st (sg a') (K a')) → zK Γ lay n ad nL ret pc (lvf a) st (sg a) (z_loop b k a) K
  | 0, a, K, _ => z_none (α := α)
  | k + 1, a, K, hx => by
    have h := hbody a (fun q => (if q.1 = true then z_loop b k q.2 else some q.2).bind K) (fun a' => z_lp hbody k a' K hx) (fun a' => hx a')
    unfold zK at h ⊢
    rw [z_loop, Option.bind_assoc]
    exact h
theorem z_lpb {Γ : zG} {lay : Nat → zL} {n : Nat} {ad : Nat → Nat} {nL : Nat} {ret : Option FieldType} {α β : Type} {b : α → Option (Bool × α)} {lvf : α → List (Option Value)} {sg : α → zS} {st : List Value} {pc x : Nat} {σ : zS} {lv : List (Option Value)} {g : α → Option β} {K : β → Option (Int32 × zS)} (k : Nat) (a : α) (hlv : lv = lvf a) (hsg : σ = sg a)
    (hbody : ∀ (a : α) (K' : Bool × α → Option (Int32 × zS)), (∀ a', zZ Γ lay n ad nL ret pc (lvf a') st (sg a') (K' (true, a'))) → (∀ a', zZ Γ lay n ad nL ret x (lvf a') st (sg a') (K' (false, a'))) → zK Γ lay n ad nL ret pc (lvf a) st (sg a) (b a) K')
    (kk : ∀ a', zK Γ lay n ad nL ret x (lvf a') st (sg a') (g a') K) : zK Γ lay n ad nL ret pc lv st σ ((z_loop b k a).bind g) K := by
  subst hlv; subst hsg
  have h := z_lp hbody k a (fun q => (g q).bind K) (fun a' => kk a')
  unfold zK at h ⊢
  rw [Option.bind_assoc]
  exact h
