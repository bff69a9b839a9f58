/-! ===== a world of fixed shape: its cells are numbered, its numbers are one function; a walk is tied to a pure function step by step ===== -/
def z_TB : List Cond := lw_tbl.filter goodWord
abbrev zS : Type := Nat → Nat → Int32
abbrev zL : Type := (Nat × Nat) ⊕ (Nat × List (Option Nat))
def zs (σ : zS) (k j : Nat) (v : Int32) : zS := va_up σ k (upd (σ k) j v)
def z_mo (x : Nat) : Nat := match x with
  | 0 => 24
  | a + 1 => 36 + 10 * a
def z_fs (ad : Nat → Nat) (f : Nat → Int32) : Nat → List (Option Nat) → List Value
  | _, [] => []
  | j, none :: l => .int (f j) :: z_fs ad f (j + 1) l
  | j, some c :: l => .ref (ad c) :: z_fs ad f (j + 1) l
def z_en (ad : Nat → Nat) (cA : Nat → ClassId) (y : zL) (f : Nat → Int32) : va_E := match y with
  | .inl (2, n) => .inl (cA 2, n, .inr (.inr (.inr (.inr (fun j => some (ad (z_mo (f j).toNatClampNeg)))))))
  | .inl (t, n) => .inl (cA t, n, .inl f)
  | .inr (ci, fl) => .inr (ci, z_fs ad f 0 fl)
def z_wd (lay : Nat → zL) (n : Nat) (ad : Nat → Nat) (cA : Nat → ClassId) (σ : zS) : va_W := (List.range n).map (fun k => (ad k, z_en ad cA (lay k) (σ k)))
theorem z_fs_get (ad : Nat → Nat) (f : Nat → Int32) : ∀ (fl : List (Option Nat)) (j k : Nat), (z_fs ad f j fl)[k]? = (fl[k]?).map (fun o => match o with | none => .int (f (j + k)) | some c => .ref (ad c))
  | [], j, k => by simp [z_fs]
  | none :: l, j, 0 => by simp [z_fs]
  | some c :: l, j, 0 => by simp [z_fs]
  | none :: l, j, k + 1 => by
    simp only [z_fs, List.getElem?_cons_succ]
    rw [z_fs_get ad f l (j + 1) k]
    simp only [Nat.add_assoc, Nat.add_comm 1 k]
  | some c :: l, j, k + 1 => by
    simp only [z_fs, List.getElem?_cons_succ]
    rw [z_fs_get ad f l (j + 1) k]
    simp only [Nat.add_assoc, Nat.add_comm 1 k]
theorem z_fs_len (ad : Nat → Nat) (f : Nat → Int32) : ∀ (fl : List (Option Nat)) (j : Nat), (z_fs ad f j fl).length = fl.length
  | [], _ => rfl
  | none :: l, j => by simp [z_fs, z_fs_len ad f l (j + 1)]
  | some c :: l, j => by simp [z_fs, z_fs_len ad f l (j + 1)]
theorem z_fs_set (ad : Nat → Nat) (f : Nat → Int32) (fl : List (Option Nat)) (k : Nat) (x : Int32) (h : fl[k]? = some none) : (z_fs ad f 0 fl).set k (.int x) = z_fs ad (upd f k x) 0 fl := by
  apply List.ext_getElem?
  intro i
  by_cases hi : i = k
  · subst hi
    have hl := (List.getElem?_eq_some_iff.mp h).1
    rw [List.getElem?_set_self (by rw [z_fs_len]; exact hl), z_fs_get, h]
    simp [upd]
  · rw [List.getElem?_set_ne (fun q => hi q.symm), z_fs_get, z_fs_get]
    cases fl[i]? with
    | none => rfl
    | some o =>
      cases o with
      | none => simp [upd, hi]
      | some c => rfl
theorem z_wd_len {lay : Nat → zL} {n : Nat} {ad : Nat → Nat} {cA : Nat → ClassId} {σ : zS} : (z_wd lay n ad cA σ).length = n := by simp [z_wd]
theorem z_wd_get {lay : Nat → zL} {n : Nat} {ad : Nat → Nat} {cA : Nat → ClassId} {σ : zS} {W0 : va_W} {k : Nat} (h : k < n) : (z_wd lay n ad cA σ ++ W0)[k]? = some (ad k, z_en ad cA (lay k) (σ k)) := by
  rw [List.getElem?_append_left (by rw [z_wd_len]; exact h)]
  simp [z_wd, h]
theorem z_wd_set {lay : Nat → zL} {n : Nat} {ad : Nat → Nat} {cA : Nat → ClassId} {σ : zS} {W0 : va_W} {k : Nat} (h : k < n) {f : Nat → Int32} : (z_wd lay n ad cA σ ++ W0).set k (ad k, z_en ad cA (lay k) f) = z_wd lay n ad cA (va_up σ k f) ++ W0 := by
  apply List.ext_getElem?
  intro i
  by_cases hi : i = k
  · subst hi
    rw [List.getElem?_set_self (by rw [List.length_append, z_wd_len]; omega), z_wd_get h, va_up_self]
  · rw [List.getElem?_set_ne (fun q => hi q.symm)]
    by_cases hn : i < n
    · rw [z_wd_get hn, z_wd_get hn, va_up_ne _ _ hi]
    · rw [List.getElem?_append_right (by rw [z_wd_len]; omega), List.getElem?_append_right (by rw [z_wd_len]; omega), z_wd_len, z_wd_len]
/-- the locals, by their places -/
def z_h (ls : Array Slot) (nL : Nat) (lv : List (Option Value)) : Prop := ls.size = nL ∧ lv_wf ls ∧ ∀ (i : Nat) (v : Value), lv[i]? = some (some v) → ls[i]? = some (.val v) ∧ v.category = 1
def z_pr (lv : List (Option Value)) : List (Nat × Value) := (List.range lv.length).filterMap (fun i => (lv[i]?).bind (fun o => o.map (fun v => (i, v))))
theorem z_pr_mem {lv : List (Option Value)} {i : Nat} {v : Value} : (i, v) ∈ z_pr lv ↔ lv[i]? = some (some v) := by
  constructor
  · intro h
    obtain ⟨k, -, hk⟩ := List.mem_filterMap.mp h
    cases ho : lv[k]? with
    | none => rw [ho] at hk; cases hk
    | some o =>
      cases o with
      | none => rw [ho] at hk; cases hk
      | some w =>
        rw [ho] at hk
        cases hk
        exact ho
  · intro h
    refine List.mem_filterMap.mpr ⟨i, List.mem_range.mpr (List.getElem?_eq_some_iff.mp h).1, ?_⟩
    rw [h]
    rfl
theorem z_h_has {ls : Array Slot} {nL : Nat} {lv : List (Option Value)} (h : z_h ls nL lv) : lv_has ls nL (z_pr lv) := ⟨h.1, h.2.1, fun q hq => (h.2.2 q.1 q.2 (z_pr_mem.mp hq)).1⟩
theorem z_h_set {ls' : Array Slot} {nL i : Nat} {lv : List (Option Value)} {v : Value} {ls : Array Slot} (h0 : z_h ls nL lv) (hc : v.category = 1) (h : lv_has ls' nL ((i, v) :: (z_pr lv).filter (fun q => !(q.1 == i) && !(q.1 + 1 == i && q.2.category == 2)))) : z_h ls' nL (lv.set i (some v)) := by
  refine ⟨h.1, h.2.1, fun j w hj => ?_⟩
  by_cases hji : j = i
  · subst hji
    have hl : j < lv.length := by
      have := (List.getElem?_eq_some_iff.mp hj).1
      rwa [List.length_set] at this
    rw [List.getElem?_set_self hl] at hj
    have e : v = w := Option.some.inj (Option.some.inj hj)
    subst e
    exact ⟨h.2.2 (j, v) List.mem_cons_self, hc⟩
  · rw [List.getElem?_set_ne (fun q => hji q.symm)] at hj
    have hw := (h0.2.2 j w hj).2
    refine ⟨h.2.2 (j, w) (List.mem_cons_of_mem _ (List.mem_filter.mpr ⟨z_pr_mem.mpr hj, ?_⟩)), hw⟩
    simp [hji, hw]
def z_keep (ks : List Nat) (lv : List (Option Value)) : List (Option Value) := ks.foldl (fun l k => l.set k none) lv
theorem z_h_none {ls : Array Slot} {nL : Nat} {lv : List (Option Value)} (h : z_h ls nL lv) (k : Nat) : z_h ls nL (lv.set k none) := by
  refine ⟨h.1, h.2.1, fun i v hi => ?_⟩
  by_cases hik : i = k
  · subst hik
    have hl : i < lv.length := by
      have := (List.getElem?_eq_some_iff.mp hi).1
      rwa [List.length_set] at this
    rw [List.getElem?_set_self hl] at hi
    cases hi
  · rw [List.getElem?_set_ne (fun q => hik q.symm)] at hi
    exact h.2.2 i v hi
theorem z_h_keep {ls : Array Slot} {nL : Nat} : ∀ (ks : List Nat) {lv : List (Option Value)}, z_h ls nL lv → z_h ls nL (z_keep ks lv)
  | [], _, h => h
  | k :: ks, lv, h => z_h_keep ks (lv := lv.set k none) (z_h_none h k)
/-- the state of a walk that doesn't change -/
abbrev zG : Type := Program × Launch × Env × Room × State × MethodId × Array Value × List Frame × Method × Code × (Nat → ClassId) × va_G × va_W × Nat
def z_ty (cA : Nat → ClassId) : List (ClassId × FieldType) := [(cA 0, .int), (cA 1, .boolean), (cA 2, .object "TurnClock$Moment")]
def z_nest : List (String × Nat × MethodName × String) := [("TurnClock$Moment", 50, ⟨"TurnClock", "isCounter", "(I)Z"⟩, "TurnClock"), ("TurnClock", 11, ⟨"TurnClock$House", "<init>", "()V"⟩, "TurnClock"), ("TurnClock", 18, ⟨"TurnClock$Deeds", "<init>", "()V"⟩, "TurnClock"), ("TurnClock", 25, ⟨"TurnClock$Events", "<init>", "()V"⟩, "TurnClock"), ("TurnClock", 32, ⟨"TurnClock$Timers", "<init>", "()V"⟩, "TurnClock"), ("TurnClock", 39, ⟨"TurnClock$Daemons", "<init>", "()V"⟩, "TurnClock"), ("TurnClock", 46, ⟨"TurnClock$Moment", "<init>", "()V"⟩, "TurnClock"), ("TurnClock$Past", 17, ⟨"TurnClock$Moment", "<init>", "()V"⟩, "TurnClock")]
def z_N (U : State) : Prop := ∀ q ∈ z_nest, va_Nw (.methodLinkNest q.1 q.2.1 q.2.2.1 q.2.2.2) U
theorem z_N_warm {s U : State} (hW : s.WarmedH U.vm) (h : z_N s) : z_N U := fun q hq => (h q hq).warmM hW
def z_B (lay : Nat → zL) (n : Nat) (ad : Nat → Nat) (cA : Nat → ClassId) (D : va_G) (W0 : va_W) (lo : Nat) (σ : zS) (U : State) : Prop := va_P D vwCl (z_wd lay n ad cA σ ++ W0) U.heap ∧ va_K D vwCl (z_ty cA) U ∧ z_N U ∧ ∀ σ', va_D (fun q => lo ≤ q) (z_wd lay n ad cA σ' ++ W0)
def z_Qc (ret : Option FieldType) (lay : Nat → zL) (n : Nat) (ad : Nat → Nat) (cA : Nat → ClassId) (D : va_G) (W0 : va_W) (lo : Nat) (out : Int32 × zS) : Array Value → State → Outcome → State → Prop := match ret with
  | none => va_Qv (fun u => u = out.2) (z_B lay n ad cA D W0 lo) (fun q => lo ≤ q)
  | some _ => va_Qi (fun r u => (r, u) = out) (z_B lay n ad cA D W0 lo) (fun q => lo ≤ q)
def zX (Γ : zG) (lay : Nat → zL) (n : Nat) (ad : Nat → Nat) (cc : ByteArray) (own : String) (nL : Nat) (rm : Room) (ret : Option FieldType) : Prop := match Γ with
  | (p, l, e, R, s, m, args, below, meth, c, cA, D, W0, lo) => p.tables.exec = Jvm.exec ∧ c.code = cc ∧ c.maxLocals = nL ∧ s.vm.findClass own = some m.cls ∧ (∀ w ∈ z_TB, w.before args s = true) ∧ va_K D vwCl (z_ty cA) s ∧ z_N s ∧ (∀ σ', va_D (fun q => lo ≤ q) (z_wd lay n ad cA σ' ++ W0)) ∧ R = rm ∧ meth.sig.returnType = ret ∧ meth.locks = false
def zZ (Γ : zG) (lay : Nat → zL) (n : Nat) (ad : Nat → Nat) (nL : Nat) (ret : Option FieldType) (pc : Nat) (lv : List (Option Value)) (st : List Value) (σ : zS) (o : Option (Int32 × zS)) : Prop := match Γ with
  | (p, l, e, R, s, m, args, below, meth, c, cA, D, W0, lo) => ∀ out, o = some out → ∀ (ls : Array Slot) (H : Heap) (locs : List Loc), z_h ls nL lv → va_P D vwCl (z_wd lay n ad cA σ ++ W0) H → va_S (fun q => lo ≤ q) s.heap H locs →
    W p l e R s m args below meth c H locs 0 0 (MQ below (z_Qc ret lay n ad cA D W0 lo out) args s 0 0 (fun q => lo ≤ q)) (F0 m pc ls st)
def zK (Γ : zG) (lay : Nat → zL) (n : Nat) (ad : Nat → Nat) (nL : Nat) (ret : Option FieldType) (pc : Nat) (lv : List (Option Value)) (st : List Value) (σ : zS) {α : Type} (e : Option α) (K : α → Option (Int32 × zS)) : Prop := zZ Γ lay n ad nL ret pc lv st σ (e.bind K)
/-- a method's contract, for every place of its world, beside any other cells -/
def zM (lay : Nat → zL) (n : Nat) (y : MethodName) (cd : ByteArray) (mL : Nat) (ret : Option FieldType) (rm : Room) (av : (Nat → Nat) → List Value) (f : zS → Option (Int32 × zS)) : Prop :=
  ∀ (l : Launch) (ad : Nat → Nat) (cA : Nat → ClassId) (D : va_G) (W0 : va_W) (lo : Nat) (σ : zS) (out : Int32 × zS), f σ = some out →
    Met l y (.code y cd mL ret :: z_TB) rm (va_Pc (av ad) (z_B lay n ad cA D W0 lo σ)) (z_Qc ret lay n ad cA D W0 lo out) 0 0 (fun q => lo ≤ q)
def z_lv (vs : List Value) (mL : Nat) : List (Option Value) := vs.map some ++ List.replicate (mL - vs.length) none
