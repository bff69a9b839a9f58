abbrev z_in (i : Int32) (len : Nat) : Prop := i.toNatClampNeg < len ∧ ¬ i < 0
theorem z_in_vp {i : Int32} {len : Nat} (h : z_in i len) : vp_in i len := fun q => q.elim (fun a => h.2 a) (fun a => absurd h.1 (by omega))
def zF (own : String) (idx ci k : Nat) (C : String) (T : u_T) (N : Nat) : Prop := Cond.fieldLink own idx (T k).1 (T k).2.1 (T k).2.2.1 ∈ z_TB ∧ vwCl[ci]? = some (C, T, N) ∧ k < N ∧ ∀ w ∈ u_ws C T N, w ∈ z_TB
def zP (own : String) (idx ci k : Nat) (C : String) (T : u_T) (N : Nat) (ty : FieldType) : Prop := zF own idx ci k C T N ∧ (∃ ty0 : Nat → FieldType, ∀ k, k < N → parseFieldDescriptor (T k).2.2.1 = some (ty0 k)) ∧ (∀ a, a < N → ∀ b, b < N → a ≠ b → (T a).2.1 ≠ (T b).2.1) ∧ (T k).2.2.2 = false ∧ parseFieldDescriptor (T k).2.2.1 = some ty
theorem z_N_vm {u U : State} (h : u.vm = U.vm) (hN : z_N u) : z_N U := fun q hq => va_Nw.same rfl h (hN q hq)
theorem z_nb {x : Int32} (h : x = 0 ∨ x = 1) : narrow .boolean (.int x) = .int x := by rcases h with rfl | rfl <;> rfl
theorem z_fb {x : Int32} (h : x = 0 ∨ x = 1) : fits .boolean (.int x) = true := by rcases h with rfl | rfl <;> decide
section ZH
variable {Γ : zG} {lay : Nat → zL} {n : Nat} {ad : Nat → Nat} {cc : ByteArray} {own : String} {nL : Nat} {rm : Room} {ret : Option FieldType} {pc : Nat} {lv : List (Option Value)} {st : List Value} {σ : zS} {α : Type} {e : Option α} {K : α → Option (Int32 × zS)}
theorem z_obj {cA : Nat → ClassId} {W0 : va_W} {b ci : Nat} {fl : List (Option Nat)} (hb : b < n) (hl : lay b = .inr (ci, fl)) : (z_wd lay n ad cA σ ++ W0)[b]? = some (ad b, .inr (ci, z_fs ad (σ b) 0 fl)) := by rw [z_wd_get hb, hl]; rfl
theorem z_arI {cA : Nat → ClassId} {W0 : va_W} {b k : Nat} (hb : b < n) (hl : lay b = .inl (0, k)) : (z_wd lay n ad cA σ ++ W0)[b]? = some (ad b, .inl (cA 0, k, .inl (σ b))) := by rw [z_wd_get hb, hl]; rfl
theorem z_arZ {cA : Nat → ClassId} {W0 : va_W} {b k : Nat} (hb : b < n) (hl : lay b = .inl (1, k)) : (z_wd lay n ad cA σ ++ W0)[b]? = some (ad b, .inl (cA 1, k, .inl (σ b))) := by rw [z_wd_get hb, hl]; rfl
theorem z_arM {cA : Nat → ClassId} {W0 : va_W} {b k : Nat} (hb : b < n) (hl : lay b = .inl (2, k)) : (z_wd lay n ad cA σ ++ W0)[b]? = some (ad b, .inl (cA 2, k, .inr (.inr (.inr (.inr (fun j => some (ad (z_mo (σ b j).toNatClampNeg)))))))) := by rw [z_wd_get hb, hl]; rfl
theorem z_geti (hC : zX Γ lay n ad cc own nL rm ret) {idx ci k N b : Nat} {C : String} {T : u_T} {fl : List (Option Nat)} (hf : zF own idx ci k C T N) (hd : decode cc pc = .ok (.getfield idx, 3)) (hbn : b < n) (hl : lay b = .inr (ci, fl)) (hv : fl[k]? = some none) (kk : zK Γ lay n ad nL ret (pc + 3) lv (.int (σ b k) :: st) σ e K) : zK Γ lay n ad nL ret pc lv (.ref (ad b) :: st) σ e K := by
  obtain ⟨p, l, en, R, s, m, args, below, meth, c, cA, D, W0, lo⟩ := Γ
  obtain ⟨hx, hb, hml, hown, hts, hK, hN, hD, hR, hr, hlk⟩ := hC
  intro out ho ls H locs hl1 hP hS
  exact va_get (D := D) hx hb hts hf.2.2.2 hown hK hP b (z_obj hbn hl) hf.2.1 k hf.2.2.1 (hts _ hf.1) (fun _ h => h) (v := .int (σ b k)) (by rw [z_fs_get, hv]; simp) hd (kk out ho ls H locs hl1 hP hS)
theorem z_getr (hC : zX Γ lay n ad cc own nL rm ret) {idx ci k N b r : Nat} {C : String} {T : u_T} {fl : List (Option Nat)} (hf : zF own idx ci k C T N) (hd : decode cc pc = .ok (.getfield idx, 3)) (hbn : b < n) (hl : lay b = .inr (ci, fl)) (hv : fl[k]? = some (some r)) (kk : zK Γ lay n ad nL ret (pc + 3) lv (.ref (ad r) :: st) σ e K) : zK Γ lay n ad nL ret pc lv (.ref (ad b) :: st) σ e K := by
  obtain ⟨p, l, en, R, s, m, args, below, meth, c, cA, D, W0, lo⟩ := Γ
  obtain ⟨hx, hb, hml, hown, hts, hK, hN, hD, hR, hr, hlk⟩ := hC
  intro out ho ls H locs hl1 hP hS
  exact va_get (D := D) hx hb hts hf.2.2.2 hown hK hP b (z_obj hbn hl) hf.2.1 k hf.2.2.1 (hts _ hf.1) (fun _ h => h) (v := .ref (ad r)) (by rw [z_fs_get, hv]; rfl) hd (kk out ho ls H locs hl1 hP hS)
theorem z_putx (hC : zX Γ lay n ad cc own nL rm ret) {idx ci k N b : Nat} {C : String} {T : u_T} {ty : FieldType} {fl : List (Option Nat)} {x : Int32} (hf : zP own idx ci k C T N ty) (hnar : narrow ty (.int x) = .int x) (hfit : fits ty (.int x) = true) (hd : decode cc pc = .ok (.putfield idx, 3)) (hbn : b < n) (hl : lay b = .inr (ci, fl)) (hv : fl[k]? = some none) (kk : zK Γ lay n ad nL ret (pc + 3) lv st (zs σ b k x) e K) : zK Γ lay n ad nL ret pc lv (.int x :: .ref (ad b) :: st) σ e K := by
  obtain ⟨p, l, en, R, s, m, args, below, meth, c, cA, D, W0, lo⟩ := Γ
  obtain ⟨hx, hb, hml, hown, hts, hK, hN, hD, hR, hr, hlk⟩ := hC
  obtain ⟨hF, ⟨ty0, hty⟩, hnm, hfin, hpd⟩ := hf
  intro out ho ls H locs hl1 hP hS
  have hlen : k < fl.length := (List.getElem?_eq_some_iff.mp hv).1
  refine va_put (D := D) hx hb hts hF.2.2.2 ty0 hty hnm hown hK hP (hD σ) hS b (z_obj hbn hl) hF.2.1 k hF.2.2.1 (hts _ hF.1) (fun _ h => h) hfin hpd hnar hfit (by rw [z_fs_len]; exact hlen) hd (fun H1 locs1 hP1 hD1 hS1 => kk out ho ls H1 locs1 hl1 ?_ hS1)
  rw [z_fs_set ad (σ b) fl k x hv] at hP1
  have h2 : (Sum.inr (ci, z_fs ad (upd (σ b) k x) 0 fl) : va_E) = z_en ad cA (lay b) (upd (σ b) k x) := by rw [hl]; rfl
  rw [h2, z_wd_set hbn] at hP1
  exact hP1
theorem z_puti (hC : zX Γ lay n ad cc own nL rm ret) {idx ci k N b : Nat} {C : String} {T : u_T} {fl : List (Option Nat)} {x : Int32} (hf : zP own idx ci k C T N .int) (hd : decode cc pc = .ok (.putfield idx, 3)) (hbn : b < n) (hl : lay b = .inr (ci, fl)) (hv : fl[k]? = some none) (kk : zK Γ lay n ad nL ret (pc + 3) lv st (zs σ b k x) e K) : zK Γ lay n ad nL ret pc lv (.int x :: .ref (ad b) :: st) σ e K := z_putx hC hf rfl rfl hd hbn hl hv kk
theorem z_putz (hC : zX Γ lay n ad cc own nL rm ret) {idx ci k N b : Nat} {C : String} {T : u_T} {fl : List (Option Nat)} {x : Int32} (hf : zP own idx ci k C T N .boolean) (hb01 : x = 0 ∨ x = 1) (hd : decode cc pc = .ok (.putfield idx, 3)) (hbn : b < n) (hl : lay b = .inr (ci, fl)) (hv : fl[k]? = some none) (kk : zK Γ lay n ad nL ret (pc + 3) lv st (zs σ b k x) e K) : zK Γ lay n ad nL ret pc lv (.int x :: .ref (ad b) :: st) σ e K := z_putx hC hf (z_nb hb01) (z_fb hb01) hd hbn hl hv kk
theorem z_iald (hC : zX Γ lay n ad cc own nL rm ret) {b k : Nat} {i : Int32} (hd : decode cc pc = .ok (.iaload, 1)) (hbn : b < n) (hl : lay b = .inl (0, k)) {d : Decidable (z_in i k)} (kk : z_in i k → zK Γ lay n ad nL ret (pc + 1) lv (.int (σ b i.toNatClampNeg) :: st) σ e K) : zK Γ lay n ad nL ret pc lv (.int i :: .ref (ad b) :: st) σ (zg (z_in i k) e) K := by
  refine z_chk (fun hi => ?_)
  have kk := kk hi
  obtain ⟨p, l, en, R, s, m, args, below, meth, c, cA, D, W0, lo⟩ := Γ
  obtain ⟨hx, hb, hml, hown, hts, hK, hN, hD, hR, hr, hlk⟩ := hC
  intro out ho ls H locs hl1 hP hS
  exact va_iald hx hb hK hP b 0 (z_arI hbn hl) rfl (z_in_vp hi) hd (kk out ho ls H locs hl1 hP hS)
theorem z_zald (hC : zX Γ lay n ad cc own nL rm ret) {b k : Nat} {i : Int32} (hd : decode cc pc = .ok (.baload, 1)) (hbn : b < n) (hl : lay b = .inl (1, k)) {d : Decidable (z_in i k)} (kk : z_in i k → zK Γ lay n ad nL ret (pc + 1) lv (.int (σ b i.toNatClampNeg) :: st) σ e K) : zK Γ lay n ad nL ret pc lv (.int i :: .ref (ad b) :: st) σ (zg (z_in i k) e) K := by
  refine z_chk (fun hi => ?_)
  have kk := kk hi
  obtain ⟨p, l, en, R, s, m, args, below, meth, c, cA, D, W0, lo⟩ := Γ
  obtain ⟨hx, hb, hml, hown, hts, hK, hN, hD, hR, hr, hlk⟩ := hC
  intro out ho ls H locs hl1 hP hS
  exact va_zald hx hb hK hP b 1 (z_arZ hbn hl) rfl (z_in_vp hi) hd (kk out ho ls H locs hl1 hP hS)
theorem z_aald (hC : zX Γ lay n ad cc own nL rm ret) {b k : Nat} {i : Int32} (hd : decode cc pc = .ok (.aaload, 1)) (hbn : b < n) (hl : lay b = .inl (2, k)) {d : Decidable (z_in i k)} (kk : z_in i k → zK Γ lay n ad nL ret (pc + 1) lv (.ref (ad (z_mo (σ b i.toNatClampNeg).toNatClampNeg)) :: st) σ e K) : zK Γ lay n ad nL ret pc lv (.int i :: .ref (ad b) :: st) σ (zg (z_in i k) e) K := by
  refine z_chk (fun hi => ?_)
  have kk := kk hi
  obtain ⟨p, l, en, R, s, m, args, below, meth, c, cA, D, W0, lo⟩ := Γ
  obtain ⟨hx, hb, hml, hown, hts, hK, hN, hD, hR, hr, hlk⟩ := hC
  intro out ho ls H locs hl1 hP hS
  exact va_aldq hx hb hK hP b 2 (z_arM hbn hl) rfl (z_in_vp hi) hd (kk out ho ls H locs hl1 hP hS)
theorem z_iast (hC : zX Γ lay n ad cc own nL rm ret) {b k : Nat} {i x : Int32} (hd : decode cc pc = .ok (.iastore, 1)) (hbn : b < n) (hl : lay b = .inl (0, k)) {d : Decidable (z_in i k)} (kk : z_in i k → zK Γ lay n ad nL ret (pc + 1) lv st (zs σ b i.toNatClampNeg x) e K) : zK Γ lay n ad nL ret pc lv (.int x :: .int i :: .ref (ad b) :: st) σ (zg (z_in i k) e) K := by
  refine z_chk (fun hi => ?_)
  have kk := kk hi
  obtain ⟨p, l, en, R, s, m, args, below, meth, c, cA, D, W0, lo⟩ := Γ
  obtain ⟨hx, hb, hml, hown, hts, hK, hN, hD, hR, hr, hlk⟩ := hC
  intro out ho ls H locs hl1 hP hS
  refine va_iast hx hb hK hP (hD σ) hS b 0 (z_arI hbn hl) rfl (z_in_vp hi) hd (fun H1 locs1 hP1 hD1 hS1 => kk out ho ls H1 locs1 hl1 ?_ hS1)
  have h2 : (Sum.inl (cA 0, k, .inl (upd (σ b) i.toNatClampNeg x)) : va_E) = z_en ad cA (lay b) (upd (σ b) i.toNatClampNeg x) := by rw [hl]; rfl
  rw [h2, z_wd_set hbn] at hP1
  exact hP1
theorem z_zast (hC : zX Γ lay n ad cc own nL rm ret) {b k : Nat} {i x : Int32} (hd : decode cc pc = .ok (.bastore, 1)) (hbn : b < n) (hl : lay b = .inl (1, k)) {d : Decidable (z_in i k)} (kk : z_in i k → zK Γ lay n ad nL ret (pc + 1) lv st (zs σ b i.toNatClampNeg (vp_nar .boolean x)) e K) : zK Γ lay n ad nL ret pc lv (.int x :: .int i :: .ref (ad b) :: st) σ (zg (z_in i k) e) K := by
  refine z_chk (fun hi => ?_)
  have kk := kk hi
  obtain ⟨p, l, en, R, s, m, args, below, meth, c, cA, D, W0, lo⟩ := Γ
  obtain ⟨hx, hb, hml, hown, hts, hK, hN, hD, hR, hr, hlk⟩ := hC
  intro out ho ls H locs hl1 hP hS
  refine va_zast hx hb hK hP (hD σ) hS b 1 (z_arZ hbn hl) rfl (z_in_vp hi) hd (fun H1 locs1 hP1 hD1 hS1 => kk out ho ls H1 locs1 hl1 ?_ hS1)
  have h2 : (Sum.inl (cA 1, k, .inl (upd (σ b) i.toNatClampNeg (vp_nar .boolean x))) : va_E) = z_en ad cA (lay b) (upd (σ b) i.toNatClampNeg (vp_nar .boolean x)) := by rw [hl]; rfl
  rw [h2, z_wd_set hbn] at hP1
  exact hP1
theorem z_aast (hC : zX Γ lay n ad cc own nL rm ret) {b k : Nat} {i x : Int32} {fl : List (Option Nat)} (hd : decode cc pc = .ok (.aastore, 1)) (hbn : b < n) (hl : lay b = .inl (2, k)) (hmn : z_mo x.toNatClampNeg < n) (hml0 : lay (z_mo x.toNatClampNeg) = .inr (4, fl)) {d : Decidable (z_in i k)} (kk : z_in i k → zK Γ lay n ad nL ret (pc + 1) lv st (zs σ b i.toNatClampNeg x) e K) : zK Γ lay n ad nL ret pc lv (.ref (ad (z_mo x.toNatClampNeg)) :: .int i :: .ref (ad b) :: st) σ (zg (z_in i k) e) K := by
  refine z_chk (fun hi => ?_)
  have kk := kk hi
  obtain ⟨p, l, en, R, s, m, args, below, meth, c, cA, D, W0, lo⟩ := Γ
  obtain ⟨hx, hb, hml, hown, hts, hK, hN, hD, hR, hr, hlk⟩ := hC
  intro out ho ls H locs hl1 hP hS
  refine va_astq hx hb hK hP (hD σ) hS b 2 (z_mo x.toNatClampNeg) 4 (r := (RX4, TX4, 15)) (z_arM hbn hl) rfl (z_obj hmn hml0) rfl (z_in_vp hi) hd (fun H1 locs1 hP1 hD1 hS1 => kk out ho ls H1 locs1 hl1 ?_ hS1)
  have h1 : (va_up (fun j => some (ad (z_mo (σ b j).toNatClampNeg))) i.toNatClampNeg (some (ad (z_mo x.toNatClampNeg)))) = (fun j => some (ad (z_mo (upd (σ b) i.toNatClampNeg x j).toNatClampNeg))) := by
    funext j
    by_cases hj : j = i.toNatClampNeg
    · simp [va_up, upd, hj]
    · simp [va_up, upd, hj]
  have h2 : (Sum.inl (cA 2, k, .inr (.inr (.inr (.inr (fun j => some (ad (z_mo (upd (σ b) i.toNatClampNeg x j).toNatClampNeg))))))) : va_E) = z_en ad cA (lay b) (upd (σ b) i.toNatClampNeg x) := by rw [hl]; rfl
  rw [h1, h2, z_wd_set hbn] at hP1
  exact hP1
theorem z_alenZ (hC : zX Γ lay n ad cc own nL rm ret) {b k : Nat} {v : Int32} (hd : decode cc pc = .ok (.arraylength, 1)) (hbn : b < n) (hl : lay b = .inl (1, k)) (hv : Int32.ofNat k = v) (kk : zK Γ lay n ad nL ret (pc + 1) lv (.int v :: st) σ e K) : zK Γ lay n ad nL ret pc lv (.ref (ad b) :: st) σ e K := by
  obtain ⟨p, l, en, R, s, m, args, below, meth, c, cA, D, W0, lo⟩ := Γ
  obtain ⟨hx, hb, hml, hown, hts, hK, hN, hD, hR, hr, hlk⟩ := hC
  intro out ho ls H locs hl1 hP hS
  exact va_alen hx hb hK hP b 1 (z_arZ hbn hl) (ty := .boolean) rfl hv hd (kk out ho ls H locs hl1 hP hS)
theorem z_copy (hC : zX Γ lay n ad cc own nL rm ret) {b0 b1 k0 k1 idx N : Nat} {x : Int32} (hw1 : Cond.methodLink own idx arraycopyName ∈ z_TB) (hw2 : Cond.native arraycopyName ∈ z_TB) (hw3 : Cond.static arraycopyName ∈ z_TB) (hw4 : Cond.initialized "java/lang/System" ∈ z_TB) (hd : decode cc pc = .ok (.invokestatic idx, 3)) (hb0 : b0 < n) (hb1 : b1 < n) (hl0 : lay b0 = .inl (0, k0)) (hl1 : lay b1 = .inl (0, k1)) (hx : x.toNatClampNeg = N ∧ ¬ x < 0 ∧ N ≤ k0 ∧ N ≤ k1) (hR : 1 ≤ rm.frames ∧ (st.map fun v => v.category).sum + (nativeFrameWords "java/lang/System" "arraycopy" 5 + 11) ≤ rm.locals)
    (kk : zK Γ lay n ad nL ret (pc + 3) lv st (va_up σ b1 (va_cpy (σ b0) (σ b1) 0 0 N)) e K) : zK Γ lay n ad nL ret pc lv (.int x :: .int 0 :: .ref (ad b1) :: .int 0 :: .ref (ad b0) :: st) σ e K := by
  obtain ⟨p, l, en, R, s, m, args, below, meth, c, cA, D, W0, lo⟩ := Γ
  obtain ⟨hex, hb, hml, hown, hts, hK, hN, hD, rfl, hr, hlk⟩ := hC
  obtain ⟨rfl, h3, h4, h5⟩ := hx
  intro out ho ls H locs hlL hP hS
  refine va_copyi hex hb (hml.trans hlL.1.symm) hown (hts _ hw1) (hts _ hw2) (hts _ hw3) (hts _ hw4) hK hP (hD σ) hS b0 b1 0 0 (ty := .int) (z_arI hb0 hl0) (z_arI hb1 hl1) rfl rfl rfl (by decide) (by decide) h3 (by simpa using h4) (by simpa using h5) (fun _ _ => rfl) hR.1 hR.2 hd (fun H1 locs1 hP1 hD1 hS1 => kk out ho ls H1 locs1 hlL ?_ hS1)
  have h2 : (Sum.inl (cA 0, k1, .inl (va_cpy (σ b0) (σ b1) (0 : Int32).toNatClampNeg (0 : Int32).toNatClampNeg x.toNatClampNeg)) : va_E) = z_en ad cA (lay b1) (va_cpy (σ b0) (σ b1) 0 0 x.toNatClampNeg) := by rw [hl1]; rfl
  rw [h2, z_wd_set hb1] at hP1
  exact hP1
theorem z_mmax (hC : zX Γ lay n ad cc own nL rm ret) {idx : Nat} {x y : Int32} (hw1 : Cond.methodLink own idx Lib.Math.max.name ∈ z_TB) (hw2 : Cond.static Lib.Math.max.name ∈ z_TB) (hw3 : Cond.initialized "java/lang/Math" ∈ z_TB) (hw4 : Cond.code Lib.Math.max.name Lib.Math.max.code 2 (some .int) ∈ z_TB) (hd : decode cc pc = .ok (.invokestatic idx, 3)) (hR : 1 ≤ rm.frames ∧ (st.map fun v => v.category).sum + 13 ≤ rm.locals) (kk : zK Γ lay n ad nL ret (pc + 3) lv (.int (if x < y then y else x) :: st) σ e K) : zK Γ lay n ad nL ret pc lv (.int y :: .int x :: st) σ e K := by
  obtain ⟨p, l, en, R, s, m, args, below, meth, c, cA, D, W0, lo⟩ := Γ
  obtain ⟨hex, hb, hml, hown, hts, hK, hN, hD, rfl, hr, hlk⟩ := hC
  intro out ho ls H locs hlL hP hS
  exact va_mmax hex hb (hml.trans hlL.1.symm) hown (hts _ hw1) (hts _ hw2) (hts _ hw3) (hts _ hw4) hR.1 hR.2 (Nat.zero_le _) (Nat.zero_le _) hd (kk out ho ls H locs hlL hP hS)
theorem z_mmin (hC : zX Γ lay n ad cc own nL rm ret) {idx : Nat} {x y : Int32} (hw1 : Cond.methodLink own idx Lib.Math.min.name ∈ z_TB) (hw2 : Cond.static Lib.Math.min.name ∈ z_TB) (hw3 : Cond.initialized "java/lang/Math" ∈ z_TB) (hw4 : Cond.code Lib.Math.min.name Lib.Math.min.code 2 (some .int) ∈ z_TB) (hd : decode cc pc = .ok (.invokestatic idx, 3)) (hR : 1 ≤ rm.frames ∧ (st.map fun v => v.category).sum + 13 ≤ rm.locals) (kk : zK Γ lay n ad nL ret (pc + 3) lv (.int (if y < x then y else x) :: st) σ e K) : zK Γ lay n ad nL ret pc lv (.int y :: .int x :: st) σ e K := by
  obtain ⟨p, l, en, R, s, m, args, below, meth, c, cA, D, W0, lo⟩ := Γ
  obtain ⟨hex, hb, hml, hown, hts, hK, hN, hD, rfl, hr, hlk⟩ := hC
  intro out ho ls H locs hlL hP hS
  exact va_mmin hex hb (hml.trans hlL.1.symm) hown (hts _ hw1) (hts _ hw2) (hts _ hw3) (hts _ hw4) hR.1 hR.2 (Nat.zero_le _) (Nat.zero_le _) hd (kk out ho ls H locs hlL hP hS)
/-- returns -/
theorem z_iret {v : Int32} (hC : zX Γ lay n ad cc own nL rm (some .int)) (hd : decode cc pc = .ok (.ireturn, 1)) : zK Γ lay n ad nL (some .int) pc lv [.int v] σ (some (v, σ)) some := by
  obtain ⟨p, l, en, R, s, m, args, below, meth, c, cA, D, W0, lo⟩ := Γ
  obtain ⟨hx, hb, hml, hown, hts, hK, hN, hD, hR, hr, hlk⟩ := hC
  intro out ho ls H locs hl1 hP hS
  have ho : (v, σ) = out := Option.some.inj ho
  subst ho
  exact W.iret (v := v) hx hb hr (fun t ht hW => ⟨⟨v, σ, rfl, rfl, by rw [ht]; exact hP, va_K.moved hW.alike hK, z_N_warm hW hN, hD⟩, hS.F ht⟩) hS.2.2 hd hlk
theorem z_zret {v : Int32} (hC : zX Γ lay n ad cc own nL rm (some .boolean)) (hv : v = 0 ∨ v = 1) (hd : decode cc pc = .ok (.ireturn, 1)) : zK Γ lay n ad nL (some .boolean) pc lv [.int v] σ (some (v, σ)) some := by
  obtain ⟨p, l, en, R, s, m, args, below, meth, c, cA, D, W0, lo⟩ := Γ
  obtain ⟨hx, hb, hml, hown, hts, hK, hN, hD, hR, hr, hlk⟩ := hC
  intro out ho ls H locs hl1 hP hS
  have ho : (v, σ) = out := Option.some.inj ho
  subst ho
  exact W.zret (v := v) hx hb hr (z_nb hv) (fun t ht hW => ⟨⟨v, σ, rfl, rfl, by rw [ht]; exact hP, va_K.moved hW.alike hK, z_N_warm hW hN, hD⟩, hS.F ht⟩) hS.2.2 hd hlk
theorem z_vret {r : Int32} (hC : zX Γ lay n ad cc own nL rm none) (hd : decode cc pc = .ok (.return_, 1)) : zK Γ lay n ad nL none pc lv [] σ (some (r, σ)) some := by
  obtain ⟨p, l, en, R, s, m, args, below, meth, c, cA, D, W0, lo⟩ := Γ
  obtain ⟨hx, hb, hml, hown, hts, hK, hN, hD, hR, hr, hlk⟩ := hC
  intro out ho ls H locs hl1 hP hS
  have ho : (r, σ) = out := Option.some.inj ho
  subst ho
  exact W.vret hx hb hr (fun t ht hW => ⟨⟨σ, rfl, rfl, by rw [ht]; exact hP, va_K.moved hW.alike hK, z_N_warm hW hN, hD⟩, hS.F ht⟩) hS.2.2 hd hlk
end ZH
