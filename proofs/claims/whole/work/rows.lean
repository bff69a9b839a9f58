section
-- ===== PART A: goes FIRST, ahead of the names: the tables' words, and 'selects' of the private methods out of them =====
/-- a private method of a class that the tables say can be made, by its rows of tables_1 -/
def lw_okq (q : MethodName × Nat) : Prop := (q.1.cls ≠ "java/lang/invoke/MethodHandle" ∧ q.1.cls ≠ "java/lang/invoke/VarHandle") ∧ Cond.instantiable q.1.cls q.2 ∈ tables_1 ∧ Cond.privateMethod q.1 ∈ tables_1 ∧ Cond.instanceMethod q.1 ∈ tables_1
theorem lw_p0 : lw_okq (⟨"TurnClock", "closePast", "(I)I"⟩, 9) := ⟨⟨by decide +kernel, by decide +kernel⟩, List.mem_of_getElem? (i := 13) (by decide +kernel), List.mem_of_getElem? (i := 275) (by decide +kernel), List.mem_of_getElem? (i := 276) (by decide +kernel)⟩
theorem lw_p1 : lw_okq (⟨"TurnClock", "doDeed", "(I)Z"⟩, 9) := ⟨⟨by decide +kernel, by decide +kernel⟩, List.mem_of_getElem? (i := 13) (by decide +kernel), List.mem_of_getElem? (i := 347) (by decide +kernel), List.mem_of_getElem? (i := 348) (by decide +kernel)⟩
theorem lw_p2 : lw_okq (⟨"TurnClock", "carryOut", "(III)V"⟩, 9) := ⟨⟨by decide +kernel, by decide +kernel⟩, List.mem_of_getElem? (i := 13) (by decide +kernel), List.mem_of_getElem? (i := 351) (by decide +kernel), List.mem_of_getElem? (i := 352) (by decide +kernel)⟩
theorem lw_p3 : lw_okq (⟨"TurnClock", "startTimer", "(I)V"⟩, 9) := ⟨⟨by decide +kernel, by decide +kernel⟩, List.mem_of_getElem? (i := 13) (by decide +kernel), List.mem_of_getElem? (i := 366) (by decide +kernel), List.mem_of_getElem? (i := 367) (by decide +kernel)⟩
theorem lw_p4 : lw_okq (⟨"TurnClock", "stopTimer", "(I)V"⟩, 9) := ⟨⟨by decide +kernel, by decide +kernel⟩, List.mem_of_getElem? (i := 13) (by decide +kernel), List.mem_of_getElem? (i := 370) (by decide +kernel), List.mem_of_getElem? (i := 371) (by decide +kernel)⟩
theorem lw_p5 : lw_okq (⟨"TurnClock", "switchDaemon", "(IZ)V"⟩, 9) := ⟨⟨by decide +kernel, by decide +kernel⟩, List.mem_of_getElem? (i := 13) (by decide +kernel), List.mem_of_getElem? (i := 374) (by decide +kernel), List.mem_of_getElem? (i := 375) (by decide +kernel)⟩
theorem lw_p6 : lw_okq (⟨"TurnClock", "turnDoor", "(I)V"⟩, 9) := ⟨⟨by decide +kernel, by decide +kernel⟩, List.mem_of_getElem? (i := 13) (by decide +kernel), List.mem_of_getElem? (i := 378) (by decide +kernel), List.mem_of_getElem? (i := 379) (by decide +kernel)⟩
theorem lw_p7 : lw_okq (⟨"TurnClock", "giveGoal", "(II)V"⟩, 9) := ⟨⟨by decide +kernel, by decide +kernel⟩, List.mem_of_getElem? (i := 13) (by decide +kernel), List.mem_of_getElem? (i := 382) (by decide +kernel), List.mem_of_getElem? (i := 383) (by decide +kernel)⟩
theorem lw_p8 : lw_okq (⟨"TurnClock$Past", "dropOldest", "()V"⟩, 2) := ⟨⟨by decide +kernel, by decide +kernel⟩, List.mem_of_getElem? (i := 222) (by decide +kernel), List.mem_of_getElem? (i := 399) (by decide +kernel), List.mem_of_getElem? (i := 400) (by decide +kernel)⟩
theorem lw_p9 : lw_okq (⟨"TurnClock", "bringEvents", "()V"⟩, 9) := ⟨⟨by decide +kernel, by decide +kernel⟩, List.mem_of_getElem? (i := 13) (by decide +kernel), List.mem_of_getElem? (i := 413) (by decide +kernel), List.mem_of_getElem? (i := 414) (by decide +kernel)⟩
theorem lw_p10 : lw_okq (⟨"TurnClock", "lineUpEvents", "(I)I"⟩, 9) := ⟨⟨by decide +kernel, by decide +kernel⟩, List.mem_of_getElem? (i := 13) (by decide +kernel), List.mem_of_getElem? (i := 417) (by decide +kernel), List.mem_of_getElem? (i := 418) (by decide +kernel)⟩
theorem lw_p11 : lw_okq (⟨"TurnClock", "minutesUntil", "(I)I"⟩, 9) := ⟨⟨by decide +kernel, by decide +kernel⟩, List.mem_of_getElem? (i := 13) (by decide +kernel), List.mem_of_getElem? (i := 421) (by decide +kernel), List.mem_of_getElem? (i := 422) (by decide +kernel)⟩
theorem lw_p12 : lw_okq (⟨"TurnClock", "bringEvent", "(I)V"⟩, 9) := ⟨⟨by decide +kernel, by decide +kernel⟩, List.mem_of_getElem? (i := 13) (by decide +kernel), List.mem_of_getElem? (i := 433) (by decide +kernel), List.mem_of_getElem? (i := 434) (by decide +kernel)⟩
theorem lw_p13 : lw_okq (⟨"TurnClock", "runTimers", "()V"⟩, 9) := ⟨⟨by decide +kernel, by decide +kernel⟩, List.mem_of_getElem? (i := 13) (by decide +kernel), List.mem_of_getElem? (i := 441) (by decide +kernel), List.mem_of_getElem? (i := 442) (by decide +kernel)⟩
theorem lw_p14 : lw_okq (⟨"TurnClock", "runTimer", "(I)V"⟩, 9) := ⟨⟨by decide +kernel, by decide +kernel⟩, List.mem_of_getElem? (i := 13) (by decide +kernel), List.mem_of_getElem? (i := 445) (by decide +kernel), List.mem_of_getElem? (i := 446) (by decide +kernel)⟩
theorem lw_p15 : lw_okq (⟨"TurnClock", "runDaemons", "()V"⟩, 9) := ⟨⟨by decide +kernel, by decide +kernel⟩, List.mem_of_getElem? (i := 13) (by decide +kernel), List.mem_of_getElem? (i := 449) (by decide +kernel), List.mem_of_getElem? (i := 450) (by decide +kernel)⟩
def lw_privs_1 : List (MethodName × Nat) := [(⟨"TurnClock", "closePast", "(I)I"⟩, 9), (⟨"TurnClock", "doDeed", "(I)Z"⟩, 9), (⟨"TurnClock", "carryOut", "(III)V"⟩, 9), (⟨"TurnClock", "startTimer", "(I)V"⟩, 9), (⟨"TurnClock", "stopTimer", "(I)V"⟩, 9), (⟨"TurnClock", "switchDaemon", "(IZ)V"⟩, 9), (⟨"TurnClock", "turnDoor", "(I)V"⟩, 9), (⟨"TurnClock", "giveGoal", "(II)V"⟩, 9), (⟨"TurnClock$Past", "dropOldest", "()V"⟩, 2), (⟨"TurnClock", "bringEvents", "()V"⟩, 9), (⟨"TurnClock", "lineUpEvents", "(I)I"⟩, 9), (⟨"TurnClock", "minutesUntil", "(I)I"⟩, 9), (⟨"TurnClock", "bringEvent", "(I)V"⟩, 9), (⟨"TurnClock", "runTimers", "()V"⟩, 9), (⟨"TurnClock", "runTimer", "(I)V"⟩, 9), (⟨"TurnClock", "runDaemons", "()V"⟩, 9)]
theorem lw_r1 : ∀ q ∈ lw_privs_1, lw_okq q := List.forall_mem_cons.mpr ⟨lw_p0, List.forall_mem_cons.mpr ⟨lw_p1, List.forall_mem_cons.mpr ⟨lw_p2, List.forall_mem_cons.mpr ⟨lw_p3, List.forall_mem_cons.mpr ⟨lw_p4, List.forall_mem_cons.mpr ⟨lw_p5, List.forall_mem_cons.mpr ⟨lw_p6, List.forall_mem_cons.mpr ⟨lw_p7, List.forall_mem_cons.mpr ⟨lw_p8, List.forall_mem_cons.mpr ⟨lw_p9, List.forall_mem_cons.mpr ⟨lw_p10, List.forall_mem_cons.mpr ⟨lw_p11, List.forall_mem_cons.mpr ⟨lw_p12, List.forall_mem_cons.mpr ⟨lw_p13, List.forall_mem_cons.mpr ⟨lw_p14, List.forall_mem_cons.mpr ⟨lw_p15, fun _ h => absurd h List.not_mem_nil⟩⟩⟩⟩⟩⟩⟩⟩⟩⟩⟩⟩⟩⟩⟩⟩
theorem lw_p16 : lw_okq (⟨"TurnClock", "runDaemonsOf", "(I)V"⟩, 9) := ⟨⟨by decide +kernel, by decide +kernel⟩, List.mem_of_getElem? (i := 13) (by decide +kernel), List.mem_of_getElem? (i := 453) (by decide +kernel), List.mem_of_getElem? (i := 454) (by decide +kernel)⟩
theorem lw_p17 : lw_okq (⟨"TurnClock", "moveWalkers", "()V"⟩, 9) := ⟨⟨by decide +kernel, by decide +kernel⟩, List.mem_of_getElem? (i := 13) (by decide +kernel), List.mem_of_getElem? (i := 457) (by decide +kernel), List.mem_of_getElem? (i := 458) (by decide +kernel)⟩
theorem lw_p18 : lw_okq (⟨"TurnClock", "moveWalker", "(I)V"⟩, 9) := ⟨⟨by decide +kernel, by decide +kernel⟩, List.mem_of_getElem? (i := 13) (by decide +kernel), List.mem_of_getElem? (i := 461) (by decide +kernel), List.mem_of_getElem? (i := 462) (by decide +kernel)⟩
theorem lw_p19 : lw_okq (⟨"TurnClock$House", "spread", "(III)V"⟩, 6) := ⟨⟨by decide +kernel, by decide +kernel⟩, List.mem_of_getElem? (i := 21) (by decide +kernel), List.mem_of_getElem? (i := 473) (by decide +kernel), List.mem_of_getElem? (i := 474) (by decide +kernel)⟩
theorem lw_p20 : lw_okq (⟨"TurnClock$House", "beyondDoor", "(II)I"⟩, 6) := ⟨⟨by decide +kernel, by decide +kernel⟩, List.mem_of_getElem? (i := 21) (by decide +kernel), List.mem_of_getElem? (i := 477) (by decide +kernel), List.mem_of_getElem? (i := 478) (by decide +kernel)⟩
theorem lw_p21 : lw_okq (⟨"TurnClock$House", "isNearer", "(II)Z"⟩, 6) := ⟨⟨by decide +kernel, by decide +kernel⟩, List.mem_of_getElem? (i := 21) (by decide +kernel), List.mem_of_getElem? (i := 481) (by decide +kernel), List.mem_of_getElem? (i := 482) (by decide +kernel)⟩
theorem lw_p22 : lw_okq (⟨"TurnClockModel", "changed", "(I)I"⟩, 32) := ⟨⟨by decide +kernel, by decide +kernel⟩, List.mem_of_getElem? (i := 533) (by decide +kernel), List.mem_of_getElem? (i := 640) (by decide +kernel), List.mem_of_getElem? (i := 641) (by decide +kernel)⟩
theorem lw_p23 : lw_okq (⟨"TurnClockModel", "holds", "(I)Z"⟩, 32) := ⟨⟨by decide +kernel, by decide +kernel⟩, List.mem_of_getElem? (i := 533) (by decide +kernel), List.mem_of_getElem? (i := 682) (by decide +kernel), List.mem_of_getElem? (i := 683) (by decide +kernel)⟩
theorem lw_p24 : lw_okq (⟨"TurnClockModel", "perform", "(I)V"⟩, 32) := ⟨⟨by decide +kernel, by decide +kernel⟩, List.mem_of_getElem? (i := 533) (by decide +kernel), List.mem_of_getElem? (i := 686) (by decide +kernel), List.mem_of_getElem? (i := 687) (by decide +kernel)⟩
theorem lw_p25 : lw_okq (⟨"TurnClockModel", "goTime", "()V"⟩, 32) := ⟨⟨by decide +kernel, by decide +kernel⟩, List.mem_of_getElem? (i := 533) (by decide +kernel), List.mem_of_getElem? (i := 701) (by decide +kernel), List.mem_of_getElem? (i := 702) (by decide +kernel)⟩
theorem lw_p26 : lw_okq (⟨"TurnClockModel", "tell", "(II)V"⟩, 32) := ⟨⟨by decide +kernel, by decide +kernel⟩, List.mem_of_getElem? (i := 533) (by decide +kernel), List.mem_of_getElem? (i := 705) (by decide +kernel), List.mem_of_getElem? (i := 706) (by decide +kernel)⟩
theorem lw_p27 : lw_okq (⟨"TurnClockModel", "goTimers", "()V"⟩, 32) := ⟨⟨by decide +kernel, by decide +kernel⟩, List.mem_of_getElem? (i := 533) (by decide +kernel), List.mem_of_getElem? (i := 709) (by decide +kernel), List.mem_of_getElem? (i := 710) (by decide +kernel)⟩
theorem lw_p28 : lw_okq (⟨"TurnClockModel", "goDaemons", "()V"⟩, 32) := ⟨⟨by decide +kernel, by decide +kernel⟩, List.mem_of_getElem? (i := 533) (by decide +kernel), List.mem_of_getElem? (i := 713) (by decide +kernel), List.mem_of_getElem? (i := 714) (by decide +kernel)⟩
theorem lw_p29 : lw_okq (⟨"TurnClockModel", "goWalkers", "()V"⟩, 32) := ⟨⟨by decide +kernel, by decide +kernel⟩, List.mem_of_getElem? (i := 533) (by decide +kernel), List.mem_of_getElem? (i := 717) (by decide +kernel), List.mem_of_getElem? (i := 718) (by decide +kernel)⟩
theorem lw_p30 : lw_okq (⟨"TurnClockModel", "findWays", "(I)V"⟩, 32) := ⟨⟨by decide +kernel, by decide +kernel⟩, List.mem_of_getElem? (i := 533) (by decide +kernel), List.mem_of_getElem? (i := 721) (by decide +kernel), List.mem_of_getElem? (i := 722) (by decide +kernel)⟩
theorem lw_p31 : lw_okq (⟨"TurnClockModel", "step", "(II)V"⟩, 32) := ⟨⟨by decide +kernel, by decide +kernel⟩, List.mem_of_getElem? (i := 533) (by decide +kernel), List.mem_of_getElem? (i := 725) (by decide +kernel), List.mem_of_getElem? (i := 726) (by decide +kernel)⟩
def lw_privs_2 : List (MethodName × Nat) := [(⟨"TurnClock", "runDaemonsOf", "(I)V"⟩, 9), (⟨"TurnClock", "moveWalkers", "()V"⟩, 9), (⟨"TurnClock", "moveWalker", "(I)V"⟩, 9), (⟨"TurnClock$House", "spread", "(III)V"⟩, 6), (⟨"TurnClock$House", "beyondDoor", "(II)I"⟩, 6), (⟨"TurnClock$House", "isNearer", "(II)Z"⟩, 6), (⟨"TurnClockModel", "changed", "(I)I"⟩, 32), (⟨"TurnClockModel", "holds", "(I)Z"⟩, 32), (⟨"TurnClockModel", "perform", "(I)V"⟩, 32), (⟨"TurnClockModel", "goTime", "()V"⟩, 32), (⟨"TurnClockModel", "tell", "(II)V"⟩, 32), (⟨"TurnClockModel", "goTimers", "()V"⟩, 32), (⟨"TurnClockModel", "goDaemons", "()V"⟩, 32), (⟨"TurnClockModel", "goWalkers", "()V"⟩, 32), (⟨"TurnClockModel", "findWays", "(I)V"⟩, 32), (⟨"TurnClockModel", "step", "(II)V"⟩, 32)]
theorem lw_r2 : ∀ q ∈ lw_privs_2, lw_okq q := List.forall_mem_cons.mpr ⟨lw_p16, List.forall_mem_cons.mpr ⟨lw_p17, List.forall_mem_cons.mpr ⟨lw_p18, List.forall_mem_cons.mpr ⟨lw_p19, List.forall_mem_cons.mpr ⟨lw_p20, List.forall_mem_cons.mpr ⟨lw_p21, List.forall_mem_cons.mpr ⟨lw_p22, List.forall_mem_cons.mpr ⟨lw_p23, List.forall_mem_cons.mpr ⟨lw_p24, List.forall_mem_cons.mpr ⟨lw_p25, List.forall_mem_cons.mpr ⟨lw_p26, List.forall_mem_cons.mpr ⟨lw_p27, List.forall_mem_cons.mpr ⟨lw_p28, List.forall_mem_cons.mpr ⟨lw_p29, List.forall_mem_cons.mpr ⟨lw_p30, List.forall_mem_cons.mpr ⟨lw_p31, fun _ h => absurd h List.not_mem_nil⟩⟩⟩⟩⟩⟩⟩⟩⟩⟩⟩⟩⟩⟩⟩⟩
theorem lw_p32 : lw_okq (⟨"TurnClockModel", "isJoined", "(II)Z"⟩, 32) := ⟨⟨by decide +kernel, by decide +kernel⟩, List.mem_of_getElem? (i := 533) (by decide +kernel), List.mem_of_getElem? (i := 729) (by decide +kernel), List.mem_of_getElem? (i := 730) (by decide +kernel)⟩
def lw_privs_3 : List (MethodName × Nat) := [(⟨"TurnClockModel", "isJoined", "(II)Z"⟩, 32)]
theorem lw_r3 : ∀ q ∈ lw_privs_3, lw_okq q := List.forall_mem_cons.mpr ⟨lw_p32, fun _ h => absurd h List.not_mem_nil⟩
def lw_privs : List (MethodName × Nat) := lw_privs_1 ++ (lw_privs_2 ++ (lw_privs_3))
def lw_tbl : List Cond := k2_sels lw_privs ++ tables_1
theorem lw_privs_ok : ∀ q ∈ lw_privs, lw_okq q := by
  show ∀ q ∈ lw_privs_1 ++ (lw_privs_2 ++ (lw_privs_3)), lw_okq q
  exact List.forall_mem_append.mpr ⟨lw_r1, List.forall_mem_append.mpr ⟨lw_r2, lw_r3⟩⟩
end
section
/-! ===== BEGIN words of one list among another's, by their places ===== -/
theorem goodIn_r {big : List Cond} (ws : List Cond) (ps : List Nat) (hp : ws = ps.filterMap (fun i => big[i]?)) (h : ws.all goodWord = true) : GoodIn big ws := by
  intro w hw
  have h1 := List.all_eq_true.mp h w hw
  rw [hp] at hw
  obtain ⟨i, -, hi⟩ := List.mem_filterMap.mp hw
  have hm : w ∈ big := by first | exact List.mem_of_getElem? hi | exact List.getElem?_mem hi
  exact ⟨hm, good_of_word h1⟩
theorem goodIn_app {big a b : List Cond} (ha : GoodIn big a) (hb : GoodIn big b) : GoodIn big (a ++ b) := fun w h => (List.mem_append.mp h).elim (ha w) (hb w)
theorem goodIn_ca {big a b : List Cond} {c : Cond} (ha : GoodIn big (c :: a)) (hb : GoodIn big b) : GoodIn big (c :: (a ++ b)) := fun w h => (List.mem_cons.mp h).elim (fun e => ha w (List.mem_cons.mpr (Or.inl e))) (fun h => (List.mem_append.mp h).elim (fun h => ha w (List.mem_cons.mpr (Or.inr h))) (hb w))
theorem goodIn_sub {big ws : List Cond} (hm : ∀ w ∈ ws, w ∈ big) (h : ws.all goodWord = true) : GoodIn big ws := fun w hw => ⟨hm w hw, good_of_word (List.all_eq_true.mp h w hw)⟩
/-! ===== END ===== -/

/-! ===== BEGIN printed: names, fields, word lists, decode rows ===== -/
def RX0 : String := "TurnClock$Daemons"
def TX0 : u_T := fun k => match k with
  | 0 => ("TurnClock$Daemons", "size", "I", false)
  | 1 => ("TurnClock$Daemons", "deed", "[I", true)
  | _ => ("TurnClock$Daemons", "priority", "[I", true)
def tyX0 : Nat → FieldType := fun k => match k with
  | 0 => .int
  | 1 => .array .int
  | _ => .array .int
abbrev wsX00 : List Cond := u_ws RX0 TX0 3
theorem nmX0 : ∀ a, a < 3 → ∀ b, b < 3 → a ≠ b → (TX0 a).2.1 ≠ (TX0 b).2.1 := by decide +kernel
theorem tyX0_ok : ∀ k, k < 3 → parseFieldDescriptor (TX0 k).2.2.1 = some (tyX0 k) := by decide +kernel
abbrev cX0_init : ByteArray := prog_2_method_1_code
def yX0_init : MethodName := ⟨RX0, "<init>", "()V"⟩
abbrev cX0_addDaemon : ByteArray := prog_2_method_2_code
def yX0_addDaemon : MethodName := ⟨RX0, "addDaemon", "(II)I"⟩
def RX1 : String := "TurnClock$Deeds"
def TX1 : u_T := fun k => match k with
  | 0 => ("TurnClock$Deeds", "size", "I", false)
  | 1 => ("TurnClock$Deeds", "sort", "[I", true)
  | 2 => ("TurnClock$Deeds", "x", "[I", true)
  | 3 => ("TurnClock$Deeds", "y", "[I", true)
  | 4 => ("TurnClock$Deeds", "counter", "[I", true)
  | _ => ("TurnClock$Deeds", "least", "[I", true)
def tyX1 : Nat → FieldType := fun k => match k with
  | 0 => .int
  | 1 => .array .int
  | 2 => .array .int
  | 3 => .array .int
  | 4 => .array .int
  | _ => .array .int
abbrev wsX10 : List Cond := u_ws RX1 TX1 6
theorem nmX1 : ∀ a, a < 6 → ∀ b, b < 6 → a ≠ b → (TX1 a).2.1 ≠ (TX1 b).2.1 := by decide +kernel
theorem tyX1_ok : ∀ k, k < 6 → parseFieldDescriptor (TX1 k).2.2.1 = some (tyX1 k) := by decide +kernel
abbrev cX1_init : ByteArray := prog_3_method_1_code
def yX1_init : MethodName := ⟨RX1, "<init>", "()V"⟩
abbrev cX1_addDeed : ByteArray := prog_3_method_2_code
def yX1_addDeed : MethodName := ⟨RX1, "addDeed", "(III)I"⟩
def RX2 : String := "TurnClock$Events"
def TX2 : u_T := fun k => match k with
  | 0 => ("TurnClock$Events", "size", "I", false)
  | 1 => ("TurnClock$Events", "deed", "[I", true)
  | 2 => ("TurnClock$Events", "minute", "[I", true)
  | 3 => ("TurnClock$Events", "daily", "[Z", true)
  | 4 => ("TurnClock$Events", "due", "[I", true)
  | _ => ("TurnClock$Events", "dueWait", "[I", true)
def tyX2 : Nat → FieldType := fun k => match k with
  | 0 => .int
  | 1 => .array .int
  | 2 => .array .int
  | 3 => .array .boolean
  | 4 => .array .int
  | _ => .array .int
abbrev wsX20 : List Cond := u_ws RX2 TX2 6
theorem nmX2 : ∀ a, a < 6 → ∀ b, b < 6 → a ≠ b → (TX2 a).2.1 ≠ (TX2 b).2.1 := by decide +kernel
theorem tyX2_ok : ∀ k, k < 6 → parseFieldDescriptor (TX2 k).2.2.1 = some (tyX2 k) := by decide +kernel
abbrev cX2_init : ByteArray := prog_4_method_1_code
def yX2_init : MethodName := ⟨RX2, "<init>", "()V"⟩
abbrev cX2_addEvent : ByteArray := prog_4_method_2_code
def yX2_addEvent : MethodName := ⟨RX2, "addEvent", "(IIZ)I"⟩
abbrev cX2_putInOrder : ByteArray := prog_4_method_3_code
def yX2_putInOrder : MethodName := ⟨RX2, "putInOrder", "(III)V"⟩
def RX3 : String := "TurnClock$House"
def TX3 : u_T := fun k => match k with
  | 0 => ("TurnClock$House", "rooms", "I", false)
  | 1 => ("TurnClock$House", "doors", "I", false)
  | 2 => ("TurnClock$House", "walkers", "I", false)
  | 3 => ("TurnClock$House", "oneSide", "[I", true)
  | 4 => ("TurnClock$House", "otherSide", "[I", true)
  | _ => ("TurnClock$House", "distance", "[I", true)
def tyX3 : Nat → FieldType := fun k => match k with
  | 0 => .int
  | 1 => .int
  | 2 => .int
  | 3 => .array .int
  | 4 => .array .int
  | _ => .array .int
abbrev wsX30 : List Cond := u_ws RX3 TX3 6
theorem nmX3 : ∀ a, a < 6 → ∀ b, b < 6 → a ≠ b → (TX3 a).2.1 ≠ (TX3 b).2.1 := by decide +kernel
theorem tyX3_ok : ∀ k, k < 6 → parseFieldDescriptor (TX3 k).2.2.1 = some (tyX3 k) := by decide +kernel
abbrev cX3_init : ByteArray := prog_5_method_1_code
def yX3_init : MethodName := ⟨RX3, "<init>", "()V"⟩
abbrev cX3_addRoom : ByteArray := prog_5_method_2_code
def yX3_addRoom : MethodName := ⟨RX3, "addRoom", "()I"⟩
abbrev cX3_addDoor : ByteArray := prog_5_method_3_code
def yX3_addDoor : MethodName := ⟨RX3, "addDoor", "(II)I"⟩
abbrev cX3_addWalker : ByteArray := prog_5_method_4_code
def yX3_addWalker : MethodName := ⟨RX3, "addWalker", "()I"⟩
abbrev cX3_nextRoom : ByteArray := prog_5_method_5_code
def yX3_nextRoom : MethodName := ⟨RX3, "nextRoom", "(II[Z)I"⟩
abbrev cX3_beyondDoor : ByteArray := prog_5_method_6_code
def yX3_beyondDoor : MethodName := ⟨RX3, "beyondDoor", "(II)I"⟩
abbrev cX3_isNearer : ByteArray := prog_5_method_7_code
def yX3_isNearer : MethodName := ⟨RX3, "isNearer", "(II)Z"⟩
abbrev cX3_measureTo : ByteArray := prog_5_method_8_code
def yX3_measureTo : MethodName := ⟨RX3, "measureTo", "(I[Z)V"⟩
abbrev cX3_spread : ByteArray := prog_5_method_9_code
def yX3_spread : MethodName := ⟨RX3, "spread", "(III)V"⟩
def RX4 : String := "TurnClock$Moment"
def TX4 : u_T := fun k => match k with
  | 0 => ("TurnClock$Moment", "time", "I", false)
  | 1 => ("TurnClock$Moment", "day", "I", false)
  | 2 => ("TurnClock$Moment", "turns", "I", false)
  | 3 => ("TurnClock$Moment", "pace", "I", false)
  | 4 => ("TurnClock$Moment", "skip", "I", false)
  | 5 => ("TurnClock$Moment", "rows", "I", false)
  | 6 => ("TurnClock$Moment", "rowKind", "[I", true)
  | 7 => ("TurnClock$Moment", "rowNumber", "[I", true)
  | 8 => ("TurnClock$Moment", "counters", "[I", true)
  | 9 => ("TurnClock$Moment", "shut", "[Z", true)
  | 10 => ("TurnClock$Moment", "place", "[I", true)
  | 11 => ("TurnClock$Moment", "goal", "[I", true)
  | 12 => ("TurnClock$Moment", "turnsLeft", "[I", true)
  | 13 => ("TurnClock$Moment", "on", "[Z", true)
  | _ => ("TurnClock$Moment", "gone", "[Z", true)
def tyX4 : Nat → FieldType := fun k => match k with
  | 0 => .int
  | 1 => .int
  | 2 => .int
  | 3 => .int
  | 4 => .int
  | 5 => .int
  | 6 => .array .int
  | 7 => .array .int
  | 8 => .array .int
  | 9 => .array .boolean
  | 10 => .array .int
  | 11 => .array .int
  | 12 => .array .int
  | 13 => .array .boolean
  | _ => .array .boolean
abbrev wsX40 : List Cond := u_ws RX4 TX4 15
theorem nmX4 : ∀ a, a < 15 → ∀ b, b < 15 → a ≠ b → (TX4 a).2.1 ≠ (TX4 b).2.1 := by decide +kernel
theorem tyX4_ok : ∀ k, k < 15 → parseFieldDescriptor (TX4 k).2.2.1 = some (tyX4 k) := by decide +kernel
abbrev cX4_init : ByteArray := prog_6_method_1_code
def yX4_init : MethodName := ⟨RX4, "<init>", "()V"⟩
abbrev cX4_goOn : ByteArray := prog_6_method_2_code
def yX4_goOn : MethodName := ⟨RX4, "goOn", "(I)V"⟩
abbrev cX4_growCounter : ByteArray := prog_6_method_3_code
def yX4_growCounter : MethodName := ⟨RX4, "growCounter", "(II)V"⟩
abbrev cX4_addRow : ByteArray := prog_6_method_4_code
def yX4_addRow : MethodName := ⟨RX4, "addRow", "(II)V"⟩
abbrev cX4_copyFrom : ByteArray := prog_6_method_5_code
def yX4_copyFrom : MethodName := ⟨RX4, "copyFrom", "(LTurnClock$Moment;)V"⟩
abbrev cX4_copyFlags : ByteArray := prog_6_method_6_code
def yX4_copyFlags : MethodName := ⟨RX4, "copyFlags", "([Z[Z)V"⟩
def RX5 : String := "TurnClock$Past"
def TX5 : u_T := fun k => match k with
  | 0 => ("TurnClock$Past", "size", "I", false)
  | _ => ("TurnClock$Past", "kept", "[LTurnClock$Moment;", true)
def tyX5 : Nat → FieldType := fun k => match k with
  | 0 => .int
  | _ => .array (.object "TurnClock$Moment")
abbrev wsX50 : List Cond := u_ws RX5 TX5 2
theorem nmX5 : ∀ a, a < 2 → ∀ b, b < 2 → a ≠ b → (TX5 a).2.1 ≠ (TX5 b).2.1 := by decide +kernel
theorem tyX5_ok : ∀ k, k < 2 → parseFieldDescriptor (TX5 k).2.2.1 = some (tyX5 k) := by decide +kernel
abbrev cX5_init : ByteArray := prog_7_method_1_code
def yX5_init : MethodName := ⟨RX5, "<init>", "()V"⟩
abbrev cX5_keep : ByteArray := prog_7_method_2_code
def yX5_keep : MethodName := ⟨RX5, "keep", "(LTurnClock$Moment;)V"⟩
abbrev cX5_dropOldest : ByteArray := prog_7_method_3_code
def yX5_dropOldest : MethodName := ⟨RX5, "dropOldest", "()V"⟩
abbrev cX5_giveBack : ByteArray := prog_7_method_4_code
def yX5_giveBack : MethodName := ⟨RX5, "giveBack", "(LTurnClock$Moment;)V"⟩
def RX6 : String := "TurnClock$Timers"
def TX6 : u_T := fun k => match k with
  | 0 => ("TurnClock$Timers", "size", "I", false)
  | 1 => ("TurnClock$Timers", "deed", "[I", true)
  | 2 => ("TurnClock$Timers", "length", "[I", true)
  | _ => ("TurnClock$Timers", "repeated", "[Z", true)
def tyX6 : Nat → FieldType := fun k => match k with
  | 0 => .int
  | 1 => .array .int
  | 2 => .array .int
  | _ => .array .boolean
abbrev wsX60 : List Cond := u_ws RX6 TX6 4
theorem nmX6 : ∀ a, a < 4 → ∀ b, b < 4 → a ≠ b → (TX6 a).2.1 ≠ (TX6 b).2.1 := by decide +kernel
theorem tyX6_ok : ∀ k, k < 4 → parseFieldDescriptor (TX6 k).2.2.1 = some (tyX6 k) := by decide +kernel
abbrev cX6_init : ByteArray := prog_8_method_1_code
def yX6_init : MethodName := ⟨RX6, "<init>", "()V"⟩
abbrev cX6_addTimer : ByteArray := prog_8_method_2_code
def yX6_addTimer : MethodName := ⟨RX6, "addTimer", "(IIZ)I"⟩
def RX7 : String := "TurnClock"
def TX7 : u_T := fun k => match k with
  | 0 => ("TurnClock", "house", "LTurnClock$House;", true)
  | 1 => ("TurnClock", "deeds", "LTurnClock$Deeds;", true)
  | 2 => ("TurnClock", "events", "LTurnClock$Events;", true)
  | 3 => ("TurnClock", "timers", "LTurnClock$Timers;", true)
  | 4 => ("TurnClock", "daemons", "LTurnClock$Daemons;", true)
  | 5 => ("TurnClock", "now", "LTurnClock$Moment;", true)
  | 6 => ("TurnClock", "past", "LTurnClock$Past;", true)
  | 7 => ("TurnClock", "startedSince", "[Z", true)
  | _ => ("TurnClock", "ended", "Z", false)
def tyX7 : Nat → FieldType := fun k => match k with
  | 0 => .object "TurnClock$House"
  | 1 => .object "TurnClock$Deeds"
  | 2 => .object "TurnClock$Events"
  | 3 => .object "TurnClock$Timers"
  | 4 => .object "TurnClock$Daemons"
  | 5 => .object "TurnClock$Moment"
  | 6 => .object "TurnClock$Past"
  | 7 => .array .boolean
  | _ => .boolean
abbrev wsX70 : List Cond := u_ws RX7 TX7 9
theorem nmX7 : ∀ a, a < 9 → ∀ b, b < 9 → a ≠ b → (TX7 a).2.1 ≠ (TX7 b).2.1 := by decide +kernel
theorem tyX7_ok : ∀ k, k < 9 → parseFieldDescriptor (TX7 k).2.2.1 = some (tyX7 k) := by decide +kernel
abbrev cX7_init : ByteArray := prog_1_method_1_code
def yX7_init : MethodName := ⟨RX7, "<init>", "()V"⟩
abbrev cX7_room : ByteArray := prog_1_method_2_code
def yX7_room : MethodName := ⟨RX7, "room", "()I"⟩
abbrev cX7_door : ByteArray := prog_1_method_3_code
def yX7_door : MethodName := ⟨RX7, "door", "(II)I"⟩
abbrev cX7_walker : ByteArray := prog_1_method_4_code
def yX7_walker : MethodName := ⟨RX7, "walker", "(I)I"⟩
abbrev cX7_deed : ByteArray := prog_1_method_5_code
def yX7_deed : MethodName := ⟨RX7, "deed", "(III)I"⟩
abbrev cX7_condition : ByteArray := prog_1_method_6_code
def yX7_condition : MethodName := ⟨RX7, "condition", "(III)I"⟩
abbrev cX7_event : ByteArray := prog_1_method_7_code
def yX7_event : MethodName := ⟨RX7, "event", "(IIZ)I"⟩
abbrev cX7_timer : ByteArray := prog_1_method_8_code
def yX7_timer : MethodName := ⟨RX7, "timer", "(IIZ)I"⟩
abbrev cX7_daemon : ByteArray := prog_1_method_9_code
def yX7_daemon : MethodName := ⟨RX7, "daemon", "(II)I"⟩
abbrev cX7_act : ByteArray := prog_1_method_10_code
def yX7_act : MethodName := ⟨RX7, "act", "(I)I"⟩
abbrev cX7_pace : ByteArray := prog_1_method_11_code
def yX7_pace : MethodName := ⟨RX7, "pace", "(I)I"⟩
abbrev cX7_turn : ByteArray := prog_1_method_12_code
def yX7_turn : MethodName := ⟨RX7, "turn", "()I"⟩
abbrev cX7_back : ByteArray := prog_1_method_13_code
def yX7_back : MethodName := ⟨RX7, "back", "()I"⟩
abbrev cX7_told : ByteArray := prog_1_method_14_code
def yX7_told : MethodName := ⟨RX7, "told", "(I)I"⟩
abbrev cX7_count : ByteArray := prog_1_method_15_code
def yX7_count : MethodName := ⟨RX7, "count", "(I)I"⟩
abbrev cX7_counter : ByteArray := prog_1_method_16_code
def yX7_counter : MethodName := ⟨RX7, "counter", "(I)I"⟩
abbrev cX7_left : ByteArray := prog_1_method_17_code
def yX7_left : MethodName := ⟨RX7, "left", "(I)I"⟩
abbrev cX7_is : ByteArray := prog_1_method_18_code
def yX7_is : MethodName := ⟨RX7, "is", "(II)I"⟩
abbrev cX7_walks : ByteArray := prog_1_method_19_code
def yX7_walks : MethodName := ⟨RX7, "walks", "(II)I"⟩
abbrev cX7_way : ByteArray := prog_1_method_20_code
def yX7_way : MethodName := ⟨RX7, "way", "(II)I"⟩
abbrev cX7_row : ByteArray := prog_1_method_21_code
def yX7_row : MethodName := ⟨RX7, "row", "(II)I"⟩
abbrev cX7_minutes : ByteArray := prog_1_method_22_code
def yX7_minutes : MethodName := ⟨RX7, "minutes", "(I)I"⟩
abbrev cX7_isThere : ByteArray := prog_1_method_23_code
def yX7_isThere : MethodName := ⟨RX7, "isThere", "(II)Z"⟩
abbrev cX7_isWithin : ByteArray := prog_1_method_24_code
def yX7_isWithin : MethodName := ⟨RX7, "isWithin", "(III)Z"⟩
abbrev cX7_isCounter : ByteArray := prog_1_method_25_code
def yX7_isCounter : MethodName := ⟨RX7, "isCounter", "(I)Z"⟩
abbrev cX7_isCounterValue : ByteArray := prog_1_method_26_code
def yX7_isCounterValue : MethodName := ⟨RX7, "isCounterValue", "(I)Z"⟩
abbrev cX7_asNumber : ByteArray := prog_1_method_27_code
def yX7_asNumber : MethodName := ⟨RX7, "asNumber", "(Z)I"⟩
abbrev cX7_closePast : ByteArray := prog_1_method_28_code
def yX7_closePast : MethodName := ⟨RX7, "closePast", "(I)I"⟩
abbrev cX7_minutesUntil : ByteArray := prog_1_method_29_code
def yX7_minutesUntil : MethodName := ⟨RX7, "minutesUntil", "(I)I"⟩
abbrev cX7_bringEvents : ByteArray := prog_1_method_30_code
def yX7_bringEvents : MethodName := ⟨RX7, "bringEvents", "()V"⟩
abbrev cX7_lineUpEvents : ByteArray := prog_1_method_31_code
def yX7_lineUpEvents : MethodName := ⟨RX7, "lineUpEvents", "(I)I"⟩
abbrev cX7_bringEvent : ByteArray := prog_1_method_32_code
def yX7_bringEvent : MethodName := ⟨RX7, "bringEvent", "(I)V"⟩
abbrev cX7_runTimers : ByteArray := prog_1_method_33_code
def yX7_runTimers : MethodName := ⟨RX7, "runTimers", "()V"⟩
abbrev cX7_runTimer : ByteArray := prog_1_method_34_code
def yX7_runTimer : MethodName := ⟨RX7, "runTimer", "(I)V"⟩
abbrev cX7_runDaemons : ByteArray := prog_1_method_35_code
def yX7_runDaemons : MethodName := ⟨RX7, "runDaemons", "()V"⟩
abbrev cX7_runDaemonsOf : ByteArray := prog_1_method_36_code
def yX7_runDaemonsOf : MethodName := ⟨RX7, "runDaemonsOf", "(I)V"⟩
abbrev cX7_moveWalkers : ByteArray := prog_1_method_37_code
def yX7_moveWalkers : MethodName := ⟨RX7, "moveWalkers", "()V"⟩
abbrev cX7_moveWalker : ByteArray := prog_1_method_38_code
def yX7_moveWalker : MethodName := ⟨RX7, "moveWalker", "(I)V"⟩
abbrev cX7_doDeed : ByteArray := prog_1_method_39_code
def yX7_doDeed : MethodName := ⟨RX7, "doDeed", "(I)Z"⟩
abbrev cX7_carryOut : ByteArray := prog_1_method_40_code
def yX7_carryOut : MethodName := ⟨RX7, "carryOut", "(III)V"⟩
abbrev cX7_startTimer : ByteArray := prog_1_method_41_code
def yX7_startTimer : MethodName := ⟨RX7, "startTimer", "(I)V"⟩
abbrev cX7_stopTimer : ByteArray := prog_1_method_42_code
def yX7_stopTimer : MethodName := ⟨RX7, "stopTimer", "(I)V"⟩
abbrev cX7_switchDaemon : ByteArray := prog_1_method_43_code
def yX7_switchDaemon : MethodName := ⟨RX7, "switchDaemon", "(IZ)V"⟩
abbrev cX7_turnDoor : ByteArray := prog_1_method_44_code
def yX7_turnDoor : MethodName := ⟨RX7, "turnDoor", "(I)V"⟩
abbrev cX7_giveGoal : ByteArray := prog_1_method_45_code
def yX7_giveGoal : MethodName := ⟨RX7, "giveGoal", "(II)V"⟩
def RX8 : String := "TurnClockModel"
def TX8 : u_T := fun k => match k with
  | 0 => ("TurnClockModel", "now", "[I", true)
  | 1 => ("TurnClockModel", "before", "[I", true)
  | 2 => ("TurnClockModel", "many", "I", false)
  | 3 => ("TurnClockModel", "pace", "I", false)
  | 4 => ("TurnClockModel", "rooms", "I", false)
  | 5 => ("TurnClockModel", "doors", "I", false)
  | 6 => ("TurnClockModel", "doorFrom", "[I", true)
  | 7 => ("TurnClockModel", "doorTo", "[I", true)
  | 8 => ("TurnClockModel", "walkers", "I", false)
  | 9 => ("TurnClockModel", "deeds", "I", false)
  | 10 => ("TurnClockModel", "sorts", "[I", true)
  | 11 => ("TurnClockModel", "xs", "[I", true)
  | 12 => ("TurnClockModel", "ys", "[I", true)
  | 13 => ("TurnClockModel", "conditions", "[I", true)
  | 14 => ("TurnClockModel", "least", "[I", true)
  | 15 => ("TurnClockModel", "events", "I", false)
  | 16 => ("TurnClockModel", "eventDeeds", "[I", true)
  | 17 => ("TurnClockModel", "eventMinutes", "[I", true)
  | 18 => ("TurnClockModel", "eventDaily", "[Z", true)
  | 19 => ("TurnClockModel", "timers", "I", false)
  | 20 => ("TurnClockModel", "timerDeeds", "[I", true)
  | 21 => ("TurnClockModel", "timerLengths", "[I", true)
  | 22 => ("TurnClockModel", "timerAgain", "[Z", true)
  | 23 => ("TurnClockModel", "daemons", "I", false)
  | 24 => ("TurnClockModel", "daemonDeeds", "[I", true)
  | 25 => ("TurnClockModel", "priorities", "[I", true)
  | 26 => ("TurnClockModel", "isTurn", "Z", false)
  | 27 => ("TurnClockModel", "ended", "Z", false)
  | 28 => ("TurnClockModel", "done", "I", false)
  | 29 => ("TurnClockModel", "started", "[Z", true)
  | 30 => ("TurnClockModel", "runs", "[Z", true)
  | _ => ("TurnClockModel", "far", "[I", true)
def tyX8 : Nat → FieldType := fun k => match k with
  | 0 => .array .int
  | 1 => .array .int
  | 2 => .int
  | 3 => .int
  | 4 => .int
  | 5 => .int
  | 6 => .array .int
  | 7 => .array .int
  | 8 => .int
  | 9 => .int
  | 10 => .array .int
  | 11 => .array .int
  | 12 => .array .int
  | 13 => .array .int
  | 14 => .array .int
  | 15 => .int
  | 16 => .array .int
  | 17 => .array .int
  | 18 => .array .boolean
  | 19 => .int
  | 20 => .array .int
  | 21 => .array .int
  | 22 => .array .boolean
  | 23 => .int
  | 24 => .array .int
  | 25 => .array .int
  | 26 => .boolean
  | 27 => .boolean
  | 28 => .int
  | 29 => .array .boolean
  | 30 => .array .boolean
  | _ => .array .int
abbrev wsX80 : List Cond := u_ws RX8 TX8 32
theorem nmX8 : ∀ a, a < 32 → ∀ b, b < 32 → a ≠ b → (TX8 a).2.1 ≠ (TX8 b).2.1 := by decide +kernel
theorem tyX8_ok : ∀ k, k < 32 → parseFieldDescriptor (TX8 k).2.2.1 = some (tyX8 k) := by decide +kernel
abbrev cX8_init : ByteArray := prog_10_method_1_code
def yX8_init : MethodName := ⟨RX8, "<init>", "()V"⟩
abbrev cX8_in : ByteArray := prog_10_method_3_code
def yX8_in : MethodName := ⟨RX8, "in", "(III)Z"⟩
abbrev cX8_isOf : ByteArray := prog_10_method_4_code
def yX8_isOf : MethodName := ⟨RX8, "isOf", "(II)Z"⟩
abbrev cX8_changed : ByteArray := prog_10_method_5_code
def yX8_changed : MethodName := ⟨RX8, "changed", "(I)I"⟩
abbrev cX8_room : ByteArray := prog_10_method_6_code
def yX8_room : MethodName := ⟨RX8, "room", "()I"⟩
abbrev cX8_door : ByteArray := prog_10_method_7_code
def yX8_door : MethodName := ⟨RX8, "door", "(II)I"⟩
abbrev cX8_walker : ByteArray := prog_10_method_8_code
def yX8_walker : MethodName := ⟨RX8, "walker", "(I)I"⟩
abbrev cX8_deed : ByteArray := prog_10_method_9_code
def yX8_deed : MethodName := ⟨RX8, "deed", "(III)I"⟩
abbrev cX8_condition : ByteArray := prog_10_method_10_code
def yX8_condition : MethodName := ⟨RX8, "condition", "(III)I"⟩
abbrev cX8_event : ByteArray := prog_10_method_11_code
def yX8_event : MethodName := ⟨RX8, "event", "(IIZ)I"⟩
abbrev cX8_timer : ByteArray := prog_10_method_12_code
def yX8_timer : MethodName := ⟨RX8, "timer", "(IIZ)I"⟩
abbrev cX8_daemon : ByteArray := prog_10_method_13_code
def yX8_daemon : MethodName := ⟨RX8, "daemon", "(II)I"⟩
abbrev cX8_bound : ByteArray := prog_10_method_14_code
def yX8_bound : MethodName := ⟨RX8, "bound", "(III)I"⟩
abbrev cX8_holds : ByteArray := prog_10_method_15_code
def yX8_holds : MethodName := ⟨RX8, "holds", "(I)Z"⟩
abbrev cX8_perform : ByteArray := prog_10_method_16_code
def yX8_perform : MethodName := ⟨RX8, "perform", "(I)V"⟩
abbrev cX8_act : ByteArray := prog_10_method_17_code
def yX8_act : MethodName := ⟨RX8, "act", "(I)I"⟩
abbrev cX8_pace : ByteArray := prog_10_method_18_code
def yX8_pace : MethodName := ⟨RX8, "pace", "(I)I"⟩
abbrev cX8_tell : ByteArray := prog_10_method_19_code
def yX8_tell : MethodName := ⟨RX8, "tell", "(II)V"⟩
abbrev cX8_goTime : ByteArray := prog_10_method_20_code
def yX8_goTime : MethodName := ⟨RX8, "goTime", "()V"⟩
abbrev cX8_goTimers : ByteArray := prog_10_method_21_code
def yX8_goTimers : MethodName := ⟨RX8, "goTimers", "()V"⟩
abbrev cX8_goDaemons : ByteArray := prog_10_method_22_code
def yX8_goDaemons : MethodName := ⟨RX8, "goDaemons", "()V"⟩
abbrev cX8_findWays : ByteArray := prog_10_method_23_code
def yX8_findWays : MethodName := ⟨RX8, "findWays", "(I)V"⟩
abbrev cX8_step : ByteArray := prog_10_method_24_code
def yX8_step : MethodName := ⟨RX8, "step", "(II)V"⟩
abbrev cX8_isJoined : ByteArray := prog_10_method_25_code
def yX8_isJoined : MethodName := ⟨RX8, "isJoined", "(II)Z"⟩
abbrev cX8_goWalkers : ByteArray := prog_10_method_26_code
def yX8_goWalkers : MethodName := ⟨RX8, "goWalkers", "()V"⟩
abbrev cX8_turn : ByteArray := prog_10_method_27_code
def yX8_turn : MethodName := ⟨RX8, "turn", "()I"⟩
abbrev cX8_back : ByteArray := prog_10_method_28_code
def yX8_back : MethodName := ⟨RX8, "back", "()I"⟩
abbrev cX8_told : ByteArray := prog_10_method_29_code
def yX8_told : MethodName := ⟨RX8, "told", "(I)I"⟩
abbrev cX8_count : ByteArray := prog_10_method_30_code
def yX8_count : MethodName := ⟨RX8, "count", "(I)I"⟩
abbrev cX8_counter : ByteArray := prog_10_method_31_code
def yX8_counter : MethodName := ⟨RX8, "counter", "(I)I"⟩
abbrev cX8_left : ByteArray := prog_10_method_32_code
def yX8_left : MethodName := ⟨RX8, "left", "(I)I"⟩
abbrev cX8_is : ByteArray := prog_10_method_33_code
def yX8_is : MethodName := ⟨RX8, "is", "(II)I"⟩
abbrev cX8_walks : ByteArray := prog_10_method_34_code
def yX8_walks : MethodName := ⟨RX8, "walks", "(II)I"⟩
abbrev cX8_way : ByteArray := prog_10_method_35_code
def yX8_way : MethodName := ⟨RX8, "way", "(II)I"⟩
abbrev cX8_row : ByteArray := prog_10_method_36_code
def yX8_row : MethodName := ⟨RX8, "row", "(II)I"⟩
abbrev cX8_minutes : ByteArray := prog_10_method_37_code
def yX8_minutes : MethodName := ⟨RX8, "minutes", "(I)I"⟩
def RJ9 : String := "java/lang/Math"
def TJ9 : u_T := fun k => match k with
  | _ => ("", "", "", false)
def tyJ9 : Nat → FieldType := fun k => match k with
  | _ => .int
abbrev wsJ90 : List Cond := u_ws RJ9 TJ9 0
theorem nmJ9 : ∀ a, a < 0 → ∀ b, b < 0 → a ≠ b → (TJ9 a).2.1 ≠ (TJ9 b).2.1 := by decide +kernel
theorem tyJ9_ok : ∀ k, k < 0 → parseFieldDescriptor (TJ9 k).2.2.1 = some (tyJ9 k) := by decide +kernel
abbrev cJ9_max_7cf53 : ByteArray := prog_11_method_65_code
def yJ9_max_7cf53 : MethodName := ⟨RJ9, "max", "(II)I"⟩
abbrev cJ9_min_7cf53 : ByteArray := prog_11_method_69_code
def yJ9_min_7cf53 : MethodName := ⟨RJ9, "min", "(II)I"⟩
def RJ10 : String := "java/lang/System"
def TJ10 : u_T := fun k => match k with
  | _ => ("", "", "", false)
def tyJ10 : Nat → FieldType := fun k => match k with
  | _ => .int
abbrev wsJ100 : List Cond := u_ws RJ10 TJ10 0
theorem nmJ10 : ∀ a, a < 0 → ∀ b, b < 0 → a ≠ b → (TJ10 a).2.1 ≠ (TJ10 b).2.1 := by decide +kernel
theorem tyJ10_ok : ∀ k, k < 0 → parseFieldDescriptor (TJ10 k).2.2.1 = some (tyJ10 k) := by decide +kernel
def RL : String := "TurnClockLaw"
abbrev cL_law : ByteArray := code
def yL_law : MethodName := ⟨RL, "law", "([I)Z"⟩
abbrev vwCl : List vw_C := [(RX0, TX0, 3), (RX1, TX1, 6), (RX2, TX2, 6), (RX3, TX3, 6), (RX4, TX4, 15), (RX5, TX5, 2), (RX6, TX6, 4), (RX7, TX7, 9), (RX8, TX8, 32)]
end
section
/-! ===== a world of fixed shape: its cells are numbered, its numbers are one function; a walk is tied to a pure function step by step ===== -/
def z_TB : List Cond := lw_tbl.filter goodWord
abbrev zS : Type := Nat → Nat → Int32
abbrev zL : Type := (Nat × Nat) ⊕ (Nat × List (Option Nat))
def zs (σ : zS) (k j : Nat) (v : Int32) : zS := va_up σ k (upd (σ k) j v)
def z_mo (x : Nat) : Nat := match x with
  | 0 => 24
  | a + 1 => 36 + 10 * a
def z_fs (ad : Nat → Nat) (f : Nat → Int32) : Nat → List (Option Nat) → List Value
  | _, [] => []
  | j, none :: l => .int (f j) :: z_fs ad f (j + 1) l
  | j, some c :: l => .ref (ad c) :: z_fs ad f (j + 1) l
def z_en (ad : Nat → Nat) (cA : Nat → ClassId) (y : zL) (f : Nat → Int32) : va_E := match y with
  | .inl (2, n) => .inl (cA 2, n, .inr (.inr (.inr (.inr (fun j => some (ad (z_mo (f j).toNatClampNeg)))))))
  | .inl (t, n) => .inl (cA t, n, .inl f)
  | .inr (ci, fl) => .inr (ci, z_fs ad f 0 fl)
def z_wd (lay : Nat → zL) (n : Nat) (ad : Nat → Nat) (cA : Nat → ClassId) (σ : zS) : va_W := (List.range n).map (fun k => (ad k, z_en ad cA (lay k) (σ k)))
theorem z_fs_get (ad : Nat → Nat) (f : Nat → Int32) : ∀ (fl : List (Option Nat)) (j k : Nat), (z_fs ad f j fl)[k]? = (fl[k]?).map (fun o => match o with | none => .int (f (j + k)) | some c => .ref (ad c))
  | [], j, k => by simp [z_fs]
  | none :: l, j, 0 => by simp [z_fs]
  | some c :: l, j, 0 => by simp [z_fs]
  | none :: l, j, k + 1 => by
    simp only [z_fs, List.getElem?_cons_succ]
    rw [z_fs_get ad f l (j + 1) k]
    simp only [Nat.add_assoc, Nat.add_comm 1 k]
  | some c :: l, j, k + 1 => by
    simp only [z_fs, List.getElem?_cons_succ]
    rw [z_fs_get ad f l (j + 1) k]
    simp only [Nat.add_assoc, Nat.add_comm 1 k]
theorem z_fs_len (ad : Nat → Nat) (f : Nat → Int32) : ∀ (fl : List (Option Nat)) (j : Nat), (z_fs ad f j fl).length = fl.length
  | [], _ => rfl
  | none :: l, j => by simp [z_fs, z_fs_len ad f l (j + 1)]
  | some c :: l, j => by simp [z_fs, z_fs_len ad f l (j + 1)]
theorem z_fs_set (ad : Nat → Nat) (f : Nat → Int32) (fl : List (Option Nat)) (k : Nat) (x : Int32) (h : fl[k]? = some none) : (z_fs ad f 0 fl).set k (.int x) = z_fs ad (upd f k x) 0 fl := by
  apply List.ext_getElem?
  intro i
  by_cases hi : i = k
  · subst hi
    have hl := (List.getElem?_eq_some_iff.mp h).1
    rw [List.getElem?_set_self (by rw [z_fs_len]; exact hl), z_fs_get, h]
    simp [upd]
  · rw [List.getElem?_set_ne (fun q => hi q.symm), z_fs_get, z_fs_get]
    cases fl[i]? with
    | none => rfl
    | some o =>
      cases o with
      | none => simp [upd, hi]
      | some c => rfl
theorem z_wd_len {lay : Nat → zL} {n : Nat} {ad : Nat → Nat} {cA : Nat → ClassId} {σ : zS} : (z_wd lay n ad cA σ).length = n := by simp [z_wd]
theorem z_wd_get {lay : Nat → zL} {n : Nat} {ad : Nat → Nat} {cA : Nat → ClassId} {σ : zS} {W0 : va_W} {k : Nat} (h : k < n) : (z_wd lay n ad cA σ ++ W0)[k]? = some (ad k, z_en ad cA (lay k) (σ k)) := by
  rw [List.getElem?_append_left (by rw [z_wd_len]; exact h)]
  simp [z_wd, h]
theorem z_wd_set {lay : Nat → zL} {n : Nat} {ad : Nat → Nat} {cA : Nat → ClassId} {σ : zS} {W0 : va_W} {k : Nat} (h : k < n) {f : Nat → Int32} : (z_wd lay n ad cA σ ++ W0).set k (ad k, z_en ad cA (lay k) f) = z_wd lay n ad cA (va_up σ k f) ++ W0 := by
  apply List.ext_getElem?
  intro i
  by_cases hi : i = k
  · subst hi
    rw [List.getElem?_set_self (by rw [List.length_append, z_wd_len]; omega), z_wd_get h, va_up_self]
  · rw [List.getElem?_set_ne (fun q => hi q.symm)]
    by_cases hn : i < n
    · rw [z_wd_get hn, z_wd_get hn, va_up_ne _ _ hi]
    · rw [List.getElem?_append_right (by rw [z_wd_len]; omega), List.getElem?_append_right (by rw [z_wd_len]; omega), z_wd_len, z_wd_len]
/-- the locals, by their places -/
def z_h (ls : Array Slot) (nL : Nat) (lv : List (Option Value)) : Prop := ls.size = nL ∧ lv_wf ls ∧ ∀ (i : Nat) (v : Value), lv[i]? = some (some v) → ls[i]? = some (.val v) ∧ v.category = 1
def z_pr (lv : List (Option Value)) : List (Nat × Value) := (List.range lv.length).filterMap (fun i => (lv[i]?).bind (fun o => o.map (fun v => (i, v))))
theorem z_pr_mem {lv : List (Option Value)} {i : Nat} {v : Value} : (i, v) ∈ z_pr lv ↔ lv[i]? = some (some v) := by
  constructor
  · intro h
    obtain ⟨k, -, hk⟩ := List.mem_filterMap.mp h
    cases ho : lv[k]? with
    | none => rw [ho] at hk; cases hk
    | some o =>
      cases o with
      | none => rw [ho] at hk; cases hk
      | some w =>
        rw [ho] at hk
        cases hk
        exact ho
  · intro h
    refine List.mem_filterMap.mpr ⟨i, List.mem_range.mpr (List.getElem?_eq_some_iff.mp h).1, ?_⟩
    rw [h]
    rfl
theorem z_h_has {ls : Array Slot} {nL : Nat} {lv : List (Option Value)} (h : z_h ls nL lv) : lv_has ls nL (z_pr lv) := ⟨h.1, h.2.1, fun q hq => (h.2.2 q.1 q.2 (z_pr_mem.mp hq)).1⟩
theorem z_h_set {ls' : Array Slot} {nL i : Nat} {lv : List (Option Value)} {v : Value} {ls : Array Slot} (h0 : z_h ls nL lv) (hc : v.category = 1) (h : lv_has ls' nL ((i, v) :: (z_pr lv).filter (fun q => !(q.1 == i) && !(q.1 + 1 == i && q.2.category == 2)))) : z_h ls' nL (lv.set i (some v)) := by
  refine ⟨h.1, h.2.1, fun j w hj => ?_⟩
  by_cases hji : j = i
  · subst hji
    have hl : j < lv.length := by
      have := (List.getElem?_eq_some_iff.mp hj).1
      rwa [List.length_set] at this
    rw [List.getElem?_set_self hl] at hj
    have e : v = w := Option.some.inj (Option.some.inj hj)
    subst e
    exact ⟨h.2.2 (j, v) List.mem_cons_self, hc⟩
  · rw [List.getElem?_set_ne (fun q => hji q.symm)] at hj
    have hw := (h0.2.2 j w hj).2
    refine ⟨h.2.2 (j, w) (List.mem_cons_of_mem _ (List.mem_filter.mpr ⟨z_pr_mem.mpr hj, ?_⟩)), hw⟩
    simp [hji, hw]
def z_keep (ks : List Nat) (lv : List (Option Value)) : List (Option Value) := ks.foldl (fun l k => l.set k none) lv
theorem z_h_none {ls : Array Slot} {nL : Nat} {lv : List (Option Value)} (h : z_h ls nL lv) (k : Nat) : z_h ls nL (lv.set k none) := by
  refine ⟨h.1, h.2.1, fun i v hi => ?_⟩
  by_cases hik : i = k
  · subst hik
    have hl : i < lv.length := by
      have := (List.getElem?_eq_some_iff.mp hi).1
      rwa [List.length_set] at this
    rw [List.getElem?_set_self hl] at hi
    cases hi
  · rw [List.getElem?_set_ne (fun q => hik q.symm)] at hi
    exact h.2.2 i v hi
theorem z_h_keep {ls : Array Slot} {nL : Nat} : ∀ (ks : List Nat) {lv : List (Option Value)}, z_h ls nL lv → z_h ls nL (z_keep ks lv)
  | [], _, h => h
  | k :: ks, lv, h => z_h_keep ks (lv := lv.set k none) (z_h_none h k)
/-- the state of a walk that doesn't change -/
abbrev zG : Type := Program × Launch × Env × Room × State × MethodId × Array Value × List Frame × Method × Code × (Nat → ClassId) × va_G × va_W × Nat
def z_ty (cA : Nat → ClassId) : List (ClassId × FieldType) := [(cA 0, .int), (cA 1, .boolean), (cA 2, .object "TurnClock$Moment")]
def z_nest : List (String × Nat × MethodName × String) := [("TurnClock$Moment", 50, ⟨"TurnClock", "isCounter", "(I)Z"⟩, "TurnClock"), ("TurnClock", 11, ⟨"TurnClock$House", "<init>", "()V"⟩, "TurnClock"), ("TurnClock", 18, ⟨"TurnClock$Deeds", "<init>", "()V"⟩, "TurnClock"), ("TurnClock", 25, ⟨"TurnClock$Events", "<init>", "()V"⟩, "TurnClock"), ("TurnClock", 32, ⟨"TurnClock$Timers", "<init>", "()V"⟩, "TurnClock"), ("TurnClock", 39, ⟨"TurnClock$Daemons", "<init>", "()V"⟩, "TurnClock"), ("TurnClock", 46, ⟨"TurnClock$Moment", "<init>", "()V"⟩, "TurnClock"), ("TurnClock$Past", 17, ⟨"TurnClock$Moment", "<init>", "()V"⟩, "TurnClock")]
def z_N (U : State) : Prop := ∀ q ∈ z_nest, va_Nw (.methodLinkNest q.1 q.2.1 q.2.2.1 q.2.2.2) U
theorem z_N_warm {s U : State} (hW : s.WarmedH U.vm) (h : z_N s) : z_N U := fun q hq => (h q hq).warmM hW
def z_B (lay : Nat → zL) (n : Nat) (ad : Nat → Nat) (cA : Nat → ClassId) (D : va_G) (W0 : va_W) (lo : Nat) (σ : zS) (U : State) : Prop := va_P D vwCl (z_wd lay n ad cA σ ++ W0) U.heap ∧ va_K D vwCl (z_ty cA) U ∧ z_N U ∧ ∀ σ', va_D (fun q => lo ≤ q) (z_wd lay n ad cA σ' ++ W0)
def z_Qc (ret : Option FieldType) (lay : Nat → zL) (n : Nat) (ad : Nat → Nat) (cA : Nat → ClassId) (D : va_G) (W0 : va_W) (lo : Nat) (out : Int32 × zS) : Array Value → State → Outcome → State → Prop := match ret with
  | none => va_Qv (fun u => u = out.2) (z_B lay n ad cA D W0 lo) (fun q => lo ≤ q)
  | some _ => va_Qi (fun r u => (r, u) = out) (z_B lay n ad cA D W0 lo) (fun q => lo ≤ q)
def zX (Γ : zG) (lay : Nat → zL) (n : Nat) (ad : Nat → Nat) (cc : ByteArray) (own : String) (nL : Nat) (rm : Room) (ret : Option FieldType) : Prop := match Γ with
  | (p, l, e, R, s, m, args, below, meth, c, cA, D, W0, lo) => p.tables.exec = Jvm.exec ∧ c.code = cc ∧ c.maxLocals = nL ∧ s.vm.findClass own = some m.cls ∧ (∀ w ∈ z_TB, w.before args s = true) ∧ va_K D vwCl (z_ty cA) s ∧ z_N s ∧ (∀ σ', va_D (fun q => lo ≤ q) (z_wd lay n ad cA σ' ++ W0)) ∧ R = rm ∧ meth.sig.returnType = ret ∧ meth.locks = false
def zZ (Γ : zG) (lay : Nat → zL) (n : Nat) (ad : Nat → Nat) (nL : Nat) (ret : Option FieldType) (pc : Nat) (lv : List (Option Value)) (st : List Value) (σ : zS) (o : Option (Int32 × zS)) : Prop := match Γ with
  | (p, l, e, R, s, m, args, below, meth, c, cA, D, W0, lo) => ∀ out, o = some out → ∀ (ls : Array Slot) (H : Heap) (locs : List Loc), z_h ls nL lv → va_P D vwCl (z_wd lay n ad cA σ ++ W0) H → va_S (fun q => lo ≤ q) s.heap H locs →
    W p l e R s m args below meth c H locs 0 0 (MQ below (z_Qc ret lay n ad cA D W0 lo out) args s 0 0 (fun q => lo ≤ q)) (F0 m pc ls st)
def zK (Γ : zG) (lay : Nat → zL) (n : Nat) (ad : Nat → Nat) (nL : Nat) (ret : Option FieldType) (pc : Nat) (lv : List (Option Value)) (st : List Value) (σ : zS) {α : Type} (e : Option α) (K : α → Option (Int32 × zS)) : Prop := zZ Γ lay n ad nL ret pc lv st σ (e.bind K)
/-- a method's contract, for every place of its world, beside any other cells -/
def zM (lay : Nat → zL) (n : Nat) (y : MethodName) (cd : ByteArray) (mL : Nat) (ret : Option FieldType) (rm : Room) (av : (Nat → Nat) → List Value) (f : zS → Option (Int32 × zS)) : Prop :=
  ∀ (l : Launch) (ad : Nat → Nat) (cA : Nat → ClassId) (D : va_G) (W0 : va_W) (lo : Nat) (σ : zS) (out : Int32 × zS), f σ = some out →
    Met l y (.code y cd mL ret :: z_TB) rm (va_Pc (av ad) (z_B lay n ad cA D W0 lo σ)) (z_Qc ret lay n ad cA D W0 lo out) 0 0 (fun q => lo ≤ q)
def z_lv (vs : List Value) (mL : Nat) : List (Option Value) := vs.map some ++ List.replicate (mL - vs.length) none
end
section
theorem z_TB_in {w : Cond} (h : w ∈ z_TB) : w ∈ lw_tbl := (List.mem_filter.mp h).1
theorem z_TB_good {w : Cond} (h : w ∈ z_TB) : goodWord w = true := (List.mem_filter.mp h).2
theorem z_good {y : Cond} (h : y ∈ z_TB) : GoodIn z_TB (y :: z_TB) := fun w hw => by
  rcases List.mem_cons.mp hw with rfl | hw
  · exact ⟨h, good_of_word (z_TB_good h)⟩
  · exact ⟨hw, good_of_word (z_TB_good hw)⟩
theorem z_args_mem : ∀ (vs : List Value) (i j : Nat) (v : Value), (∀ w ∈ vs, w.category = 1) → vs[j]? = some v → (i + j, v) ∈ lv_args i vs
  | [], i, j, v, _, h => by simp at h
  | w :: vs, i, 0, v, hc, h => by
    have e : w = v := by simpa using h
    subst e
    simp [lv_args]
  | w :: vs, i, j + 1, v, hc, h => by
    have hw : w.category = 1 := hc w List.mem_cons_self
    have h2 : ¬ w.category = 2 := by omega
    rw [List.getElem?_cons_succ] at h
    have := z_args_mem vs (i + 1) j v (fun x hx => hc x (List.mem_cons_of_mem _ hx)) h
    simp only [lv_args, h2, if_false]
    exact List.mem_cons_of_mem _ (by rw [show i + (j + 1) = i + 1 + j by omega]; exact this)
theorem z_sl_len : ∀ (vs : List Value), (∀ w ∈ vs, w.category = 1) → (lg_sl vs).length = vs.length
  | [], _ => rfl
  | w :: vs, hc => by
    have hw : w.category = 1 := hc w List.mem_cons_self
    have := z_sl_len vs (fun x hx => hc x (List.mem_cons_of_mem _ hx))
    simp [lg_sl] at this ⊢
    simp [hw, this]
    omega
theorem z_h_entry {vs : List Value} {mL : Nat} (hc : ∀ w ∈ vs, w.category = 1) (hl : vs.length ≤ mL) : z_h ((lg_sl vs ++ List.replicate (mL - (lg_sl vs).length) Slot.unset).toArray) mL (z_lv vs mL) := by
  have h := lv_entry vs (n := mL) (by rw [z_sl_len vs hc]; exact hl)
  refine ⟨h.1, h.2.1, fun i v hi => ?_⟩
  have hi2 : vs[i]? = some v := by
    unfold z_lv at hi
    by_cases hlt : i < vs.length
    · rw [List.getElem?_append_left (by rw [List.length_map]; exact hlt), List.getElem?_map] at hi
      cases hv : vs[i]? with
      | none => rw [hv] at hi; cases hi
      | some w => rw [hv] at hi; exact congrArg some (Option.some.inj (Option.some.inj hi))
    · rw [List.getElem?_append_right (by rw [List.length_map]; omega), List.getElem?_replicate] at hi
      split at hi <;> cases hi
  refine ⟨?_, hc v (List.mem_of_getElem? hi2)⟩
  have := h.2.2 (0 + i, v) (z_args_mem vs 0 i v hc hi2)
  simpa using this
/-- a contract out of a walk -/
theorem zM_of {lay : Nat → zL} {n : Nat} {y : MethodName} {cd : ByteArray} {mL : Nat} {ret : Option FieldType} {rm : Room} {av : (Nat → Nat) → List Value} {f : zS → Option (Int32 × zS)} {own : String} (hy : plainName y.cls = true) (hcls : y.cls = own) (hc : ∀ ad, ∀ w ∈ av ad, w.category = 1) (hl : ∀ ad, (av ad).length ≤ mL)
    (walk : ∀ (Γ : zG) (ad : Nat → Nat), zX Γ lay n ad cd own mL rm ret → ∀ σ, zK Γ lay n ad mL ret 0 (z_lv (av ad) mL) [] σ (f σ) some) : zM lay n y cd mL ret rm av f := by
  intro l ad cA D W0 lo σ out ho
  refine Met.ofW (cc := cd) (maxL := mL) (ret := ret) hy rfl ?_
  intro p e s m args below meth c s₁ B hml hv
  obtain ⟨rfl, hP, hK, hN, hD⟩ := hv
  have hts := atoms_spec (ws := .code y cd mL ret :: z_TB) B.pre
  have hown : s.vm.findClass own = some m.cls := hcls ▸ findClass_of_methodNamed B.named
  rw [lg_entry_eq]
  exact walk (p, l, e, rm, s, m, (av ad).toArray, below, meth, c, cA, D, W0, lo) ad ⟨B.exec, B.bytes, hml, hown, fun w hw => hts w (List.mem_cons_of_mem _ hw), hK, hN, hD, rfl, B.returns, B.notSynchronized⟩ σ out (by rw [ho]; rfl) _ s.heap [] (z_h_entry (hc ad) (hl ad)) hP va_S.rf
def zg {α : Type} (c : Prop) [Decidable c] (e : Option α) : Option α := if c then e else none
section ZR
variable {Γ : zG} {lay : Nat → zL} {n : Nat} {ad : Nat → Nat} {cc : ByteArray} {own : String} {nL : Nat} {rm : Room} {ret : Option FieldType} {pc : Nat} {lv : List (Option Value)} {st : List Value} {σ : zS} {α : Type} {e : Option α} {K : α → Option (Int32 × zS)}
/-- pure steps -/
theorem z_ite {c : Prop} {d : Decidable c} {e1 e2 : Option α} (k1 : c → zK Γ lay n ad nL ret pc lv st σ e1 K) (k2 : ¬ c → zK Γ lay n ad nL ret pc lv st σ e2 K) : zK Γ lay n ad nL ret pc lv st σ (if c then e1 else e2) K := by
  by_cases h : c
  · rw [if_pos h]; exact k1 h
  · rw [if_neg h]; exact k2 h
theorem z_chk {c : Prop} {d : Decidable c} {e1 : Option α} (k1 : c → zK Γ lay n ad nL ret pc lv st σ e1 K) : zK Γ lay n ad nL ret pc lv st σ (zg c e1) K := by
  unfold zg
  by_cases h : c
  · rw [if_pos h]; exact k1 h
  · rw [if_neg h]
    obtain ⟨p, l, en, R, s, m, args, below, meth, c, cA, D, W0, lo⟩ := Γ
    intro out ho
    cases ho
theorem z_none : zK Γ lay n ad nL ret pc lv st σ (none : Option α) K := by
  obtain ⟨p, l, en, R, s, m, args, below, meth, c, cA, D, W0, lo⟩ := Γ
  intro out ho
  cases ho
theorem z_bind {β : Type} {f : Option β} {g : β → Option α} (k : ∀ b, f = some b → zK Γ lay n ad nL ret pc lv st σ (g b) K) : zK Γ lay n ad nL ret pc lv st σ (f.bind g) K := by
  cases f with
  | none => exact z_none (α := α) (K := K)
  | some b => exact k b rfl
theorem z_forget (ks : List Nat) {lv' : List (Option Value)} (h : z_keep ks lv = lv') (k : zK Γ lay n ad nL ret pc lv' st σ e K) : zK Γ lay n ad nL ret pc lv st σ e K := by
  subst h
  obtain ⟨p, l, en, R, s, m, args, below, meth, c, cA, D, W0, lo⟩ := Γ
  intro out ho ls H locs hl hP hS
  exact k out ho ls H locs (z_h_keep ks hl) hP hS
/-- constants -/
theorem z_iconst (hC : zX Γ lay n ad cc own nL rm ret) {k : Int} {v : Int32} (hd : decode cc pc = .ok (.iconst k, 1)) (hv : Int32.ofInt k = v) (kk : zK Γ lay n ad nL ret (pc + 1) lv (.int v :: st) σ e K) : zK Γ lay n ad nL ret pc lv st σ e K := by
  obtain ⟨p, l, en, R, s, m, args, below, meth, c, cA, D, W0, lo⟩ := Γ
  obtain ⟨hx, hb, hml, hown, hts, hK, hN, hD, hR, hr, hlk⟩ := hC
  intro out ho ls H locs hl hP hS
  exact lv_iconst hx hb hd hv (kk out ho ls H locs hl hP hS)
theorem z_bipush (hC : zX Γ lay n ad cc own nL rm ret) {k : Int} {v : Int32} (hd : decode cc pc = .ok (.bipush k, 2)) (hv : (Int8.ofInt k).toInt32 = v) (kk : zK Γ lay n ad nL ret (pc + 2) lv (.int v :: st) σ e K) : zK Γ lay n ad nL ret pc lv st σ e K := by
  obtain ⟨p, l, en, R, s, m, args, below, meth, c, cA, D, W0, lo⟩ := Γ
  obtain ⟨hx, hb, hml, hown, hts, hK, hN, hD, hR, hr, hlk⟩ := hC
  intro out ho ls H locs hl hP hS
  exact lv_bipush hx hb hd hv (kk out ho ls H locs hl hP hS)
theorem z_sipush (hC : zX Γ lay n ad cc own nL rm ret) {k : Int} {v : Int32} (hd : decode cc pc = .ok (.sipush k, 3)) (hv : (Int16.ofInt k).toInt32 = v) (kk : zK Γ lay n ad nL ret (pc + 3) lv (.int v :: st) σ e K) : zK Γ lay n ad nL ret pc lv st σ e K := by
  obtain ⟨p, l, en, R, s, m, args, below, meth, c, cA, D, W0, lo⟩ := Γ
  obtain ⟨hx, hb, hml, hown, hts, hK, hN, hD, hR, hr, hlk⟩ := hC
  intro out ho ls H locs hl hP hS
  exact lv_sipush hx hb hd hv (kk out ho ls H locs hl hP hS)
/-- locals -/
theorem z_iload_n (hC : zX Γ lay n ad cc own nL rm ret) {k : Fin 4} {x : Int32} (hd : decode cc pc = .ok (.iload_n k, 1)) (hv : lv[(k : Nat)]? = some (some (.int x))) (kk : zK Γ lay n ad nL ret (pc + 1) lv (.int x :: st) σ e K) : zK Γ lay n ad nL ret pc lv st σ e K := by
  obtain ⟨p, l, en, R, s, m, args, below, meth, c, cA, D, W0, lo⟩ := Γ
  obtain ⟨hx, hb, hml, hown, hts, hK, hN, hD, hR, hr, hlk⟩ := hC
  intro out ho ls H locs hl hP hS
  exact lv_iload_n hx hb hd rfl (hl.2.2 _ _ hv).1 (kk out ho ls H locs hl hP hS)
theorem z_iload (hC : zX Γ lay n ad cc own nL rm ret) {k : Nat} {x : Int32} (hd : decode cc pc = .ok (.iload k, 2)) (hv : lv[k]? = some (some (.int x))) (kk : zK Γ lay n ad nL ret (pc + 2) lv (.int x :: st) σ e K) : zK Γ lay n ad nL ret pc lv st σ e K := by
  obtain ⟨p, l, en, R, s, m, args, below, meth, c, cA, D, W0, lo⟩ := Γ
  obtain ⟨hx, hb, hml, hown, hts, hK, hN, hD, hR, hr, hlk⟩ := hC
  intro out ho ls H locs hl hP hS
  exact lv_iload hx hb hd (hl.2.2 _ _ hv).1 (kk out ho ls H locs hl hP hS)
theorem z_aload_n (hC : zX Γ lay n ad cc own nL rm ret) {k : Fin 4} {x : Nat} (hd : decode cc pc = .ok (.aload_n k, 1)) (hv : lv[(k : Nat)]? = some (some (.ref x))) (kk : zK Γ lay n ad nL ret (pc + 1) lv (.ref x :: st) σ e K) : zK Γ lay n ad nL ret pc lv st σ e K := by
  obtain ⟨p, l, en, R, s, m, args, below, meth, c, cA, D, W0, lo⟩ := Γ
  obtain ⟨hx, hb, hml, hown, hts, hK, hN, hD, hR, hr, hlk⟩ := hC
  intro out ho ls H locs hl hP hS
  exact lv_aload_n hx hb hd rfl (hl.2.2 _ _ hv).1 (kk out ho ls H locs hl hP hS)
theorem z_istore_n (hC : zX Γ lay n ad cc own nL rm ret) {k : Fin 4} {x : Int32} (hd : decode cc pc = .ok (.istore_n k, 1)) {lv' : List (Option Value)} (hk : (k : Nat) < nL) (hv : lv.set (k : Nat) (some (.int x)) = lv') (kk : zK Γ lay n ad nL ret (pc + 1) lv' st σ e K) : zK Γ lay n ad nL ret pc lv (.int x :: st) σ e K := by
  subst hv
  obtain ⟨p, l, en, R, s, m, args, below, meth, c, cA, D, W0, lo⟩ := Γ
  obtain ⟨hx, hb, hml, hown, hts, hK, hN, hD, hR, hr, hlk⟩ := hC
  intro out ho ls H locs hl hP hS
  exact lv_istore_n hx hb hd rfl (z_h_has hl) hk rfl (fun ls' h' => kk out ho ls' H locs (z_h_set hl rfl h') hP hS)
theorem z_istore (hC : zX Γ lay n ad cc own nL rm ret) {k : Nat} {x : Int32} (hd : decode cc pc = .ok (.istore k, 2)) {lv' : List (Option Value)} (hk : k < nL) (hv : lv.set k (some (.int x)) = lv') (kk : zK Γ lay n ad nL ret (pc + 2) lv' st σ e K) : zK Γ lay n ad nL ret pc lv (.int x :: st) σ e K := by
  subst hv
  obtain ⟨p, l, en, R, s, m, args, below, meth, c, cA, D, W0, lo⟩ := Γ
  obtain ⟨hx, hb, hml, hown, hts, hK, hN, hD, hR, hr, hlk⟩ := hC
  intro out ho ls H locs hl hP hS
  exact lv_istore hx hb hd (z_h_has hl) hk rfl (fun ls' h' => kk out ho ls' H locs (z_h_set hl rfl h') hP hS)
theorem z_astore_n (hC : zX Γ lay n ad cc own nL rm ret) {k : Fin 4} {x : Nat} (hd : decode cc pc = .ok (.astore_n k, 1)) {lv' : List (Option Value)} (hk : (k : Nat) < nL) (hv : lv.set (k : Nat) (some (.ref x)) = lv') (kk : zK Γ lay n ad nL ret (pc + 1) lv' st σ e K) : zK Γ lay n ad nL ret pc lv (.ref x :: st) σ e K := by
  subst hv
  obtain ⟨p, l, en, R, s, m, args, below, meth, c, cA, D, W0, lo⟩ := Γ
  obtain ⟨hx, hb, hml, hown, hts, hK, hN, hD, hR, hr, hlk⟩ := hC
  intro out ho ls H locs hl hP hS
  exact lv_astore_n hx hb hd rfl (z_h_has hl) hk rfl (fun ls' h' => kk out ho ls' H locs (z_h_set hl rfl h') hP hS)
theorem z_iinc (hC : zX Γ lay n ad cc own nL rm ret) {k : Nat} {d : Int} {x v : Int32} (hd : decode cc pc = .ok (.iinc k d, 3)) {lv' : List (Option Value)} (hg : lv[k]? = some (some (.int x))) (hk : k < nL) (hx : Int32.ofInt d = v) (hv : lv.set k (some (.int (x + v))) = lv') (kk : zK Γ lay n ad nL ret (pc + 3) lv' st σ e K) : zK Γ lay n ad nL ret pc lv st σ e K := by
  subst hv
  subst hx
  obtain ⟨p, l, en, R, s, m, args, below, meth, c, cA, D, W0, lo⟩ := Γ
  obtain ⟨hx, hb, hml, hown, hts, hK, hN, hD, hR, hr, hlk⟩ := hC
  intro out ho ls H locs hl hP hS
  obtain ⟨j, hj⟩ := List.getElem?_of_mem (z_pr_mem.mpr hg)
  exact lv_iinc hx hb hd (z_h_has hl) hj rfl hk rfl (fun ls' h' => kk out ho ls' H locs (z_h_set hl rfl h') hP hS)
/-- arithmetic, stack -/
theorem z_iadd (hC : zX Γ lay n ad cc own nL rm ret) {x y : Int32} (hd : decode cc pc = .ok (.iadd, 1)) (kk : zK Γ lay n ad nL ret (pc + 1) lv (.int (x + y) :: st) σ e K) : zK Γ lay n ad nL ret pc lv (.int y :: .int x :: st) σ e K := by
  obtain ⟨p, l, en, R, s, m, args, below, meth, c, cA, D, W0, lo⟩ := Γ
  obtain ⟨hx, hb, hml, hown, hts, hK, hN, hD, hR, hr, hlk⟩ := hC
  intro out ho ls H locs hl hP hS
  exact lv_iadd hx hb hd (kk out ho ls H locs hl hP hS)
theorem z_isub (hC : zX Γ lay n ad cc own nL rm ret) {x y : Int32} (hd : decode cc pc = .ok (.isub, 1)) (kk : zK Γ lay n ad nL ret (pc + 1) lv (.int (x - y) :: st) σ e K) : zK Γ lay n ad nL ret pc lv (.int y :: .int x :: st) σ e K := by
  obtain ⟨p, l, en, R, s, m, args, below, meth, c, cA, D, W0, lo⟩ := Γ
  obtain ⟨hx, hb, hml, hown, hts, hK, hN, hD, hR, hr, hlk⟩ := hC
  intro out ho ls H locs hl hP hS
  exact lv_isub hx hb hd (kk out ho ls H locs hl hP hS)
theorem z_imul (hC : zX Γ lay n ad cc own nL rm ret) {x y : Int32} (hd : decode cc pc = .ok (.imul, 1)) (kk : zK Γ lay n ad nL ret (pc + 1) lv (.int (x * y) :: st) σ e K) : zK Γ lay n ad nL ret pc lv (.int y :: .int x :: st) σ e K := by
  obtain ⟨p, l, en, R, s, m, args, below, meth, c, cA, D, W0, lo⟩ := Γ
  obtain ⟨hx, hb, hml, hown, hts, hK, hN, hD, hR, hr, hlk⟩ := hC
  intro out ho ls H locs hl hP hS
  exact lv_imul hx hb hd (kk out ho ls H locs hl hP hS)
theorem z_idiv (hC : zX Γ lay n ad cc own nL rm ret) {x y : Int32} (hd : decode cc pc = .ok (.idiv, 1)) (hne : ¬ y = 0) (kk : zK Γ lay n ad nL ret (pc + 1) lv (.int (x / y) :: st) σ e K) : zK Γ lay n ad nL ret pc lv (.int y :: .int x :: st) σ e K := by
  obtain ⟨p, l, en, R, s, m, args, below, meth, c, cA, D, W0, lo⟩ := Γ
  obtain ⟨hx, hb, hml, hown, hts, hK, hN, hD, hR, hr, hlk⟩ := hC
  intro out ho ls H locs hl hP hS
  exact lv_idiv hx hb hd hne (kk out ho ls H locs hl hP hS)
theorem z_irem (hC : zX Γ lay n ad cc own nL rm ret) {x y : Int32} (hd : decode cc pc = .ok (.irem, 1)) (hne : ¬ y = 0) (kk : zK Γ lay n ad nL ret (pc + 1) lv (.int (x - x / y * y) :: st) σ e K) : zK Γ lay n ad nL ret pc lv (.int y :: .int x :: st) σ e K := by
  obtain ⟨p, l, en, R, s, m, args, below, meth, c, cA, D, W0, lo⟩ := Γ
  obtain ⟨hx, hb, hml, hown, hts, hK, hN, hD, hR, hr, hlk⟩ := hC
  intro out ho ls H locs hl hP hS
  exact lv_irem hx hb hd hne (kk out ho ls H locs hl hP hS)
theorem z_dup (hC : zX Γ lay n ad cc own nL rm ret) {v : Value} (hd : decode cc pc = .ok (.dup, 1)) (hv : v.category = 1) (kk : zK Γ lay n ad nL ret (pc + 1) lv (v :: v :: st) σ e K) : zK Γ lay n ad nL ret pc lv (v :: st) σ e K := by
  obtain ⟨p, l, en, R, s, m, args, below, meth, c, cA, D, W0, lo⟩ := Γ
  obtain ⟨hx, hb, hml, hown, hts, hK, hN, hD, hR, hr, hlk⟩ := hC
  intro out ho ls H locs hl hP hS
  exact lv_dup hx hb hd hv (kk out ho ls H locs hl hP hS)
theorem z_dup2 (hC : zX Γ lay n ad cc own nL rm ret) {v w : Value} (hd : decode cc pc = .ok (.dup2, 1)) (hv : v.category = 1) (hw : w.category = 1) (kk : zK Γ lay n ad nL ret (pc + 1) lv (v :: w :: v :: w :: st) σ e K) : zK Γ lay n ad nL ret pc lv (v :: w :: st) σ e K := by
  obtain ⟨p, l, en, R, s, m, args, below, meth, c, cA, D, W0, lo⟩ := Γ
  obtain ⟨hx, hb, hml, hown, hts, hK, hN, hD, hR, hr, hlk⟩ := hC
  intro out ho ls H locs hl hP hS
  exact lv_dup2_11 hx hb hd hv hw (kk out ho ls H locs hl hP hS)
theorem z_pop (hC : zX Γ lay n ad cc own nL rm ret) {v : Value} (hd : decode cc pc = .ok (.pop, 1)) (hv : v.category = 1) (kk : zK Γ lay n ad nL ret (pc + 1) lv st σ e K) : zK Γ lay n ad nL ret pc lv (v :: st) σ e K := by
  obtain ⟨p, l, en, R, s, m, args, below, meth, c, cA, D, W0, lo⟩ := Γ
  obtain ⟨hx, hb, hml, hown, hts, hK, hN, hD, hR, hr, hlk⟩ := hC
  intro out ho ls H locs hl hP hS
  exact lv_pop hx hb hd hv (kk out ho ls H locs hl hP hS)
theorem z_goto (hC : zX Γ lay n ad cc own nL rm ret) {off : Int} (tgt : Nat) (hd : decode cc pc = .ok (.goto off, 3)) (ht : (pc : Int) + off = (tgt : Int)) (kk : zK Γ lay n ad nL ret tgt lv st σ e K) : zK Γ lay n ad nL ret pc lv st σ e K := by
  obtain ⟨p, l, en, R, s, m, args, below, meth, c, cA, D, W0, lo⟩ := Γ
  obtain ⟨hx, hb, hml, hown, hts, hK, hN, hD, hR, hr, hlk⟩ := hC
  intro out ho ls H locs hl hP hS
  exact lv_goto hx hb hd ht (kk out ho ls H locs hl hP hS)
theorem z_if_eq (hC : zX Γ lay n ad cc own nL rm ret) {x : Int32} {off : Int} (tgt : Nat) (hd : decode cc pc = .ok (.ifCond .eq off, 3)) (ht : (pc : Int) + off = (tgt : Int)) {d : Decidable (x = 0)} {e1 e2 : Option α} (k1 : x = 0 → zK Γ lay n ad nL ret tgt lv st σ e1 K) (k2 : ¬ x = 0 → zK Γ lay n ad nL ret (pc + 3) lv st σ e2 K) : zK Γ lay n ad nL ret pc lv (.int x :: st) σ (if x = 0 then e1 else e2) K := by
  obtain ⟨p, l, en, R, s, m, args, below, meth, c, cA, D, W0, lo⟩ := Γ
  obtain ⟨hx, hb, hml, hown, hts, hK, hN, hD, hR, hr, hlk⟩ := hC
  intro out ho ls H locs hl hP hS
  exact lv_if_eq hx hb hd ht (fun h => k1 h out (by rw [if_pos h] at ho; exact ho) ls H locs hl hP hS) (fun h => k2 h out (by rw [if_neg h] at ho; exact ho) ls H locs hl hP hS)
theorem z_if_ne (hC : zX Γ lay n ad cc own nL rm ret) {x : Int32} {off : Int} (tgt : Nat) (hd : decode cc pc = .ok (.ifCond .ne off, 3)) (ht : (pc : Int) + off = (tgt : Int)) {d : Decidable (x = 0)} {e1 e2 : Option α} (k1 : ¬ x = 0 → zK Γ lay n ad nL ret tgt lv st σ e1 K) (k2 : x = 0 → zK Γ lay n ad nL ret (pc + 3) lv st σ e2 K) : zK Γ lay n ad nL ret pc lv (.int x :: st) σ (if x = 0 then e2 else e1) K := by
  obtain ⟨p, l, en, R, s, m, args, below, meth, c, cA, D, W0, lo⟩ := Γ
  obtain ⟨hx, hb, hml, hown, hts, hK, hN, hD, hR, hr, hlk⟩ := hC
  intro out ho ls H locs hl hP hS
  exact lv_if_ne hx hb hd ht (fun h => k1 h out (by rw [if_neg h] at ho; exact ho) ls H locs hl hP hS) (fun h => k2 h out (by rw [if_pos h] at ho; exact ho) ls H locs hl hP hS)
theorem z_if_lt (hC : zX Γ lay n ad cc own nL rm ret) {x : Int32} {off : Int} (tgt : Nat) (hd : decode cc pc = .ok (.ifCond .lt off, 3)) (ht : (pc : Int) + off = (tgt : Int)) {d : Decidable (x < 0)} {e1 e2 : Option α} (k1 : x < 0 → zK Γ lay n ad nL ret tgt lv st σ e1 K) (k2 : ¬ x < 0 → zK Γ lay n ad nL ret (pc + 3) lv st σ e2 K) : zK Γ lay n ad nL ret pc lv (.int x :: st) σ (if x < 0 then e1 else e2) K := by
  obtain ⟨p, l, en, R, s, m, args, below, meth, c, cA, D, W0, lo⟩ := Γ
  obtain ⟨hx, hb, hml, hown, hts, hK, hN, hD, hR, hr, hlk⟩ := hC
  intro out ho ls H locs hl hP hS
  exact lv_if_lt hx hb hd ht (fun h => k1 h out (by rw [if_pos h] at ho; exact ho) ls H locs hl hP hS) (fun h => k2 h out (by rw [if_neg h] at ho; exact ho) ls H locs hl hP hS)
theorem z_if_ge (hC : zX Γ lay n ad cc own nL rm ret) {x : Int32} {off : Int} (tgt : Nat) (hd : decode cc pc = .ok (.ifCond .ge off, 3)) (ht : (pc : Int) + off = (tgt : Int)) {d : Decidable (0 ≤ x)} {e1 e2 : Option α} (k1 : 0 ≤ x → zK Γ lay n ad nL ret tgt lv st σ e1 K) (k2 : ¬ 0 ≤ x → zK Γ lay n ad nL ret (pc + 3) lv st σ e2 K) : zK Γ lay n ad nL ret pc lv (.int x :: st) σ (if 0 ≤ x then e1 else e2) K := by
  obtain ⟨p, l, en, R, s, m, args, below, meth, c, cA, D, W0, lo⟩ := Γ
  obtain ⟨hx, hb, hml, hown, hts, hK, hN, hD, hR, hr, hlk⟩ := hC
  intro out ho ls H locs hl hP hS
  exact lv_if_ge hx hb hd ht (fun h => k1 h out (by rw [if_pos h] at ho; exact ho) ls H locs hl hP hS) (fun h => k2 h out (by rw [if_neg h] at ho; exact ho) ls H locs hl hP hS)
theorem z_if_gt (hC : zX Γ lay n ad cc own nL rm ret) {x : Int32} {off : Int} (tgt : Nat) (hd : decode cc pc = .ok (.ifCond .gt off, 3)) (ht : (pc : Int) + off = (tgt : Int)) {d : Decidable (0 < x)} {e1 e2 : Option α} (k1 : 0 < x → zK Γ lay n ad nL ret tgt lv st σ e1 K) (k2 : ¬ 0 < x → zK Γ lay n ad nL ret (pc + 3) lv st σ e2 K) : zK Γ lay n ad nL ret pc lv (.int x :: st) σ (if 0 < x then e1 else e2) K := by
  obtain ⟨p, l, en, R, s, m, args, below, meth, c, cA, D, W0, lo⟩ := Γ
  obtain ⟨hx, hb, hml, hown, hts, hK, hN, hD, hR, hr, hlk⟩ := hC
  intro out ho ls H locs hl hP hS
  exact lv_if_gt hx hb hd ht (fun h => k1 h out (by rw [if_pos h] at ho; exact ho) ls H locs hl hP hS) (fun h => k2 h out (by rw [if_neg h] at ho; exact ho) ls H locs hl hP hS)
theorem z_if_le (hC : zX Γ lay n ad cc own nL rm ret) {x : Int32} {off : Int} (tgt : Nat) (hd : decode cc pc = .ok (.ifCond .le off, 3)) (ht : (pc : Int) + off = (tgt : Int)) {d : Decidable (x ≤ 0)} {e1 e2 : Option α} (k1 : x ≤ 0 → zK Γ lay n ad nL ret tgt lv st σ e1 K) (k2 : ¬ x ≤ 0 → zK Γ lay n ad nL ret (pc + 3) lv st σ e2 K) : zK Γ lay n ad nL ret pc lv (.int x :: st) σ (if x ≤ 0 then e1 else e2) K := by
  obtain ⟨p, l, en, R, s, m, args, below, meth, c, cA, D, W0, lo⟩ := Γ
  obtain ⟨hx, hb, hml, hown, hts, hK, hN, hD, hR, hr, hlk⟩ := hC
  intro out ho ls H locs hl hP hS
  exact lv_if_le hx hb hd ht (fun h => k1 h out (by rw [if_pos h] at ho; exact ho) ls H locs hl hP hS) (fun h => k2 h out (by rw [if_neg h] at ho; exact ho) ls H locs hl hP hS)
theorem z_icmp_eq (hC : zX Γ lay n ad cc own nL rm ret) {x y : Int32} {off : Int} (tgt : Nat) (hd : decode cc pc = .ok (.if_icmp .eq off, 3)) (ht : (pc : Int) + off = (tgt : Int)) {d : Decidable (x = y)} {e1 e2 : Option α} (k1 : x = y → zK Γ lay n ad nL ret tgt lv st σ e1 K) (k2 : ¬ x = y → zK Γ lay n ad nL ret (pc + 3) lv st σ e2 K) : zK Γ lay n ad nL ret pc lv (.int y :: .int x :: st) σ (if x = y then e1 else e2) K := by
  obtain ⟨p, l, en, R, s, m, args, below, meth, c, cA, D, W0, lo⟩ := Γ
  obtain ⟨hx, hb, hml, hown, hts, hK, hN, hD, hR, hr, hlk⟩ := hC
  intro out ho ls H locs hl hP hS
  exact lv_icmp_eq hx hb hd ht (fun h => k1 h out (by rw [if_pos h] at ho; exact ho) ls H locs hl hP hS) (fun h => k2 h out (by rw [if_neg h] at ho; exact ho) ls H locs hl hP hS)
theorem z_icmp_ne (hC : zX Γ lay n ad cc own nL rm ret) {x y : Int32} {off : Int} (tgt : Nat) (hd : decode cc pc = .ok (.if_icmp .ne off, 3)) (ht : (pc : Int) + off = (tgt : Int)) {d : Decidable (x = y)} {e1 e2 : Option α} (k1 : ¬ x = y → zK Γ lay n ad nL ret tgt lv st σ e1 K) (k2 : x = y → zK Γ lay n ad nL ret (pc + 3) lv st σ e2 K) : zK Γ lay n ad nL ret pc lv (.int y :: .int x :: st) σ (if x = y then e2 else e1) K := by
  obtain ⟨p, l, en, R, s, m, args, below, meth, c, cA, D, W0, lo⟩ := Γ
  obtain ⟨hx, hb, hml, hown, hts, hK, hN, hD, hR, hr, hlk⟩ := hC
  intro out ho ls H locs hl hP hS
  exact lv_icmp_ne hx hb hd ht (fun h => k1 h out (by rw [if_neg h] at ho; exact ho) ls H locs hl hP hS) (fun h => k2 h out (by rw [if_pos h] at ho; exact ho) ls H locs hl hP hS)
theorem z_icmp_lt (hC : zX Γ lay n ad cc own nL rm ret) {x y : Int32} {off : Int} (tgt : Nat) (hd : decode cc pc = .ok (.if_icmp .lt off, 3)) (ht : (pc : Int) + off = (tgt : Int)) {d : Decidable (x < y)} {e1 e2 : Option α} (k1 : x < y → zK Γ lay n ad nL ret tgt lv st σ e1 K) (k2 : ¬ x < y → zK Γ lay n ad nL ret (pc + 3) lv st σ e2 K) : zK Γ lay n ad nL ret pc lv (.int y :: .int x :: st) σ (if x < y then e1 else e2) K := by
  obtain ⟨p, l, en, R, s, m, args, below, meth, c, cA, D, W0, lo⟩ := Γ
  obtain ⟨hx, hb, hml, hown, hts, hK, hN, hD, hR, hr, hlk⟩ := hC
  intro out ho ls H locs hl hP hS
  exact lv_icmp_lt hx hb hd ht (fun h => k1 h out (by rw [if_pos h] at ho; exact ho) ls H locs hl hP hS) (fun h => k2 h out (by rw [if_neg h] at ho; exact ho) ls H locs hl hP hS)
theorem z_icmp_ge (hC : zX Γ lay n ad cc own nL rm ret) {x y : Int32} {off : Int} (tgt : Nat) (hd : decode cc pc = .ok (.if_icmp .ge off, 3)) (ht : (pc : Int) + off = (tgt : Int)) {d : Decidable (y ≤ x)} {e1 e2 : Option α} (k1 : y ≤ x → zK Γ lay n ad nL ret tgt lv st σ e1 K) (k2 : ¬ y ≤ x → zK Γ lay n ad nL ret (pc + 3) lv st σ e2 K) : zK Γ lay n ad nL ret pc lv (.int y :: .int x :: st) σ (if y ≤ x then e1 else e2) K := by
  obtain ⟨p, l, en, R, s, m, args, below, meth, c, cA, D, W0, lo⟩ := Γ
  obtain ⟨hx, hb, hml, hown, hts, hK, hN, hD, hR, hr, hlk⟩ := hC
  intro out ho ls H locs hl hP hS
  exact lv_icmp_ge hx hb hd ht (fun h => k1 h out (by rw [if_pos h] at ho; exact ho) ls H locs hl hP hS) (fun h => k2 h out (by rw [if_neg h] at ho; exact ho) ls H locs hl hP hS)
theorem z_icmp_gt (hC : zX Γ lay n ad cc own nL rm ret) {x y : Int32} {off : Int} (tgt : Nat) (hd : decode cc pc = .ok (.if_icmp .gt off, 3)) (ht : (pc : Int) + off = (tgt : Int)) {d : Decidable (y < x)} {e1 e2 : Option α} (k1 : y < x → zK Γ lay n ad nL ret tgt lv st σ e1 K) (k2 : ¬ y < x → zK Γ lay n ad nL ret (pc + 3) lv st σ e2 K) : zK Γ lay n ad nL ret pc lv (.int y :: .int x :: st) σ (if y < x then e1 else e2) K := by
  obtain ⟨p, l, en, R, s, m, args, below, meth, c, cA, D, W0, lo⟩ := Γ
  obtain ⟨hx, hb, hml, hown, hts, hK, hN, hD, hR, hr, hlk⟩ := hC
  intro out ho ls H locs hl hP hS
  exact lv_icmp_gt hx hb hd ht (fun h => k1 h out (by rw [if_pos h] at ho; exact ho) ls H locs hl hP hS) (fun h => k2 h out (by rw [if_neg h] at ho; exact ho) ls H locs hl hP hS)
theorem z_icmp_le (hC : zX Γ lay n ad cc own nL rm ret) {x y : Int32} {off : Int} (tgt : Nat) (hd : decode cc pc = .ok (.if_icmp .le off, 3)) (ht : (pc : Int) + off = (tgt : Int)) {d : Decidable (x ≤ y)} {e1 e2 : Option α} (k1 : x ≤ y → zK Γ lay n ad nL ret tgt lv st σ e1 K) (k2 : ¬ x ≤ y → zK Γ lay n ad nL ret (pc + 3) lv st σ e2 K) : zK Γ lay n ad nL ret pc lv (.int y :: .int x :: st) σ (if x ≤ y then e1 else e2) K := by
  obtain ⟨p, l, en, R, s, m, args, below, meth, c, cA, D, W0, lo⟩ := Γ
  obtain ⟨hx, hb, hml, hown, hts, hK, hN, hD, hR, hr, hlk⟩ := hC
  intro out ho ls H locs hl hP hS
  exact lv_icmp_le hx hb hd ht (fun h => k1 h out (by rw [if_pos h] at ho; exact ho) ls H locs hl hP hS) (fun h => k2 h out (by rw [if_neg h] at ho; exact ho) ls H locs hl hP hS)
end ZR
end
section
abbrev z_in (i : Int32) (len : Nat) : Prop := i.toNatClampNeg < len ∧ ¬ i < 0
theorem z_in_vp {i : Int32} {len : Nat} (h : z_in i len) : vp_in i len := fun q => q.elim (fun a => h.2 a) (fun a => absurd h.1 (by omega))
def zF (own : String) (idx ci k : Nat) (C : String) (T : u_T) (N : Nat) : Prop := Cond.fieldLink own idx (T k).1 (T k).2.1 (T k).2.2.1 ∈ z_TB ∧ vwCl[ci]? = some (C, T, N) ∧ k < N ∧ ∀ w ∈ u_ws C T N, w ∈ z_TB
def zP (own : String) (idx ci k : Nat) (C : String) (T : u_T) (N : Nat) (ty : FieldType) : Prop := zF own idx ci k C T N ∧ (∃ ty0 : Nat → FieldType, ∀ k, k < N → parseFieldDescriptor (T k).2.2.1 = some (ty0 k)) ∧ (∀ a, a < N → ∀ b, b < N → a ≠ b → (T a).2.1 ≠ (T b).2.1) ∧ (T k).2.2.2 = false ∧ parseFieldDescriptor (T k).2.2.1 = some ty
theorem z_N_vm {u U : State} (h : u.vm = U.vm) (hN : z_N u) : z_N U := fun q hq => va_Nw.same rfl h (hN q hq)
theorem z_nb {x : Int32} (h : x = 0 ∨ x = 1) : narrow .boolean (.int x) = .int x := by rcases h with rfl | rfl <;> rfl
theorem z_fb {x : Int32} (h : x = 0 ∨ x = 1) : fits .boolean (.int x) = true := by rcases h with rfl | rfl <;> decide
section ZH
variable {Γ : zG} {lay : Nat → zL} {n : Nat} {ad : Nat → Nat} {cc : ByteArray} {own : String} {nL : Nat} {rm : Room} {ret : Option FieldType} {pc : Nat} {lv : List (Option Value)} {st : List Value} {σ : zS} {α : Type} {e : Option α} {K : α → Option (Int32 × zS)}
theorem z_obj {cA : Nat → ClassId} {W0 : va_W} {b ci : Nat} {fl : List (Option Nat)} (hb : b < n) (hl : lay b = .inr (ci, fl)) : (z_wd lay n ad cA σ ++ W0)[b]? = some (ad b, .inr (ci, z_fs ad (σ b) 0 fl)) := by rw [z_wd_get hb, hl]; rfl
theorem z_arI {cA : Nat → ClassId} {W0 : va_W} {b k : Nat} (hb : b < n) (hl : lay b = .inl (0, k)) : (z_wd lay n ad cA σ ++ W0)[b]? = some (ad b, .inl (cA 0, k, .inl (σ b))) := by rw [z_wd_get hb, hl]; rfl
theorem z_arZ {cA : Nat → ClassId} {W0 : va_W} {b k : Nat} (hb : b < n) (hl : lay b = .inl (1, k)) : (z_wd lay n ad cA σ ++ W0)[b]? = some (ad b, .inl (cA 1, k, .inl (σ b))) := by rw [z_wd_get hb, hl]; rfl
theorem z_arM {cA : Nat → ClassId} {W0 : va_W} {b k : Nat} (hb : b < n) (hl : lay b = .inl (2, k)) : (z_wd lay n ad cA σ ++ W0)[b]? = some (ad b, .inl (cA 2, k, .inr (.inr (.inr (.inr (fun j => some (ad (z_mo (σ b j).toNatClampNeg)))))))) := by rw [z_wd_get hb, hl]; rfl
theorem z_geti (hC : zX Γ lay n ad cc own nL rm ret) {idx ci k N b : Nat} {C : String} {T : u_T} {fl : List (Option Nat)} (hf : zF own idx ci k C T N) (hd : decode cc pc = .ok (.getfield idx, 3)) (hbn : b < n) (hl : lay b = .inr (ci, fl)) (hv : fl[k]? = some none) (kk : zK Γ lay n ad nL ret (pc + 3) lv (.int (σ b k) :: st) σ e K) : zK Γ lay n ad nL ret pc lv (.ref (ad b) :: st) σ e K := by
  obtain ⟨p, l, en, R, s, m, args, below, meth, c, cA, D, W0, lo⟩ := Γ
  obtain ⟨hx, hb, hml, hown, hts, hK, hN, hD, hR, hr, hlk⟩ := hC
  intro out ho ls H locs hl1 hP hS
  exact va_get (D := D) hx hb hts hf.2.2.2 hown hK hP b (z_obj hbn hl) hf.2.1 k hf.2.2.1 (hts _ hf.1) (fun _ h => h) (v := .int (σ b k)) (by rw [z_fs_get, hv]; simp) hd (kk out ho ls H locs hl1 hP hS)
theorem z_getr (hC : zX Γ lay n ad cc own nL rm ret) {idx ci k N b r : Nat} {C : String} {T : u_T} {fl : List (Option Nat)} (hf : zF own idx ci k C T N) (hd : decode cc pc = .ok (.getfield idx, 3)) (hbn : b < n) (hl : lay b = .inr (ci, fl)) (hv : fl[k]? = some (some r)) (kk : zK Γ lay n ad nL ret (pc + 3) lv (.ref (ad r) :: st) σ e K) : zK Γ lay n ad nL ret pc lv (.ref (ad b) :: st) σ e K := by
  obtain ⟨p, l, en, R, s, m, args, below, meth, c, cA, D, W0, lo⟩ := Γ
  obtain ⟨hx, hb, hml, hown, hts, hK, hN, hD, hR, hr, hlk⟩ := hC
  intro out ho ls H locs hl1 hP hS
  exact va_get (D := D) hx hb hts hf.2.2.2 hown hK hP b (z_obj hbn hl) hf.2.1 k hf.2.2.1 (hts _ hf.1) (fun _ h => h) (v := .ref (ad r)) (by rw [z_fs_get, hv]; rfl) hd (kk out ho ls H locs hl1 hP hS)
theorem z_putx (hC : zX Γ lay n ad cc own nL rm ret) {idx ci k N b : Nat} {C : String} {T : u_T} {ty : FieldType} {fl : List (Option Nat)} {x : Int32} (hf : zP own idx ci k C T N ty) (hnar : narrow ty (.int x) = .int x) (hfit : fits ty (.int x) = true) (hd : decode cc pc = .ok (.putfield idx, 3)) (hbn : b < n) (hl : lay b = .inr (ci, fl)) (hv : fl[k]? = some none) (kk : zK Γ lay n ad nL ret (pc + 3) lv st (zs σ b k x) e K) : zK Γ lay n ad nL ret pc lv (.int x :: .ref (ad b) :: st) σ e K := by
  obtain ⟨p, l, en, R, s, m, args, below, meth, c, cA, D, W0, lo⟩ := Γ
  obtain ⟨hx, hb, hml, hown, hts, hK, hN, hD, hR, hr, hlk⟩ := hC
  obtain ⟨hF, ⟨ty0, hty⟩, hnm, hfin, hpd⟩ := hf
  intro out ho ls H locs hl1 hP hS
  have hlen : k < fl.length := (List.getElem?_eq_some_iff.mp hv).1
  refine va_put (D := D) hx hb hts hF.2.2.2 ty0 hty hnm hown hK hP (hD σ) hS b (z_obj hbn hl) hF.2.1 k hF.2.2.1 (hts _ hF.1) (fun _ h => h) hfin hpd hnar hfit (by rw [z_fs_len]; exact hlen) hd (fun H1 locs1 hP1 hD1 hS1 => kk out ho ls H1 locs1 hl1 ?_ hS1)
  rw [z_fs_set ad (σ b) fl k x hv] at hP1
  have h2 : (Sum.inr (ci, z_fs ad (upd (σ b) k x) 0 fl) : va_E) = z_en ad cA (lay b) (upd (σ b) k x) := by rw [hl]; rfl
  rw [h2, z_wd_set hbn] at hP1
  exact hP1
theorem z_puti (hC : zX Γ lay n ad cc own nL rm ret) {idx ci k N b : Nat} {C : String} {T : u_T} {fl : List (Option Nat)} {x : Int32} (hf : zP own idx ci k C T N .int) (hd : decode cc pc = .ok (.putfield idx, 3)) (hbn : b < n) (hl : lay b = .inr (ci, fl)) (hv : fl[k]? = some none) (kk : zK Γ lay n ad nL ret (pc + 3) lv st (zs σ b k x) e K) : zK Γ lay n ad nL ret pc lv (.int x :: .ref (ad b) :: st) σ e K := z_putx hC hf rfl rfl hd hbn hl hv kk
theorem z_putz (hC : zX Γ lay n ad cc own nL rm ret) {idx ci k N b : Nat} {C : String} {T : u_T} {fl : List (Option Nat)} {x : Int32} (hf : zP own idx ci k C T N .boolean) (hb01 : x = 0 ∨ x = 1) (hd : decode cc pc = .ok (.putfield idx, 3)) (hbn : b < n) (hl : lay b = .inr (ci, fl)) (hv : fl[k]? = some none) (kk : zK Γ lay n ad nL ret (pc + 3) lv st (zs σ b k x) e K) : zK Γ lay n ad nL ret pc lv (.int x :: .ref (ad b) :: st) σ e K := z_putx hC hf (z_nb hb01) (z_fb hb01) hd hbn hl hv kk
theorem z_iald (hC : zX Γ lay n ad cc own nL rm ret) {b k : Nat} {i : Int32} (hd : decode cc pc = .ok (.iaload, 1)) (hbn : b < n) (hl : lay b = .inl (0, k)) {d : Decidable (z_in i k)} (kk : z_in i k → zK Γ lay n ad nL ret (pc + 1) lv (.int (σ b i.toNatClampNeg) :: st) σ e K) : zK Γ lay n ad nL ret pc lv (.int i :: .ref (ad b) :: st) σ (zg (z_in i k) e) K := by
  refine z_chk (fun hi => ?_)
  have kk := kk hi
  obtain ⟨p, l, en, R, s, m, args, below, meth, c, cA, D, W0, lo⟩ := Γ
  obtain ⟨hx, hb, hml, hown, hts, hK, hN, hD, hR, hr, hlk⟩ := hC
  intro out ho ls H locs hl1 hP hS
  exact va_iald hx hb hK hP b 0 (z_arI hbn hl) rfl (z_in_vp hi) hd (kk out ho ls H locs hl1 hP hS)
theorem z_zald (hC : zX Γ lay n ad cc own nL rm ret) {b k : Nat} {i : Int32} (hd : decode cc pc = .ok (.baload, 1)) (hbn : b < n) (hl : lay b = .inl (1, k)) {d : Decidable (z_in i k)} (kk : z_in i k → zK Γ lay n ad nL ret (pc + 1) lv (.int (σ b i.toNatClampNeg) :: st) σ e K) : zK Γ lay n ad nL ret pc lv (.int i :: .ref (ad b) :: st) σ (zg (z_in i k) e) K := by
  refine z_chk (fun hi => ?_)
  have kk := kk hi
  obtain ⟨p, l, en, R, s, m, args, below, meth, c, cA, D, W0, lo⟩ := Γ
  obtain ⟨hx, hb, hml, hown, hts, hK, hN, hD, hR, hr, hlk⟩ := hC
  intro out ho ls H locs hl1 hP hS
  exact va_zald hx hb hK hP b 1 (z_arZ hbn hl) rfl (z_in_vp hi) hd (kk out ho ls H locs hl1 hP hS)
theorem z_aald (hC : zX Γ lay n ad cc own nL rm ret) {b k : Nat} {i : Int32} (hd : decode cc pc = .ok (.aaload, 1)) (hbn : b < n) (hl : lay b = .inl (2, k)) {d : Decidable (z_in i k)} (kk : z_in i k → zK Γ lay n ad nL ret (pc + 1) lv (.ref (ad (z_mo (σ b i.toNatClampNeg).toNatClampNeg)) :: st) σ e K) : zK Γ lay n ad nL ret pc lv (.int i :: .ref (ad b) :: st) σ (zg (z_in i k) e) K := by
  refine z_chk (fun hi => ?_)
  have kk := kk hi
  obtain ⟨p, l, en, R, s, m, args, below, meth, c, cA, D, W0, lo⟩ := Γ
  obtain ⟨hx, hb, hml, hown, hts, hK, hN, hD, hR, hr, hlk⟩ := hC
  intro out ho ls H locs hl1 hP hS
  exact va_aldq hx hb hK hP b 2 (z_arM hbn hl) rfl (z_in_vp hi) hd (kk out ho ls H locs hl1 hP hS)
theorem z_iast (hC : zX Γ lay n ad cc own nL rm ret) {b k : Nat} {i x : Int32} (hd : decode cc pc = .ok (.iastore, 1)) (hbn : b < n) (hl : lay b = .inl (0, k)) {d : Decidable (z_in i k)} (kk : z_in i k → zK Γ lay n ad nL ret (pc + 1) lv st (zs σ b i.toNatClampNeg x) e K) : zK Γ lay n ad nL ret pc lv (.int x :: .int i :: .ref (ad b) :: st) σ (zg (z_in i k) e) K := by
  refine z_chk (fun hi => ?_)
  have kk := kk hi
  obtain ⟨p, l, en, R, s, m, args, below, meth, c, cA, D, W0, lo⟩ := Γ
  obtain ⟨hx, hb, hml, hown, hts, hK, hN, hD, hR, hr, hlk⟩ := hC
  intro out ho ls H locs hl1 hP hS
  refine va_iast hx hb hK hP (hD σ) hS b 0 (z_arI hbn hl) rfl (z_in_vp hi) hd (fun H1 locs1 hP1 hD1 hS1 => kk out ho ls H1 locs1 hl1 ?_ hS1)
  have h2 : (Sum.inl (cA 0, k, .inl (upd (σ b) i.toNatClampNeg x)) : va_E) = z_en ad cA (lay b) (upd (σ b) i.toNatClampNeg x) := by rw [hl]; rfl
  rw [h2, z_wd_set hbn] at hP1
  exact hP1
theorem z_zast (hC : zX Γ lay n ad cc own nL rm ret) {b k : Nat} {i x : Int32} (hd : decode cc pc = .ok (.bastore, 1)) (hbn : b < n) (hl : lay b = .inl (1, k)) {d : Decidable (z_in i k)} (kk : z_in i k → zK Γ lay n ad nL ret (pc + 1) lv st (zs σ b i.toNatClampNeg (vp_nar .boolean x)) e K) : zK Γ lay n ad nL ret pc lv (.int x :: .int i :: .ref (ad b) :: st) σ (zg (z_in i k) e) K := by
  refine z_chk (fun hi => ?_)
  have kk := kk hi
  obtain ⟨p, l, en, R, s, m, args, below, meth, c, cA, D, W0, lo⟩ := Γ
  obtain ⟨hx, hb, hml, hown, hts, hK, hN, hD, hR, hr, hlk⟩ := hC
  intro out ho ls H locs hl1 hP hS
  refine va_zast hx hb hK hP (hD σ) hS b 1 (z_arZ hbn hl) rfl (z_in_vp hi) hd (fun H1 locs1 hP1 hD1 hS1 => kk out ho ls H1 locs1 hl1 ?_ hS1)
  have h2 : (Sum.inl (cA 1, k, .inl (upd (σ b) i.toNatClampNeg (vp_nar .boolean x))) : va_E) = z_en ad cA (lay b) (upd (σ b) i.toNatClampNeg (vp_nar .boolean x)) := by rw [hl]; rfl
  rw [h2, z_wd_set hbn] at hP1
  exact hP1
theorem z_aast (hC : zX Γ lay n ad cc own nL rm ret) {b k : Nat} {i x : Int32} {fl : List (Option Nat)} (hd : decode cc pc = .ok (.aastore, 1)) (hbn : b < n) (hl : lay b = .inl (2, k)) (hmn : z_mo x.toNatClampNeg < n) (hml0 : lay (z_mo x.toNatClampNeg) = .inr (4, fl)) {d : Decidable (z_in i k)} (kk : z_in i k → zK Γ lay n ad nL ret (pc + 1) lv st (zs σ b i.toNatClampNeg x) e K) : zK Γ lay n ad nL ret pc lv (.ref (ad (z_mo x.toNatClampNeg)) :: .int i :: .ref (ad b) :: st) σ (zg (z_in i k) e) K := by
  refine z_chk (fun hi => ?_)
  have kk := kk hi
  obtain ⟨p, l, en, R, s, m, args, below, meth, c, cA, D, W0, lo⟩ := Γ
  obtain ⟨hx, hb, hml, hown, hts, hK, hN, hD, hR, hr, hlk⟩ := hC
  intro out ho ls H locs hl1 hP hS
  refine va_astq hx hb hK hP (hD σ) hS b 2 (z_mo x.toNatClampNeg) 4 (r := (RX4, TX4, 15)) (z_arM hbn hl) rfl (z_obj hmn hml0) rfl (z_in_vp hi) hd (fun H1 locs1 hP1 hD1 hS1 => kk out ho ls H1 locs1 hl1 ?_ hS1)
  have h1 : (va_up (fun j => some (ad (z_mo (σ b j).toNatClampNeg))) i.toNatClampNeg (some (ad (z_mo x.toNatClampNeg)))) = (fun j => some (ad (z_mo (upd (σ b) i.toNatClampNeg x j).toNatClampNeg))) := by
    funext j
    by_cases hj : j = i.toNatClampNeg
    · simp [va_up, upd, hj]
    · simp [va_up, upd, hj]
  have h2 : (Sum.inl (cA 2, k, .inr (.inr (.inr (.inr (fun j => some (ad (z_mo (upd (σ b) i.toNatClampNeg x j).toNatClampNeg))))))) : va_E) = z_en ad cA (lay b) (upd (σ b) i.toNatClampNeg x) := by rw [hl]; rfl
  rw [h1, h2, z_wd_set hbn] at hP1
  exact hP1
theorem z_alenZ (hC : zX Γ lay n ad cc own nL rm ret) {b k : Nat} {v : Int32} (hd : decode cc pc = .ok (.arraylength, 1)) (hbn : b < n) (hl : lay b = .inl (1, k)) (hv : Int32.ofNat k = v) (kk : zK Γ lay n ad nL ret (pc + 1) lv (.int v :: st) σ e K) : zK Γ lay n ad nL ret pc lv (.ref (ad b) :: st) σ e K := by
  obtain ⟨p, l, en, R, s, m, args, below, meth, c, cA, D, W0, lo⟩ := Γ
  obtain ⟨hx, hb, hml, hown, hts, hK, hN, hD, hR, hr, hlk⟩ := hC
  intro out ho ls H locs hl1 hP hS
  exact va_alen hx hb hK hP b 1 (z_arZ hbn hl) (ty := .boolean) rfl hv hd (kk out ho ls H locs hl1 hP hS)
theorem z_copy (hC : zX Γ lay n ad cc own nL rm ret) {b0 b1 k0 k1 idx N : Nat} {x : Int32} (hw1 : Cond.methodLink own idx arraycopyName ∈ z_TB) (hw2 : Cond.native arraycopyName ∈ z_TB) (hw3 : Cond.static arraycopyName ∈ z_TB) (hw4 : Cond.initialized "java/lang/System" ∈ z_TB) (hd : decode cc pc = .ok (.invokestatic idx, 3)) (hb0 : b0 < n) (hb1 : b1 < n) (hl0 : lay b0 = .inl (0, k0)) (hl1 : lay b1 = .inl (0, k1)) (hx : x.toNatClampNeg = N ∧ ¬ x < 0 ∧ N ≤ k0 ∧ N ≤ k1) (hR : 1 ≤ rm.frames ∧ (st.map fun v => v.category).sum + (nativeFrameWords "java/lang/System" "arraycopy" 5 + 11) ≤ rm.locals)
    (kk : zK Γ lay n ad nL ret (pc + 3) lv st (va_up σ b1 (va_cpy (σ b0) (σ b1) 0 0 N)) e K) : zK Γ lay n ad nL ret pc lv (.int x :: .int 0 :: .ref (ad b1) :: .int 0 :: .ref (ad b0) :: st) σ e K := by
  obtain ⟨p, l, en, R, s, m, args, below, meth, c, cA, D, W0, lo⟩ := Γ
  obtain ⟨hex, hb, hml, hown, hts, hK, hN, hD, rfl, hr, hlk⟩ := hC
  obtain ⟨rfl, h3, h4, h5⟩ := hx
  intro out ho ls H locs hlL hP hS
  refine va_copyi hex hb (hml.trans hlL.1.symm) hown (hts _ hw1) (hts _ hw2) (hts _ hw3) (hts _ hw4) hK hP (hD σ) hS b0 b1 0 0 (ty := .int) (z_arI hb0 hl0) (z_arI hb1 hl1) rfl rfl rfl (by decide) (by decide) h3 (by simpa using h4) (by simpa using h5) (fun _ _ => rfl) hR.1 hR.2 hd (fun H1 locs1 hP1 hD1 hS1 => kk out ho ls H1 locs1 hlL ?_ hS1)
  have h2 : (Sum.inl (cA 0, k1, .inl (va_cpy (σ b0) (σ b1) (0 : Int32).toNatClampNeg (0 : Int32).toNatClampNeg x.toNatClampNeg)) : va_E) = z_en ad cA (lay b1) (va_cpy (σ b0) (σ b1) 0 0 x.toNatClampNeg) := by rw [hl1]; rfl
  rw [h2, z_wd_set hb1] at hP1
  exact hP1
theorem z_mmax (hC : zX Γ lay n ad cc own nL rm ret) {idx : Nat} {x y : Int32} (hw1 : Cond.methodLink own idx Lib.Math.max.name ∈ z_TB) (hw2 : Cond.static Lib.Math.max.name ∈ z_TB) (hw3 : Cond.initialized "java/lang/Math" ∈ z_TB) (hw4 : Cond.code Lib.Math.max.name Lib.Math.max.code 2 (some .int) ∈ z_TB) (hd : decode cc pc = .ok (.invokestatic idx, 3)) (hR : 1 ≤ rm.frames ∧ (st.map fun v => v.category).sum + 13 ≤ rm.locals) (kk : zK Γ lay n ad nL ret (pc + 3) lv (.int (if x < y then y else x) :: st) σ e K) : zK Γ lay n ad nL ret pc lv (.int y :: .int x :: st) σ e K := by
  obtain ⟨p, l, en, R, s, m, args, below, meth, c, cA, D, W0, lo⟩ := Γ
  obtain ⟨hex, hb, hml, hown, hts, hK, hN, hD, rfl, hr, hlk⟩ := hC
  intro out ho ls H locs hlL hP hS
  exact va_mmax hex hb (hml.trans hlL.1.symm) hown (hts _ hw1) (hts _ hw2) (hts _ hw3) (hts _ hw4) hR.1 hR.2 (Nat.zero_le _) (Nat.zero_le _) hd (kk out ho ls H locs hlL hP hS)
theorem z_mmin (hC : zX Γ lay n ad cc own nL rm ret) {idx : Nat} {x y : Int32} (hw1 : Cond.methodLink own idx Lib.Math.min.name ∈ z_TB) (hw2 : Cond.static Lib.Math.min.name ∈ z_TB) (hw3 : Cond.initialized "java/lang/Math" ∈ z_TB) (hw4 : Cond.code Lib.Math.min.name Lib.Math.min.code 2 (some .int) ∈ z_TB) (hd : decode cc pc = .ok (.invokestatic idx, 3)) (hR : 1 ≤ rm.frames ∧ (st.map fun v => v.category).sum + 13 ≤ rm.locals) (kk : zK Γ lay n ad nL ret (pc + 3) lv (.int (if y < x then y else x) :: st) σ e K) : zK Γ lay n ad nL ret pc lv (.int y :: .int x :: st) σ e K := by
  obtain ⟨p, l, en, R, s, m, args, below, meth, c, cA, D, W0, lo⟩ := Γ
  obtain ⟨hex, hb, hml, hown, hts, hK, hN, hD, rfl, hr, hlk⟩ := hC
  intro out ho ls H locs hlL hP hS
  exact va_mmin hex hb (hml.trans hlL.1.symm) hown (hts _ hw1) (hts _ hw2) (hts _ hw3) (hts _ hw4) hR.1 hR.2 (Nat.zero_le _) (Nat.zero_le _) hd (kk out ho ls H locs hlL hP hS)
/-- returns -/
theorem z_iret {v : Int32} (hC : zX Γ lay n ad cc own nL rm (some .int)) (hd : decode cc pc = .ok (.ireturn, 1)) : zK Γ lay n ad nL (some .int) pc lv [.int v] σ (some (v, σ)) some := by
  obtain ⟨p, l, en, R, s, m, args, below, meth, c, cA, D, W0, lo⟩ := Γ
  obtain ⟨hx, hb, hml, hown, hts, hK, hN, hD, hR, hr, hlk⟩ := hC
  intro out ho ls H locs hl1 hP hS
  have ho : (v, σ) = out := Option.some.inj ho
  subst ho
  exact W.iret (v := v) hx hb hr (fun t ht hW => ⟨⟨v, σ, rfl, rfl, by rw [ht]; exact hP, va_K.moved hW.alike hK, z_N_warm hW hN, hD⟩, hS.F ht⟩) hS.2.2 hd hlk
theorem z_zret {v : Int32} (hC : zX Γ lay n ad cc own nL rm (some .boolean)) (hv : v = 0 ∨ v = 1) (hd : decode cc pc = .ok (.ireturn, 1)) : zK Γ lay n ad nL (some .boolean) pc lv [.int v] σ (some (v, σ)) some := by
  obtain ⟨p, l, en, R, s, m, args, below, meth, c, cA, D, W0, lo⟩ := Γ
  obtain ⟨hx, hb, hml, hown, hts, hK, hN, hD, hR, hr, hlk⟩ := hC
  intro out ho ls H locs hl1 hP hS
  have ho : (v, σ) = out := Option.some.inj ho
  subst ho
  exact W.zret (v := v) hx hb hr (z_nb hv) (fun t ht hW => ⟨⟨v, σ, rfl, rfl, by rw [ht]; exact hP, va_K.moved hW.alike hK, z_N_warm hW hN, hD⟩, hS.F ht⟩) hS.2.2 hd hlk
theorem z_vret {r : Int32} (hC : zX Γ lay n ad cc own nL rm none) (hd : decode cc pc = .ok (.return_, 1)) : zK Γ lay n ad nL none pc lv [] σ (some (r, σ)) some := by
  obtain ⟨p, l, en, R, s, m, args, below, meth, c, cA, D, W0, lo⟩ := Γ
  obtain ⟨hx, hb, hml, hown, hts, hK, hN, hD, hR, hr, hlk⟩ := hC
  intro out ho ls H locs hl1 hP hS
  have ho : (r, σ) = out := Option.some.inj ho
  subst ho
  exact W.vret hx hb hr (fun t ht hW => ⟨⟨σ, rfl, rfl, by rw [ht]; exact hP, va_K.moved hW.alike hK, z_N_warm hW hN, hD⟩, hS.F ht⟩) hS.2.2 hd hlk
end ZH
end
section
def zY (y : MethodName) (cd : ByteArray) (mL : Nat) (ret : Option FieldType) (C : String) (na : Nat) : Prop := Cond.instanceMethod y ∈ z_TB ∧ Cond.selects C y y ∈ z_TB ∧ Cond.initialized C ∈ z_TB ∧ Cond.code y cd mL ret ∈ z_TB ∧ y.cls = C ∧ y.cls ≠ "java/lang/invoke/MethodHandle" ∧ y.cls ≠ "java/lang/invoke/VarHandle" ∧ (parseMethodDescriptor y.desc).map (fun d => d.parameters.length) = some na
def zYs (y : MethodName) (cd : ByteArray) (mL : Nat) (ret : Option FieldType) (na : Nat) : Prop := Cond.static y ∈ z_TB ∧ Cond.initialized y.cls ∈ z_TB ∧ Cond.code y cd mL ret ∈ z_TB ∧ y.cls ≠ "java/lang/invoke/MethodHandle" ∧ y.cls ≠ "java/lang/invoke/VarHandle" ∧ (parseMethodDescriptor y.desc).map (fun d => d.parameters.length) = some na
def zb {α : Type} (o : Option (Int32 × zS)) (g : Int32 → zS → Option α) : Option α := o.bind (fun q => g q.1 q.2)
def zl {α β : Type} (a : α) (g : α → Option β) : Option β := g a
abbrev zR (rmc : Room) (mL : Nat) (rm : Room) : Prop := rmc.cells = 0 ∧ rmc.slots = 0 ∧ rmc.frames + 1 ≤ rm.frames ∧ 8 + (mL + 11) + rmc.locals ≤ rm.locals
theorem z_blind {lay : Nat → zL} {n : Nat} {ad : Nat → Nat} {cA : Nat → ClassId} {D : va_G} {W0 : va_W} {lo : Nat} {σ : zS} {av : List Value} : FrameBlind (va_Pc av (z_B lay n ad cA D W0 lo σ)) := fun a U g mk q => ⟨q.1, q.2.1, va_K.moved (u := U) (U := U.calling g mk a) (Vm.Alike.refl U.vm) q.2.2.1, z_N_vm rfl q.2.2.2.1, q.2.2.2.2⟩
section ZC
variable {Γ : zG} {lay : Nat → zL} {n : Nat} {ad : Nat → Nat} {cc : ByteArray} {own : String} {nL : Nat} {rm : Room} {ret : Option FieldType} {pc : Nat} {lv : List (Option Value)} {st : List Value} {σ : zS} {α : Type} {e : Option α} {K : α → Option (Int32 × zS)}
variable {y : MethodName} {cd : ByteArray} {mL na idx b ci N : Nat} {rt : FieldType} {rmc : Room} {av : (Nat → Nat) → List Value} {f : zS → Option (Int32 × zS)} {C : String} {T : u_T} {fl : List (Option Nat)} {rest : List Value} {g : Int32 → zS → Option α}
theorem z_callVi (hC : zX Γ lay n ad cc own nL rm ret) (As : List Value) (hM : zM lay n y cd mL (some rt) rmc av f) (hY : zY y cd mL (some rt) C na) (hL : Cond.methodLink own idx y ∈ z_TB) (hd : decode cc pc = .ok (.invokevirtual idx, 3)) (hbn : b < n) (hlay : lay b = .inr (ci, fl)) (hcl : vwCl[ci]? = some (C, T, N)) (hav : av ad = .ref (ad b) :: As) (hna : As.length = na) (hst : st = As.reverse ++ .ref (ad b) :: rest) (hW : (rest.map fun v => v.category).sum ≤ 8) (hR : zR rmc mL rm)
    (kk : ∀ r σ1, f σ = some (r, σ1) → zK Γ lay n ad nL ret (pc + 3) lv (.int r :: rest) σ1 (g r σ1) K) : zK Γ lay n ad nL ret pc lv st σ (zb (f σ) g) K := by
  obtain ⟨p, l, en, R, s, m, args, below, meth, c, cA, D, W0, lo⟩ := Γ
  obtain ⟨hx, hb, hml, hown, hts, hK, hN, hD, rfl, hr, hlk⟩ := hC
  obtain ⟨y1, y2, y3, y4, y5, y6, y7, y8⟩ := hY
  obtain ⟨r1, r2, r3, r4⟩ := hR
  intro out ho ls H locs hl1 hP hS
  subst hst
  cases hf : f σ with
  | none => rw [hf] at ho; exact absurd ho (by simp [zb])
  | some q =>
    obtain ⟨r0, σ1⟩ := q
    rw [hf] at ho
    have hM' : Met l y (.code y cd mL (some rt) :: z_TB) rmc (va_Pc (.ref (ad b) :: As) (z_B lay n ad cA D W0 lo σ)) (va_Qi (fun r u => (r, u) = (r0, σ1)) (z_B lay n ad cA D W0 lo) (fun q => lo ≤ q)) 0 0 (fun q => lo ≤ q) := hav ▸ hM l ad cA D W0 lo σ (r0, σ1) hf
    refine va_calli (va_runV (As := As) (rest := rest) (C := C) ⟨hx, hb, hml, hown, hts⟩ hM' ⟨callB_of na hts (z_good y4) rfl r1 r2 (y5 ▸ hts _ y3) (hts _ hL) ⟨y6, y7, y8⟩ ⟨r3, r4⟩, hts _ y1, hts _ y2⟩ ⟨z_blind, va_recv hK hP (ci := ci) (q0 := b) hcl (z_obj hbn hlay), fun U hU hWm => ⟨rfl, by rw [hU]; exact hP, va_K.moved hWm.alike hK, z_N_warm hWm hN, hD⟩⟩ rfl hna hl1.1 rfl (lv_room hW) hd ⟨Nat.zero_le _, Nat.zero_le _⟩) hS (fun q _ h => h) (fun q h => h) (fun r u t H1 locs1 ht hvm hw hB hz1 hk1 hS1 => ?_)
    obtain ⟨rfl, rfl⟩ := Prod.mk.inj hw
    exact kk _ _ hf out ho ls H1 locs1 hl1 (by rw [← ht]; exact hB.1) hS1
theorem z_callVv (hC : zX Γ lay n ad cc own nL rm ret) (As : List Value) (hM : zM lay n y cd mL none rmc av f) (hY : zY y cd mL none C na) (hL : Cond.methodLink own idx y ∈ z_TB) (hd : decode cc pc = .ok (.invokevirtual idx, 3)) (hbn : b < n) (hlay : lay b = .inr (ci, fl)) (hcl : vwCl[ci]? = some (C, T, N)) (hav : av ad = .ref (ad b) :: As) (hna : As.length = na) (hst : st = As.reverse ++ .ref (ad b) :: rest) (hW : (rest.map fun v => v.category).sum ≤ 8) (hR : zR rmc mL rm)
    (kk : ∀ r σ1, f σ = some (r, σ1) → zK Γ lay n ad nL ret (pc + 3) lv rest σ1 (g r σ1) K) : zK Γ lay n ad nL ret pc lv st σ (zb (f σ) g) K := by
  obtain ⟨p, l, en, R, s, m, args, below, meth, c, cA, D, W0, lo⟩ := Γ
  obtain ⟨hx, hb, hml, hown, hts, hK, hN, hD, rfl, hr, hlk⟩ := hC
  obtain ⟨y1, y2, y3, y4, y5, y6, y7, y8⟩ := hY
  obtain ⟨r1, r2, r3, r4⟩ := hR
  intro out ho ls H locs hl1 hP hS
  subst hst
  cases hf : f σ with
  | none => rw [hf] at ho; exact absurd ho (by simp [zb])
  | some q =>
    obtain ⟨r0, σ1⟩ := q
    rw [hf] at ho
    have hM' : Met l y (.code y cd mL none :: z_TB) rmc (va_Pc (.ref (ad b) :: As) (z_B lay n ad cA D W0 lo σ)) (va_Qv (fun u => u = σ1) (z_B lay n ad cA D W0 lo) (fun q => lo ≤ q)) 0 0 (fun q => lo ≤ q) := hav ▸ hM l ad cA D W0 lo σ (r0, σ1) hf
    refine va_callv (va_runV (As := As) (rest := rest) (C := C) ⟨hx, hb, hml, hown, hts⟩ hM' ⟨callB_of na hts (z_good y4) rfl r1 r2 (y5 ▸ hts _ y3) (hts _ hL) ⟨y6, y7, y8⟩ ⟨r3, r4⟩, hts _ y1, hts _ y2⟩ ⟨z_blind, va_recv hK hP (ci := ci) (q0 := b) hcl (z_obj hbn hlay), fun U hU hWm => ⟨rfl, by rw [hU]; exact hP, va_K.moved hWm.alike hK, z_N_warm hWm hN, hD⟩⟩ rfl hna hl1.1 rfl (lv_room hW) hd ⟨Nat.zero_le _, Nat.zero_le _⟩) hS (fun q _ h => h) (fun q h => h) (fun u t H1 locs1 ht hvm hw hB hz1 hk1 hS1 => ?_)
    subst hw
    exact kk _ _ hf out ho ls H1 locs1 hl1 (by rw [← ht]; exact hB.1) hS1
theorem z_callSi (hC : zX Γ lay n ad cc own nL rm ret) (As : List Value) (hM : zM lay n y cd mL (some rt) rmc av f) (hY : zYs y cd mL (some rt) na) (hL : Cond.methodLink own idx y ∈ z_TB) (hd : decode cc pc = .ok (.invokestatic idx, 3)) (hav : av ad = As) (hna : As.length = na) (hst : st = As.reverse ++ rest) (hW : (rest.map fun v => v.category).sum ≤ 8) (hR : zR rmc mL rm)
    (kk : ∀ r σ1, f σ = some (r, σ1) → zK Γ lay n ad nL ret (pc + 3) lv (.int r :: rest) σ1 (g r σ1) K) : zK Γ lay n ad nL ret pc lv st σ (zb (f σ) g) K := by
  obtain ⟨p, l, en, R, s, m, args, below, meth, c, cA, D, W0, lo⟩ := Γ
  obtain ⟨hx, hb, hml, hown, hts, hK, hN, hD, rfl, hr, hlk⟩ := hC
  obtain ⟨y1, y3, y4, y6, y7, y8⟩ := hY
  obtain ⟨r1, r2, r3, r4⟩ := hR
  intro out ho ls H locs hl1 hP hS
  subst hst
  cases hf : f σ with
  | none => rw [hf] at ho; exact absurd ho (by simp [zb])
  | some q =>
    obtain ⟨r0, σ1⟩ := q
    rw [hf] at ho
    have hM' : Met l y (.code y cd mL (some rt) :: z_TB) rmc (va_Pc As (z_B lay n ad cA D W0 lo σ)) (va_Qi (fun r u => (r, u) = (r0, σ1)) (z_B lay n ad cA D W0 lo) (fun q => lo ≤ q)) 0 0 (fun q => lo ≤ q) := hav ▸ hM l ad cA D W0 lo σ (r0, σ1) hf
    refine va_calli (va_runS (As := As) (rest := rest) ⟨hx, hb, hml, hown, hts⟩ hM' ⟨callB_of na hts (z_good y4) rfl r1 r2 (hts _ y3) (hts _ hL) ⟨y6, y7, y8⟩ ⟨r3, r4⟩, hts _ y1⟩ ⟨z_blind, fun U hU hWm => ⟨rfl, by rw [hU]; exact hP, va_K.moved hWm.alike hK, z_N_warm hWm hN, hD⟩⟩ rfl hna hl1.1 rfl (lv_room hW) hd ⟨Nat.zero_le _, Nat.zero_le _⟩) hS (fun q _ h => h) (fun q h => h) (fun r u t H1 locs1 ht hvm hw hB hz1 hk1 hS1 => ?_)
    obtain ⟨rfl, rfl⟩ := Prod.mk.inj hw
    exact kk _ _ hf out ho ls H1 locs1 hl1 (by rw [← ht]; exact hB.1) hS1
theorem z_callSv (hC : zX Γ lay n ad cc own nL rm ret) (As : List Value) (hM : zM lay n y cd mL none rmc av f) (hY : zYs y cd mL none na) (hL : Cond.methodLink own idx y ∈ z_TB) (hd : decode cc pc = .ok (.invokestatic idx, 3)) (hav : av ad = As) (hna : As.length = na) (hst : st = As.reverse ++ rest) (hW : (rest.map fun v => v.category).sum ≤ 8) (hR : zR rmc mL rm)
    (kk : ∀ r σ1, f σ = some (r, σ1) → zK Γ lay n ad nL ret (pc + 3) lv rest σ1 (g r σ1) K) : zK Γ lay n ad nL ret pc lv st σ (zb (f σ) g) K := by
  obtain ⟨p, l, en, R, s, m, args, below, meth, c, cA, D, W0, lo⟩ := Γ
  obtain ⟨hx, hb, hml, hown, hts, hK, hN, hD, rfl, hr, hlk⟩ := hC
  obtain ⟨y1, y3, y4, y6, y7, y8⟩ := hY
  obtain ⟨r1, r2, r3, r4⟩ := hR
  intro out ho ls H locs hl1 hP hS
  subst hst
  cases hf : f σ with
  | none => rw [hf] at ho; exact absurd ho (by simp [zb])
  | some q =>
    obtain ⟨r0, σ1⟩ := q
    rw [hf] at ho
    have hM' : Met l y (.code y cd mL none :: z_TB) rmc (va_Pc As (z_B lay n ad cA D W0 lo σ)) (va_Qv (fun u => u = σ1) (z_B lay n ad cA D W0 lo) (fun q => lo ≤ q)) 0 0 (fun q => lo ≤ q) := hav ▸ hM l ad cA D W0 lo σ (r0, σ1) hf
    refine va_callv (va_runS (As := As) (rest := rest) ⟨hx, hb, hml, hown, hts⟩ hM' ⟨callB_of na hts (z_good y4) rfl r1 r2 (hts _ y3) (hts _ hL) ⟨y6, y7, y8⟩ ⟨r3, r4⟩, hts _ y1⟩ ⟨z_blind, fun U hU hWm => ⟨rfl, by rw [hU]; exact hP, va_K.moved hWm.alike hK, z_N_warm hWm hN, hD⟩⟩ rfl hna hl1.1 rfl (lv_room hW) hd ⟨Nat.zero_le _, Nat.zero_le _⟩) hS (fun q _ h => h) (fun q h => h) (fun u t H1 locs1 ht hvm hw hB hz1 hk1 hS1 => ?_)
    subst hw
    exact kk _ _ hf out ho ls H1 locs1 hl1 (by rw [← ht]; exact hB.1) hS1
/-- a private static method of a nest mate -/
theorem z_callSNi (hC : zX Γ lay n ad cc own nL rm ret) (As : List Value) {host : String} (hM : zM lay n y cd mL (some rt) rmc av f) (hY : zYs y cd mL (some rt) na) (hL : (own, idx, y, host) ∈ z_nest) (hd : decode cc pc = .ok (.invokestatic idx, 3)) (hav : av ad = As) (hna : As.length = na) (hst : st = As.reverse ++ rest) (hW : (rest.map fun v => v.category).sum ≤ 8) (hR : zR rmc mL rm)
    (kk : ∀ r σ1, f σ = some (r, σ1) → zK Γ lay n ad nL ret (pc + 3) lv (.int r :: rest) σ1 (g r σ1) K) : zK Γ lay n ad nL ret pc lv st σ (zb (f σ) g) K := by
  obtain ⟨p, l, en, R, s, m, args, below, meth, c, cA, D, W0, lo⟩ := Γ
  obtain ⟨hx, hb, hml, hown, hts, hK, hN, hD, rfl, hr, hlk⟩ := hC
  obtain ⟨y1, y3, y4, y6, y7, y8⟩ := hY
  obtain ⟨r1, r2, r3, r4⟩ := hR
  intro out ho ls H locs hl1 hP hS
  subst hst
  cases hf : f σ with
  | none => rw [hf] at ho; exact absurd ho (by simp [zb])
  | some q =>
    obtain ⟨r0, σ1⟩ := q
    rw [hf] at ho
    have hM' : Met l y (.code y cd mL (some rt) :: z_TB) rmc (va_Pc As (z_B lay n ad cA D W0 lo σ)) (va_Qi (fun r u => (r, u) = (r0, σ1)) (z_B lay n ad cA D W0 lo) (fun q => lo ≤ q)) 0 0 (fun q => lo ≤ q) := hav ▸ hM l ad cA D W0 lo σ (r0, σ1) hf
    refine va_calli (va_runSN (As := As) (rest := rest) (host := host) ⟨hx, hb, hml, hown, hts⟩ hM' ⟨va_cnB na hts (z_good y4) rfl r1 r2 (hN _ hL) (hts _ y3) ⟨y6, y7, y8⟩ ⟨r3, r4⟩, hts _ y1, trivial⟩ ⟨z_blind, fun U hU hWm => ⟨rfl, by rw [hU]; exact hP, va_K.moved hWm.alike hK, z_N_warm hWm hN, hD⟩⟩ rfl hna hl1.1 rfl (lv_room hW) hd ⟨Nat.zero_le _, Nat.zero_le _⟩) hS (fun q _ h => h) (fun q h => h) (fun r u t H1 locs1 ht hvm hw hB hz1 hk1 hS1 => ?_)
    obtain ⟨rfl, rfl⟩ := Prod.mk.inj hw
    exact kk _ _ hf out ho ls H1 locs1 hl1 (by rw [← ht]; exact hB.1) hS1
/-- switches -/
theorem z_tabIn (hC : zX Γ lay n ad cc own nL rm ret) {dflt lo hi off : Int} {offs : Array Int} {len : Nat} {x : Int32} (tgt : Nat) (hd : decode cc pc = .ok (.tableswitch dflt lo hi offs, len)) (v : Int32) (hxv : x = v) (h1 : ¬ v.toInt < lo) (h2 : ¬ hi < v.toInt) (ho1 : offs[(v.toInt - lo).toNat]? = some off) (ht : (pc : Int) + off = (tgt : Int)) (kk : zK Γ lay n ad nL ret tgt lv st σ e K) : zK Γ lay n ad nL ret pc lv (.int x :: st) σ e K := by
  subst hxv
  obtain ⟨p, l, en, R, s, m, args, below, meth, c, cA, D, W0, lo⟩ := Γ
  obtain ⟨hx, hb, hml, hown, hts, hK, hN, hD, hR, hr, hlk⟩ := hC
  intro out ho ls H locs hl1 hP hS
  exact lv_tableIn hx hb hd h1 h2 ho1 ht (kk out ho ls H locs hl1 hP hS)
theorem z_tabOut (hC : zX Γ lay n ad cc own nL rm ret) {dflt lo hi : Int} {offs : Array Int} {len : Nat} {x : Int32} (tgt : Nat) (hd : decode cc pc = .ok (.tableswitch dflt lo hi offs, len)) (h : x.toInt < lo ∨ hi < x.toInt) (ht : (pc : Int) + dflt = (tgt : Int)) (kk : zK Γ lay n ad nL ret tgt lv st σ e K) : zK Γ lay n ad nL ret pc lv (.int x :: st) σ e K := by
  obtain ⟨p, l, en, R, s, m, args, below, meth, c, cA, D, W0, lo⟩ := Γ
  obtain ⟨hx, hb, hml, hown, hts, hK, hN, hD, hR, hr, hlk⟩ := hC
  intro out ho ls H locs hl1 hP hS
  exact lv_tableOut hx hb hd h ht (kk out ho ls H locs hl1 hP hS)
theorem z_look (hC : zX Γ lay n ad cc own nL rm ret) {dflt off : Int} {ps : Array (Int × Int)} {len : Nat} {x : Int32} (tgt : Nat) (hd : decode cc pc = .ok (.lookupswitch dflt ps, len)) (hp : (ps.toList.zip (ps.toList.drop 1)).all (fun (a, next) => a.1 < next.1) = true) (hof : Op.lookupswitch.offset ps.toList dflt x.toInt = off) (ht : (pc : Int) + off = (tgt : Int)) (kk : zK Γ lay n ad nL ret tgt lv st σ e K) : zK Γ lay n ad nL ret pc lv (.int x :: st) σ e K := by
  obtain ⟨p, l, en, R, s, m, args, below, meth, c, cA, D, W0, lo⟩ := Γ
  obtain ⟨hx, hb, hml, hown, hts, hK, hN, hD, hR, hr, hlk⟩ := hC
  intro out ho ls H locs hl1 hP hS
  exact lv_lookup hx hb hd hp hof ht (kk out ho ls H locs hl1 hP hS)
theorem z_let {T : zS} {g : zS → Option α} (kk : ∀ σ1, σ1 = T → zK Γ lay n ad nL ret pc lv st σ1 (g σ1) K) : zK Γ lay n ad nL ret pc lv st T (zl T g) K := kk T rfl
theorem z_leaf {a : α} (h : zZ Γ lay n ad nL ret pc lv st σ (K a)) : zK Γ lay n ad nL ret pc lv st σ (some a) K := h
end ZC
def zfuel : Nat := 2048
/-- loops: one turn answers whether it goes on -/
def z_loop {α : Type} (b : α → Option (Bool × α)) : Nat → α → Option α
  | 0, _ => none
  | k + 1, a => (b a).bind (fun q => if q.1 = true then z_loop b k q.2 else some q.2)
theorem z_lp {Γ : zG} {lay : Nat → zL} {n : Nat} {ad : Nat → Nat} {nL : Nat} {ret : Option FieldType} {α : Type} {b : α → Option (Bool × α)} {lvf : α → List (Option Value)} {sg : α → zS} {st : List Value} {pc x : Nat}
    (hbody : ∀ (a : α) (K' : Bool × α → Option (Int32 × zS)), (∀ a', zZ Γ lay n ad nL ret pc (lvf a') st (sg a') (K' (true, a'))) → (∀ a', zZ Γ lay n ad nL ret x (lvf a') st (sg a') (K' (false, a'))) → zK Γ lay n ad nL ret pc (lvf a) st (sg a) (b a) K') :
    ∀ (k : Nat) (a : α) (K : α → Option (Int32 × zS)), (∀ a', zZ Γ lay n ad nL ret x (lvf a') st (sg a') (K a')) → zK Γ lay n ad nL ret pc (lvf a) st (sg a) (z_loop b k a) K
  | 0, a, K, _ => z_none (α := α)
  | k + 1, a, K, hx => by
    have h := hbody a (fun q => (if q.1 = true then z_loop b k q.2 else some q.2).bind K) (fun a' => z_lp hbody k a' K hx) (fun a' => hx a')
    unfold zK at h ⊢
    rw [z_loop, Option.bind_assoc]
    exact h
theorem z_lpb {Γ : zG} {lay : Nat → zL} {n : Nat} {ad : Nat → Nat} {nL : Nat} {ret : Option FieldType} {α β : Type} {b : α → Option (Bool × α)} {lvf : α → List (Option Value)} {sg : α → zS} {st : List Value} {pc x : Nat} {σ : zS} {lv : List (Option Value)} {g : α → Option β} {K : β → Option (Int32 × zS)} (k : Nat) (a : α) (hlv : lv = lvf a) (hsg : σ = sg a)
    (hbody : ∀ (a : α) (K' : Bool × α → Option (Int32 × zS)), (∀ a', zZ Γ lay n ad nL ret pc (lvf a') st (sg a') (K' (true, a'))) → (∀ a', zZ Γ lay n ad nL ret x (lvf a') st (sg a') (K' (false, a'))) → zK Γ lay n ad nL ret pc (lvf a) st (sg a) (b a) K')
    (kk : ∀ a', zK Γ lay n ad nL ret x (lvf a') st (sg a') (g a') K) : zK Γ lay n ad nL ret pc lv st σ ((z_loop b k a).bind g) K := by
  subst hlv; subst hsg
  have h := z_lp hbody k a (fun q => (g q).bind K) (fun a' => kk a')
  unfold zK at h ⊢
  rw [Option.bind_assoc]
  exact h
end
section
theorem z_tm {w : Cond} (i : Nat) (h : tables_1[i]? = some w) (g : goodWord w = true) : w ∈ z_TB := List.mem_filter.mpr ⟨List.mem_append_right _ (List.mem_of_getElem? h), g⟩
theorem z_pm {w : Cond} (i : Nat) (h : (k2_sels lw_privs)[i]? = some w) (g : goodWord w = true) : w ∈ z_TB := List.mem_filter.mpr ⟨List.mem_append_left _ (List.mem_of_getElem? h), g⟩
theorem z_tms {ws : List Cond} (ps : List Nat) (hp : ws = ps.filterMap (fun i => tables_1[i]?)) (h : ws.all goodWord = true) : ∀ w ∈ ws, w ∈ z_TB := by
  intro w hw
  have h1 := List.all_eq_true.mp h w hw
  rw [hp] at hw
  obtain ⟨i, -, hi⟩ := List.mem_filterMap.mp hw
  exact z_tm i hi h1
theorem inz_X0 : ∀ w ∈ u_ws RX0 TX0 3, w ∈ z_TB := z_tms [147, 149, 151] (by decide +kernel) (by decide +kernel)
theorem vcz_X0 : vwCl[0]? = some (RX0, TX0, 3) := rfl
theorem inz_X1 : ∀ w ∈ u_ws RX1 TX1 6, w ∈ z_TB := z_tms [68, 70, 72, 74, 76, 78] (by decide +kernel) (by decide +kernel)
theorem vcz_X1 : vwCl[1]? = some (RX1, TX1, 6) := rfl
theorem inz_X2 : ∀ w ∈ u_ws RX2 TX2 6, w ∈ z_TB := z_tms [98, 100, 102, 104, 106, 108] (by decide +kernel) (by decide +kernel)
theorem vcz_X2 : vwCl[2]? = some (RX2, TX2, 6) := rfl
theorem inz_X3 : ∀ w ∈ u_ws RX3 TX3 6, w ∈ z_TB := z_tms [36, 38, 40, 42, 44, 46] (by decide +kernel) (by decide +kernel)
theorem vcz_X3 : vwCl[3]? = some (RX3, TX3, 6) := rfl
theorem inz_X4 : ∀ w ∈ u_ws RX4 TX4 15, w ∈ z_TB := z_tms [190, 192, 194, 196, 198, 200, 202, 204, 206, 208, 210, 212, 214, 216, 218] (by decide +kernel) (by decide +kernel)
theorem vcz_X4 : vwCl[4]? = some (RX4, TX4, 15) := rfl
theorem inz_X5 : ∀ w ∈ u_ws RX5 TX5 2, w ∈ z_TB := z_tms [233, 235] (by decide +kernel) (by decide +kernel)
theorem vcz_X5 : vwCl[5]? = some (RX5, TX5, 2) := rfl
theorem inz_X6 : ∀ w ∈ u_ws RX6 TX6 4, w ∈ z_TB := z_tms [126, 128, 130, 132] (by decide +kernel) (by decide +kernel)
theorem vcz_X6 : vwCl[6]? = some (RX6, TX6, 4) := rfl
theorem inz_X7 : ∀ w ∈ u_ws RX7 TX7 9, w ∈ z_TB := z_tms [247, 249, 251, 253, 255, 257, 259, 261, 263] (by decide +kernel) (by decide +kernel)
theorem vcz_X7 : vwCl[7]? = some (RX7, TX7, 9) := rfl
theorem inz_X8 : ∀ w ∈ u_ws RX8 TX8 32, w ∈ z_TB := z_tms [570, 572, 574, 576, 578, 580, 582, 584, 586, 588, 590, 592, 594, 596, 598, 600, 602, 604, 606, 608, 610, 612, 614, 616, 618, 620, 622, 624, 626, 628, 630, 632] (by decide +kernel) (by decide +kernel)
theorem vcz_X8 : vwCl[8]? = some (RX8, TX8, 32) := rfl
theorem wf_X7_12 : zF RX7 12 7 0 RX7 TX7 9 := ⟨(z_tm 238 (by decide +kernel) (by decide +kernel)), rfl, by decide, inz_X7⟩
theorem wf_X7_19 : zF RX7 19 7 1 RX7 TX7 9 := ⟨(z_tm 239 (by decide +kernel) (by decide +kernel)), rfl, by decide, inz_X7⟩
theorem wf_X7_26 : zF RX7 26 7 2 RX7 TX7 9 := ⟨(z_tm 240 (by decide +kernel) (by decide +kernel)), rfl, by decide, inz_X7⟩
theorem wf_X7_33 : zF RX7 33 7 3 RX7 TX7 9 := ⟨(z_tm 241 (by decide +kernel) (by decide +kernel)), rfl, by decide, inz_X7⟩
theorem wf_X7_40 : zF RX7 40 7 4 RX7 TX7 9 := ⟨(z_tm 242 (by decide +kernel) (by decide +kernel)), rfl, by decide, inz_X7⟩
theorem wf_X7_47 : zF RX7 47 7 5 RX7 TX7 9 := ⟨(z_tm 243 (by decide +kernel) (by decide +kernel)), rfl, by decide, inz_X7⟩
theorem wf_X7_54 : zF RX7 54 7 6 RX7 TX7 9 := ⟨(z_tm 244 (by decide +kernel) (by decide +kernel)), rfl, by decide, inz_X7⟩
theorem wf_X7_58 : zF RX7 58 7 7 RX7 TX7 9 := ⟨(z_tm 245 (by decide +kernel) (by decide +kernel)), rfl, by decide, inz_X7⟩
theorem wf_X7_70 : zF RX7 70 3 0 RX3 TX3 6 := ⟨(z_tm 27 (by decide +kernel) (by decide +kernel)), rfl, by decide, inz_X3⟩
theorem wp_X7_70 : zP RX7 70 3 0 RX3 TX3 6 .int := ⟨wf_X7_70, ⟨tyX3, tyX3_ok⟩, nmX3, rfl, by decide +kernel⟩
theorem wf_X7_85 : zF RX7 85 3 2 RX3 TX3 6 := ⟨(z_tm 31 (by decide +kernel) (by decide +kernel)), rfl, by decide, inz_X3⟩
theorem wp_X7_85 : zP RX7 85 3 2 RX3 TX3 6 .int := ⟨wf_X7_85, ⟨tyX3, tyX3_ok⟩, nmX3, rfl, by decide +kernel⟩
theorem wf_X7_88 : zF RX7 88 4 10 RX4 TX4 15 := ⟨(z_tm 181 (by decide +kernel) (by decide +kernel)), rfl, by decide, inz_X4⟩
theorem wf_X7_92 : zF RX7 92 4 11 RX4 TX4 15 := ⟨(z_tm 183 (by decide +kernel) (by decide +kernel)), rfl, by decide, inz_X4⟩
theorem wf_X7_110 : zF RX7 110 1 0 RX1 TX1 6 := ⟨(z_tm 57 (by decide +kernel) (by decide +kernel)), rfl, by decide, inz_X1⟩
theorem wp_X7_110 : zP RX7 110 1 0 RX1 TX1 6 .int := ⟨wf_X7_110, ⟨tyX1, tyX1_ok⟩, nmX1, rfl, by decide +kernel⟩
theorem wf_X7_113 : zF RX7 113 1 4 RX1 TX1 6 := ⟨(z_tm 65 (by decide +kernel) (by decide +kernel)), rfl, by decide, inz_X1⟩
theorem wf_X7_116 : zF RX7 116 1 5 RX1 TX1 6 := ⟨(z_tm 67 (by decide +kernel) (by decide +kernel)), rfl, by decide, inz_X1⟩
theorem wf_X7_132 : zF RX7 132 4 3 RX4 TX4 15 := ⟨(z_tm 167 (by decide +kernel) (by decide +kernel)), rfl, by decide, inz_X4⟩
theorem wp_X7_132 : zP RX7 132 4 3 RX4 TX4 15 .int := ⟨wf_X7_132, ⟨tyX4, tyX4_ok⟩, nmX4, rfl, by decide +kernel⟩
theorem wf_X7_139 : zF RX7 139 4 2 RX4 TX4 15 := ⟨(z_tm 165 (by decide +kernel) (by decide +kernel)), rfl, by decide, inz_X4⟩
theorem wp_X7_139 : zP RX7 139 4 2 RX4 TX4 15 .int := ⟨wf_X7_139, ⟨tyX4, tyX4_ok⟩, nmX4, rfl, by decide +kernel⟩
theorem wf_X7_142 : zF RX7 142 4 5 RX4 TX4 15 := ⟨(z_tm 171 (by decide +kernel) (by decide +kernel)), rfl, by decide, inz_X4⟩
theorem wp_X7_142 : zP RX7 142 4 5 RX4 TX4 15 .int := ⟨wf_X7_142, ⟨tyX4, tyX4_ok⟩, nmX4, rfl, by decide +kernel⟩
theorem wf_X7_145 : zF RX7 145 7 8 RX7 TX7 9 := ⟨(z_tm 246 (by decide +kernel) (by decide +kernel)), rfl, by decide, inz_X7⟩
theorem wp_X7_145 : zP RX7 145 7 8 RX7 TX7 9 .boolean := ⟨wf_X7_145, ⟨tyX7, tyX7_ok⟩, nmX7, rfl, by decide +kernel⟩
theorem wf_X7_161 : zF RX7 161 5 0 RX5 TX5 2 := ⟨(z_tm 231 (by decide +kernel) (by decide +kernel)), rfl, by decide, inz_X5⟩
theorem wp_X7_161 : zP RX7 161 5 0 RX5 TX5 2 .int := ⟨wf_X7_161, ⟨tyX5, tyX5_ok⟩, nmX5, rfl, by decide +kernel⟩
theorem wf_X7_165 : zF RX7 165 4 0 RX4 TX4 15 := ⟨(z_tm 161 (by decide +kernel) (by decide +kernel)), rfl, by decide, inz_X4⟩
theorem wp_X7_165 : zP RX7 165 4 0 RX4 TX4 15 .int := ⟨wf_X7_165, ⟨tyX4, tyX4_ok⟩, nmX4, rfl, by decide +kernel⟩
theorem wf_X7_168 : zF RX7 168 4 1 RX4 TX4 15 := ⟨(z_tm 163 (by decide +kernel) (by decide +kernel)), rfl, by decide, inz_X4⟩
theorem wp_X7_168 : zP RX7 168 4 1 RX4 TX4 15 .int := ⟨wf_X7_168, ⟨tyX4, tyX4_ok⟩, nmX4, rfl, by decide +kernel⟩
theorem wf_X7_171 : zF RX7 171 4 4 RX4 TX4 15 := ⟨(z_tm 169 (by decide +kernel) (by decide +kernel)), rfl, by decide, inz_X4⟩
theorem wp_X7_171 : zP RX7 171 4 4 RX4 TX4 15 .int := ⟨wf_X7_171, ⟨tyX4, tyX4_ok⟩, nmX4, rfl, by decide +kernel⟩
theorem wf_X7_174 : zF RX7 174 3 1 RX3 TX3 6 := ⟨(z_tm 29 (by decide +kernel) (by decide +kernel)), rfl, by decide, inz_X3⟩
theorem wp_X7_174 : zP RX7 174 3 1 RX3 TX3 6 .int := ⟨wf_X7_174, ⟨tyX3, tyX3_ok⟩, nmX3, rfl, by decide +kernel⟩
theorem wf_X7_177 : zF RX7 177 2 0 RX2 TX2 6 := ⟨(z_tm 88 (by decide +kernel) (by decide +kernel)), rfl, by decide, inz_X2⟩
theorem wp_X7_177 : zP RX7 177 2 0 RX2 TX2 6 .int := ⟨wf_X7_177, ⟨tyX2, tyX2_ok⟩, nmX2, rfl, by decide +kernel⟩
theorem wf_X7_178 : zF RX7 178 6 0 RX6 TX6 4 := ⟨(z_tm 119 (by decide +kernel) (by decide +kernel)), rfl, by decide, inz_X6⟩
theorem wp_X7_178 : zP RX7 178 6 0 RX6 TX6 4 .int := ⟨wf_X7_178, ⟨tyX6, tyX6_ok⟩, nmX6, rfl, by decide +kernel⟩
theorem wf_X7_179 : zF RX7 179 0 0 RX0 TX0 3 := ⟨(z_tm 142 (by decide +kernel) (by decide +kernel)), rfl, by decide, inz_X0⟩
theorem wp_X7_179 : zP RX7 179 0 0 RX0 TX0 3 .int := ⟨wf_X7_179, ⟨tyX0, tyX0_ok⟩, nmX0, rfl, by decide +kernel⟩
theorem wf_X7_180 : zF RX7 180 4 8 RX4 TX4 15 := ⟨(z_tm 177 (by decide +kernel) (by decide +kernel)), rfl, by decide, inz_X4⟩
theorem wf_X7_183 : zF RX7 183 4 12 RX4 TX4 15 := ⟨(z_tm 185 (by decide +kernel) (by decide +kernel)), rfl, by decide, inz_X4⟩
theorem wf_X7_186 : zF RX7 186 4 13 RX4 TX4 15 := ⟨(z_tm 187 (by decide +kernel) (by decide +kernel)), rfl, by decide, inz_X4⟩
theorem wf_X7_193 : zF RX7 193 4 9 RX4 TX4 15 := ⟨(z_tm 179 (by decide +kernel) (by decide +kernel)), rfl, by decide, inz_X4⟩
theorem wf_X7_196 : zF RX7 196 4 14 RX4 TX4 15 := ⟨(z_tm 189 (by decide +kernel) (by decide +kernel)), rfl, by decide, inz_X4⟩
theorem wf_X7_203 : zF RX7 203 3 5 RX3 TX3 6 := ⟨(z_tm 35 (by decide +kernel) (by decide +kernel)), rfl, by decide, inz_X3⟩
theorem wf_X7_206 : zF RX7 206 4 6 RX4 TX4 15 := ⟨(z_tm 173 (by decide +kernel) (by decide +kernel)), rfl, by decide, inz_X4⟩
theorem wf_X7_209 : zF RX7 209 4 7 RX4 TX4 15 := ⟨(z_tm 175 (by decide +kernel) (by decide +kernel)), rfl, by decide, inz_X4⟩
theorem wf_X7_212 : zF RX7 212 2 2 RX2 TX2 6 := ⟨(z_tm 92 (by decide +kernel) (by decide +kernel)), rfl, by decide, inz_X2⟩
theorem wf_X7_225 : zF RX7 225 2 4 RX2 TX2 6 := ⟨(z_tm 96 (by decide +kernel) (by decide +kernel)), rfl, by decide, inz_X2⟩
theorem wf_X7_235 : zF RX7 235 2 3 RX2 TX2 6 := ⟨(z_tm 94 (by decide +kernel) (by decide +kernel)), rfl, by decide, inz_X2⟩
theorem wf_X7_242 : zF RX7 242 2 1 RX2 TX2 6 := ⟨(z_tm 90 (by decide +kernel) (by decide +kernel)), rfl, by decide, inz_X2⟩
theorem wf_X7_248 : zF RX7 248 6 3 RX6 TX6 4 := ⟨(z_tm 125 (by decide +kernel) (by decide +kernel)), rfl, by decide, inz_X6⟩
theorem wf_X7_251 : zF RX7 251 6 2 RX6 TX6 4 := ⟨(z_tm 123 (by decide +kernel) (by decide +kernel)), rfl, by decide, inz_X6⟩
theorem wf_X7_254 : zF RX7 254 6 1 RX6 TX6 4 := ⟨(z_tm 121 (by decide +kernel) (by decide +kernel)), rfl, by decide, inz_X6⟩
theorem wf_X7_258 : zF RX7 258 0 2 RX0 TX0 3 := ⟨(z_tm 146 (by decide +kernel) (by decide +kernel)), rfl, by decide, inz_X0⟩
theorem wf_X7_261 : zF RX7 261 0 1 RX0 TX0 3 := ⟨(z_tm 144 (by decide +kernel) (by decide +kernel)), rfl, by decide, inz_X0⟩
theorem wf_X7_269 : zF RX7 269 1 1 RX1 TX1 6 := ⟨(z_tm 59 (by decide +kernel) (by decide +kernel)), rfl, by decide, inz_X1⟩
theorem wf_X7_272 : zF RX7 272 1 2 RX1 TX1 6 := ⟨(z_tm 61 (by decide +kernel) (by decide +kernel)), rfl, by decide, inz_X1⟩
theorem wf_X7_275 : zF RX7 275 1 3 RX1 TX1 6 := ⟨(z_tm 63 (by decide +kernel) (by decide +kernel)), rfl, by decide, inz_X1⟩
theorem wf_X0_9 : zF RX0 9 0 1 RX0 TX0 3 := ⟨(z_tm 143 (by decide +kernel) (by decide +kernel)), rfl, by decide, inz_X0⟩
theorem wf_X0_15 : zF RX0 15 0 2 RX0 TX0 3 := ⟨(z_tm 145 (by decide +kernel) (by decide +kernel)), rfl, by decide, inz_X0⟩
theorem wf_X0_18 : zF RX0 18 0 0 RX0 TX0 3 := ⟨(z_tm 141 (by decide +kernel) (by decide +kernel)), rfl, by decide, inz_X0⟩
theorem wp_X0_18 : zP RX0 18 0 0 RX0 TX0 3 .int := ⟨wf_X0_18, ⟨tyX0, tyX0_ok⟩, nmX0, rfl, by decide +kernel⟩
theorem wf_X1_9 : zF RX1 9 1 1 RX1 TX1 6 := ⟨(z_tm 58 (by decide +kernel) (by decide +kernel)), rfl, by decide, inz_X1⟩
theorem wf_X1_15 : zF RX1 15 1 2 RX1 TX1 6 := ⟨(z_tm 60 (by decide +kernel) (by decide +kernel)), rfl, by decide, inz_X1⟩
theorem wf_X1_18 : zF RX1 18 1 3 RX1 TX1 6 := ⟨(z_tm 62 (by decide +kernel) (by decide +kernel)), rfl, by decide, inz_X1⟩
theorem wf_X1_21 : zF RX1 21 1 4 RX1 TX1 6 := ⟨(z_tm 64 (by decide +kernel) (by decide +kernel)), rfl, by decide, inz_X1⟩
theorem wf_X1_24 : zF RX1 24 1 5 RX1 TX1 6 := ⟨(z_tm 66 (by decide +kernel) (by decide +kernel)), rfl, by decide, inz_X1⟩
theorem wf_X1_27 : zF RX1 27 1 0 RX1 TX1 6 := ⟨(z_tm 56 (by decide +kernel) (by decide +kernel)), rfl, by decide, inz_X1⟩
theorem wp_X1_27 : zP RX1 27 1 0 RX1 TX1 6 .int := ⟨wf_X1_27, ⟨tyX1, tyX1_ok⟩, nmX1, rfl, by decide +kernel⟩
theorem wf_X2_9 : zF RX2 9 2 1 RX2 TX2 6 := ⟨(z_tm 89 (by decide +kernel) (by decide +kernel)), rfl, by decide, inz_X2⟩
theorem wf_X2_15 : zF RX2 15 2 2 RX2 TX2 6 := ⟨(z_tm 91 (by decide +kernel) (by decide +kernel)), rfl, by decide, inz_X2⟩
theorem wf_X2_18 : zF RX2 18 2 3 RX2 TX2 6 := ⟨(z_tm 93 (by decide +kernel) (by decide +kernel)), rfl, by decide, inz_X2⟩
theorem wf_X2_22 : zF RX2 22 2 4 RX2 TX2 6 := ⟨(z_tm 95 (by decide +kernel) (by decide +kernel)), rfl, by decide, inz_X2⟩
theorem wf_X2_25 : zF RX2 25 2 5 RX2 TX2 6 := ⟨(z_tm 97 (by decide +kernel) (by decide +kernel)), rfl, by decide, inz_X2⟩
theorem wf_X2_28 : zF RX2 28 2 0 RX2 TX2 6 := ⟨(z_tm 87 (by decide +kernel) (by decide +kernel)), rfl, by decide, inz_X2⟩
theorem wp_X2_28 : zP RX2 28 2 0 RX2 TX2 6 .int := ⟨wf_X2_28, ⟨tyX2, tyX2_ok⟩, nmX2, rfl, by decide +kernel⟩
theorem wf_X3_9 : zF RX3 9 3 3 RX3 TX3 6 := ⟨(z_tm 32 (by decide +kernel) (by decide +kernel)), rfl, by decide, inz_X3⟩
theorem wf_X3_15 : zF RX3 15 3 4 RX3 TX3 6 := ⟨(z_tm 33 (by decide +kernel) (by decide +kernel)), rfl, by decide, inz_X3⟩
theorem wf_X3_18 : zF RX3 18 3 5 RX3 TX3 6 := ⟨(z_tm 34 (by decide +kernel) (by decide +kernel)), rfl, by decide, inz_X3⟩
theorem wf_X3_21 : zF RX3 21 3 0 RX3 TX3 6 := ⟨(z_tm 26 (by decide +kernel) (by decide +kernel)), rfl, by decide, inz_X3⟩
theorem wp_X3_21 : zP RX3 21 3 0 RX3 TX3 6 .int := ⟨wf_X3_21, ⟨tyX3, tyX3_ok⟩, nmX3, rfl, by decide +kernel⟩
theorem wf_X3_25 : zF RX3 25 3 1 RX3 TX3 6 := ⟨(z_tm 28 (by decide +kernel) (by decide +kernel)), rfl, by decide, inz_X3⟩
theorem wp_X3_25 : zP RX3 25 3 1 RX3 TX3 6 .int := ⟨wf_X3_25, ⟨tyX3, tyX3_ok⟩, nmX3, rfl, by decide +kernel⟩
theorem wf_X3_28 : zF RX3 28 3 2 RX3 TX3 6 := ⟨(z_tm 30 (by decide +kernel) (by decide +kernel)), rfl, by decide, inz_X3⟩
theorem wp_X3_28 : zP RX3 28 3 2 RX3 TX3 6 .int := ⟨wf_X3_28, ⟨tyX3, tyX3_ok⟩, nmX3, rfl, by decide +kernel⟩
theorem wf_X4_9 : zF RX4 9 4 3 RX4 TX4 15 := ⟨(z_tm 166 (by decide +kernel) (by decide +kernel)), rfl, by decide, inz_X4⟩
theorem wp_X4_9 : zP RX4 9 4 3 RX4 TX4 15 .int := ⟨wf_X4_9, ⟨tyX4, tyX4_ok⟩, nmX4, rfl, by decide +kernel⟩
theorem wf_X4_15 : zF RX4 15 4 6 RX4 TX4 15 := ⟨(z_tm 172 (by decide +kernel) (by decide +kernel)), rfl, by decide, inz_X4⟩
theorem wf_X4_19 : zF RX4 19 4 7 RX4 TX4 15 := ⟨(z_tm 174 (by decide +kernel) (by decide +kernel)), rfl, by decide, inz_X4⟩
theorem wf_X4_22 : zF RX4 22 4 8 RX4 TX4 15 := ⟨(z_tm 176 (by decide +kernel) (by decide +kernel)), rfl, by decide, inz_X4⟩
theorem wf_X4_25 : zF RX4 25 4 9 RX4 TX4 15 := ⟨(z_tm 178 (by decide +kernel) (by decide +kernel)), rfl, by decide, inz_X4⟩
theorem wf_X4_29 : zF RX4 29 4 10 RX4 TX4 15 := ⟨(z_tm 180 (by decide +kernel) (by decide +kernel)), rfl, by decide, inz_X4⟩
theorem wf_X4_32 : zF RX4 32 4 11 RX4 TX4 15 := ⟨(z_tm 182 (by decide +kernel) (by decide +kernel)), rfl, by decide, inz_X4⟩
theorem wf_X4_35 : zF RX4 35 4 12 RX4 TX4 15 := ⟨(z_tm 184 (by decide +kernel) (by decide +kernel)), rfl, by decide, inz_X4⟩
theorem wf_X4_38 : zF RX4 38 4 13 RX4 TX4 15 := ⟨(z_tm 186 (by decide +kernel) (by decide +kernel)), rfl, by decide, inz_X4⟩
theorem wf_X4_41 : zF RX4 41 4 14 RX4 TX4 15 := ⟨(z_tm 188 (by decide +kernel) (by decide +kernel)), rfl, by decide, inz_X4⟩
theorem wf_X4_44 : zF RX4 44 4 0 RX4 TX4 15 := ⟨(z_tm 160 (by decide +kernel) (by decide +kernel)), rfl, by decide, inz_X4⟩
theorem wp_X4_44 : zP RX4 44 4 0 RX4 TX4 15 .int := ⟨wf_X4_44, ⟨tyX4, tyX4_ok⟩, nmX4, rfl, by decide +kernel⟩
theorem wf_X4_47 : zF RX4 47 4 1 RX4 TX4 15 := ⟨(z_tm 162 (by decide +kernel) (by decide +kernel)), rfl, by decide, inz_X4⟩
theorem wp_X4_47 : zP RX4 47 4 1 RX4 TX4 15 .int := ⟨wf_X4_47, ⟨tyX4, tyX4_ok⟩, nmX4, rfl, by decide +kernel⟩
theorem wf_X4_63 : zF RX4 63 4 5 RX4 TX4 15 := ⟨(z_tm 170 (by decide +kernel) (by decide +kernel)), rfl, by decide, inz_X4⟩
theorem wp_X4_63 : zP RX4 63 4 5 RX4 TX4 15 .int := ⟨wf_X4_63, ⟨tyX4, tyX4_ok⟩, nmX4, rfl, by decide +kernel⟩
theorem wf_X4_66 : zF RX4 66 4 2 RX4 TX4 15 := ⟨(z_tm 164 (by decide +kernel) (by decide +kernel)), rfl, by decide, inz_X4⟩
theorem wp_X4_66 : zP RX4 66 4 2 RX4 TX4 15 .int := ⟨wf_X4_66, ⟨tyX4, tyX4_ok⟩, nmX4, rfl, by decide +kernel⟩
theorem wf_X4_69 : zF RX4 69 4 4 RX4 TX4 15 := ⟨(z_tm 168 (by decide +kernel) (by decide +kernel)), rfl, by decide, inz_X4⟩
theorem wp_X4_69 : zP RX4 69 4 4 RX4 TX4 15 .int := ⟨wf_X4_69, ⟨tyX4, tyX4_ok⟩, nmX4, rfl, by decide +kernel⟩
theorem wf_X5_11 : zF RX5 11 5 1 RX5 TX5 2 := ⟨(z_tm 232 (by decide +kernel) (by decide +kernel)), rfl, by decide, inz_X5⟩
theorem wf_X5_18 : zF RX5 18 5 0 RX5 TX5 2 := ⟨(z_tm 230 (by decide +kernel) (by decide +kernel)), rfl, by decide, inz_X5⟩
theorem wp_X5_18 : zP RX5 18 5 0 RX5 TX5 2 .int := ⟨wf_X5_18, ⟨tyX5, tyX5_ok⟩, nmX5, rfl, by decide +kernel⟩
theorem wf_X6_9 : zF RX6 9 6 1 RX6 TX6 4 := ⟨(z_tm 120 (by decide +kernel) (by decide +kernel)), rfl, by decide, inz_X6⟩
theorem wf_X6_15 : zF RX6 15 6 2 RX6 TX6 4 := ⟨(z_tm 122 (by decide +kernel) (by decide +kernel)), rfl, by decide, inz_X6⟩
theorem wf_X6_18 : zF RX6 18 6 3 RX6 TX6 4 := ⟨(z_tm 124 (by decide +kernel) (by decide +kernel)), rfl, by decide, inz_X6⟩
theorem wf_X6_22 : zF RX6 22 6 0 RX6 TX6 4 := ⟨(z_tm 118 (by decide +kernel) (by decide +kernel)), rfl, by decide, inz_X6⟩
theorem wp_X6_22 : zP RX6 22 6 0 RX6 TX6 4 .int := ⟨wf_X6_22, ⟨tyX6, tyX6_ok⟩, nmX6, rfl, by decide +kernel⟩
theorem wf_X8_7 : zF RX8 7 8 0 RX8 TX8 32 := ⟨(z_tm 538 (by decide +kernel) (by decide +kernel)), rfl, by decide, inz_X8⟩
theorem wf_X8_13 : zF RX8 13 8 1 RX8 TX8 32 := ⟨(z_tm 539 (by decide +kernel) (by decide +kernel)), rfl, by decide, inz_X8⟩
theorem wf_X8_16 : zF RX8 16 8 3 RX8 TX8 32 := ⟨(z_tm 541 (by decide +kernel) (by decide +kernel)), rfl, by decide, inz_X8⟩
theorem wp_X8_16 : zP RX8 16 8 3 RX8 TX8 32 .int := ⟨wf_X8_16, ⟨tyX8, tyX8_ok⟩, nmX8, rfl, by decide +kernel⟩
theorem wf_X8_20 : zF RX8 20 8 6 RX8 TX8 32 := ⟨(z_tm 544 (by decide +kernel) (by decide +kernel)), rfl, by decide, inz_X8⟩
theorem wf_X8_23 : zF RX8 23 8 7 RX8 TX8 32 := ⟨(z_tm 545 (by decide +kernel) (by decide +kernel)), rfl, by decide, inz_X8⟩
theorem wf_X8_26 : zF RX8 26 8 10 RX8 TX8 32 := ⟨(z_tm 548 (by decide +kernel) (by decide +kernel)), rfl, by decide, inz_X8⟩
theorem wf_X8_29 : zF RX8 29 8 11 RX8 TX8 32 := ⟨(z_tm 549 (by decide +kernel) (by decide +kernel)), rfl, by decide, inz_X8⟩
theorem wf_X8_32 : zF RX8 32 8 12 RX8 TX8 32 := ⟨(z_tm 550 (by decide +kernel) (by decide +kernel)), rfl, by decide, inz_X8⟩
theorem wf_X8_35 : zF RX8 35 8 13 RX8 TX8 32 := ⟨(z_tm 551 (by decide +kernel) (by decide +kernel)), rfl, by decide, inz_X8⟩
theorem wf_X8_38 : zF RX8 38 8 14 RX8 TX8 32 := ⟨(z_tm 552 (by decide +kernel) (by decide +kernel)), rfl, by decide, inz_X8⟩
theorem wf_X8_41 : zF RX8 41 8 16 RX8 TX8 32 := ⟨(z_tm 554 (by decide +kernel) (by decide +kernel)), rfl, by decide, inz_X8⟩
theorem wf_X8_44 : zF RX8 44 8 17 RX8 TX8 32 := ⟨(z_tm 555 (by decide +kernel) (by decide +kernel)), rfl, by decide, inz_X8⟩
theorem wf_X8_47 : zF RX8 47 8 18 RX8 TX8 32 := ⟨(z_tm 556 (by decide +kernel) (by decide +kernel)), rfl, by decide, inz_X8⟩
theorem wf_X8_51 : zF RX8 51 8 20 RX8 TX8 32 := ⟨(z_tm 558 (by decide +kernel) (by decide +kernel)), rfl, by decide, inz_X8⟩
theorem wf_X8_54 : zF RX8 54 8 21 RX8 TX8 32 := ⟨(z_tm 559 (by decide +kernel) (by decide +kernel)), rfl, by decide, inz_X8⟩
theorem wf_X8_57 : zF RX8 57 8 22 RX8 TX8 32 := ⟨(z_tm 560 (by decide +kernel) (by decide +kernel)), rfl, by decide, inz_X8⟩
theorem wf_X8_60 : zF RX8 60 8 24 RX8 TX8 32 := ⟨(z_tm 562 (by decide +kernel) (by decide +kernel)), rfl, by decide, inz_X8⟩
theorem wf_X8_63 : zF RX8 63 8 25 RX8 TX8 32 := ⟨(z_tm 563 (by decide +kernel) (by decide +kernel)), rfl, by decide, inz_X8⟩
theorem wf_X8_66 : zF RX8 66 8 29 RX8 TX8 32 := ⟨(z_tm 567 (by decide +kernel) (by decide +kernel)), rfl, by decide, inz_X8⟩
theorem wf_X8_69 : zF RX8 69 8 30 RX8 TX8 32 := ⟨(z_tm 568 (by decide +kernel) (by decide +kernel)), rfl, by decide, inz_X8⟩
theorem wf_X8_72 : zF RX8 72 8 31 RX8 TX8 32 := ⟨(z_tm 569 (by decide +kernel) (by decide +kernel)), rfl, by decide, inz_X8⟩
theorem wf_X8_75 : zF RX8 75 8 2 RX8 TX8 32 := ⟨(z_tm 540 (by decide +kernel) (by decide +kernel)), rfl, by decide, inz_X8⟩
theorem wp_X8_75 : zP RX8 75 8 2 RX8 TX8 32 .int := ⟨wf_X8_75, ⟨tyX8, tyX8_ok⟩, nmX8, rfl, by decide +kernel⟩
theorem wf_X8_82 : zF RX8 82 8 4 RX8 TX8 32 := ⟨(z_tm 542 (by decide +kernel) (by decide +kernel)), rfl, by decide, inz_X8⟩
theorem wp_X8_82 : zP RX8 82 8 4 RX8 TX8 32 .int := ⟨wf_X8_82, ⟨tyX8, tyX8_ok⟩, nmX8, rfl, by decide +kernel⟩
theorem wf_X8_93 : zF RX8 93 8 5 RX8 TX8 32 := ⟨(z_tm 543 (by decide +kernel) (by decide +kernel)), rfl, by decide, inz_X8⟩
theorem wp_X8_93 : zP RX8 93 8 5 RX8 TX8 32 .int := ⟨wf_X8_93, ⟨tyX8, tyX8_ok⟩, nmX8, rfl, by decide +kernel⟩
theorem wf_X8_96 : zF RX8 96 8 8 RX8 TX8 32 := ⟨(z_tm 546 (by decide +kernel) (by decide +kernel)), rfl, by decide, inz_X8⟩
theorem wp_X8_96 : zP RX8 96 8 8 RX8 TX8 32 .int := ⟨wf_X8_96, ⟨tyX8, tyX8_ok⟩, nmX8, rfl, by decide +kernel⟩
theorem wf_X8_99 : zF RX8 99 8 9 RX8 TX8 32 := ⟨(z_tm 547 (by decide +kernel) (by decide +kernel)), rfl, by decide, inz_X8⟩
theorem wp_X8_99 : zP RX8 99 8 9 RX8 TX8 32 .int := ⟨wf_X8_99, ⟨tyX8, tyX8_ok⟩, nmX8, rfl, by decide +kernel⟩
theorem wf_X8_102 : zF RX8 102 8 15 RX8 TX8 32 := ⟨(z_tm 553 (by decide +kernel) (by decide +kernel)), rfl, by decide, inz_X8⟩
theorem wp_X8_102 : zP RX8 102 8 15 RX8 TX8 32 .int := ⟨wf_X8_102, ⟨tyX8, tyX8_ok⟩, nmX8, rfl, by decide +kernel⟩
theorem wf_X8_105 : zF RX8 105 8 19 RX8 TX8 32 := ⟨(z_tm 557 (by decide +kernel) (by decide +kernel)), rfl, by decide, inz_X8⟩
theorem wp_X8_105 : zP RX8 105 8 19 RX8 TX8 32 .int := ⟨wf_X8_105, ⟨tyX8, tyX8_ok⟩, nmX8, rfl, by decide +kernel⟩
theorem wf_X8_108 : zF RX8 108 8 23 RX8 TX8 32 := ⟨(z_tm 561 (by decide +kernel) (by decide +kernel)), rfl, by decide, inz_X8⟩
theorem wp_X8_108 : zP RX8 108 8 23 RX8 TX8 32 .int := ⟨wf_X8_108, ⟨tyX8, tyX8_ok⟩, nmX8, rfl, by decide +kernel⟩
theorem wf_X8_119 : zF RX8 119 8 26 RX8 TX8 32 := ⟨(z_tm 564 (by decide +kernel) (by decide +kernel)), rfl, by decide, inz_X8⟩
theorem wp_X8_119 : zP RX8 119 8 26 RX8 TX8 32 .boolean := ⟨wf_X8_119, ⟨tyX8, tyX8_ok⟩, nmX8, rfl, by decide +kernel⟩
theorem wf_X8_123 : zF RX8 123 8 27 RX8 TX8 32 := ⟨(z_tm 565 (by decide +kernel) (by decide +kernel)), rfl, by decide, inz_X8⟩
theorem wp_X8_123 : zP RX8 123 8 27 RX8 TX8 32 .boolean := ⟨wf_X8_123, ⟨tyX8, tyX8_ok⟩, nmX8, rfl, by decide +kernel⟩
theorem wf_X8_130 : zF RX8 130 8 28 RX8 TX8 32 := ⟨(z_tm 566 (by decide +kernel) (by decide +kernel)), rfl, by decide, inz_X8⟩
theorem wp_X8_130 : zP RX8 130 8 28 RX8 TX8 32 .int := ⟨wf_X8_130, ⟨tyX8, tyX8_ok⟩, nmX8, rfl, by decide +kernel⟩
theorem yy_X0_addDaemon : zY yX0_addDaemon cX0_addDaemon 3 (some .int) RX0 2 := ⟨(z_tm 339 (by decide +kernel) (by decide +kernel)), (z_tm 340 (by decide +kernel) (by decide +kernel)), (z_tm 6 (by decide +kernel) (by decide +kernel)), (z_tm 341 (by decide +kernel) (by decide +kernel)), rfl, by decide, by decide, by decide +kernel⟩
theorem yy_X1_addDeed : zY yX1_addDeed cX1_addDeed 4 (some .int) RX1 3 := ⟨(z_tm 311 (by decide +kernel) (by decide +kernel)), (z_tm 312 (by decide +kernel) (by decide +kernel)), (z_tm 3 (by decide +kernel) (by decide +kernel)), (z_tm 313 (by decide +kernel) (by decide +kernel)), rfl, by decide, by decide, by decide +kernel⟩
theorem yy_X2_addEvent : zY yX2_addEvent cX2_addEvent 4 (some .int) RX2 3 := ⟨(z_tm 323 (by decide +kernel) (by decide +kernel)), (z_tm 324 (by decide +kernel) (by decide +kernel)), (z_tm 4 (by decide +kernel) (by decide +kernel)), (z_tm 325 (by decide +kernel) (by decide +kernel)), rfl, by decide, by decide, by decide +kernel⟩
theorem yy_X2_putInOrder : zY yX2_putInOrder cX2_putInOrder 5 none RX2 3 := ⟨(z_tm 425 (by decide +kernel) (by decide +kernel)), (z_tm 426 (by decide +kernel) (by decide +kernel)), (z_tm 4 (by decide +kernel) (by decide +kernel)), (z_tm 427 (by decide +kernel) (by decide +kernel)), rfl, by decide, by decide, by decide +kernel⟩
theorem yy_X3_addDoor : zY yX3_addDoor cX3_addDoor 3 (some .int) RX3 2 := ⟨(z_tm 286 (by decide +kernel) (by decide +kernel)), (z_tm 287 (by decide +kernel) (by decide +kernel)), (z_tm 2 (by decide +kernel) (by decide +kernel)), (z_tm 288 (by decide +kernel) (by decide +kernel)), rfl, by decide, by decide, by decide +kernel⟩
theorem yy_X3_addRoom : zY yX3_addRoom cX3_addRoom 1 (some .int) RX3 0 := ⟨(z_tm 271 (by decide +kernel) (by decide +kernel)), (z_tm 272 (by decide +kernel) (by decide +kernel)), (z_tm 2 (by decide +kernel) (by decide +kernel)), (z_tm 273 (by decide +kernel) (by decide +kernel)), rfl, by decide, by decide, by decide +kernel⟩
theorem yy_X3_addWalker : zY yX3_addWalker cX3_addWalker 1 (some .int) RX3 0 := ⟨(z_tm 294 (by decide +kernel) (by decide +kernel)), (z_tm 295 (by decide +kernel) (by decide +kernel)), (z_tm 2 (by decide +kernel) (by decide +kernel)), (z_tm 296 (by decide +kernel) (by decide +kernel)), rfl, by decide, by decide, by decide +kernel⟩
theorem yy_X3_beyondDoor : zY yX3_beyondDoor cX3_beyondDoor 3 (some .int) RX3 2 := ⟨(z_tm 478 (by decide +kernel) (by decide +kernel)), (z_pm 20 (by decide +kernel) (by decide +kernel)), (z_tm 2 (by decide +kernel) (by decide +kernel)), (z_tm 479 (by decide +kernel) (by decide +kernel)), rfl, by decide, by decide, by decide +kernel⟩
theorem yy_X3_isNearer : zY yX3_isNearer cX3_isNearer 3 (some .boolean) RX3 2 := ⟨(z_tm 482 (by decide +kernel) (by decide +kernel)), (z_pm 21 (by decide +kernel) (by decide +kernel)), (z_tm 2 (by decide +kernel) (by decide +kernel)), (z_tm 483 (by decide +kernel) (by decide +kernel)), rfl, by decide, by decide, by decide +kernel⟩
theorem yy_X3_measureTo : zY yX3_measureTo cX3_measureTo 5 none RX3 2 := ⟨(z_tm 469 (by decide +kernel) (by decide +kernel)), (z_tm 470 (by decide +kernel) (by decide +kernel)), (z_tm 2 (by decide +kernel) (by decide +kernel)), (z_tm 471 (by decide +kernel) (by decide +kernel)), rfl, by decide, by decide, by decide +kernel⟩
theorem yy_X3_nextRoom : zY yX3_nextRoom cX3_nextRoom 7 (some .int) RX3 3 := ⟨(z_tm 465 (by decide +kernel) (by decide +kernel)), (z_tm 466 (by decide +kernel) (by decide +kernel)), (z_tm 2 (by decide +kernel) (by decide +kernel)), (z_tm 467 (by decide +kernel) (by decide +kernel)), rfl, by decide, by decide, by decide +kernel⟩
theorem yy_X3_spread : zY yX3_spread cX3_spread 4 none RX3 3 := ⟨(z_tm 474 (by decide +kernel) (by decide +kernel)), (z_pm 19 (by decide +kernel) (by decide +kernel)), (z_tm 2 (by decide +kernel) (by decide +kernel)), (z_tm 475 (by decide +kernel) (by decide +kernel)), rfl, by decide, by decide, by decide +kernel⟩
theorem yy_X4_addRow : zY yX4_addRow cX4_addRow 3 none RX4 2 := ⟨(z_tm 437 (by decide +kernel) (by decide +kernel)), (z_tm 438 (by decide +kernel) (by decide +kernel)), (z_tm 7 (by decide +kernel) (by decide +kernel)), (z_tm 439 (by decide +kernel) (by decide +kernel)), rfl, by decide, by decide, by decide +kernel⟩
theorem yy_X4_copyFlags : zYs yX4_copyFlags cX4_copyFlags 3 none 2 := ⟨(z_tm 410 (by decide +kernel) (by decide +kernel)), (z_tm 7 (by decide +kernel) (by decide +kernel)), (z_tm 411 (by decide +kernel) (by decide +kernel)), by decide, by decide, by decide +kernel⟩
theorem yy_X4_copyFrom : zY yX4_copyFrom cX4_copyFrom 2 none RX4 1 := ⟨(z_tm 403 (by decide +kernel) (by decide +kernel)), (z_tm 404 (by decide +kernel) (by decide +kernel)), (z_tm 7 (by decide +kernel) (by decide +kernel)), (z_tm 405 (by decide +kernel) (by decide +kernel)), rfl, by decide, by decide, by decide +kernel⟩
theorem yy_X4_goOn : zY yX4_goOn cX4_goOn 2 none RX4 1 := ⟨(z_tm 429 (by decide +kernel) (by decide +kernel)), (z_tm 430 (by decide +kernel) (by decide +kernel)), (z_tm 7 (by decide +kernel) (by decide +kernel)), (z_tm 431 (by decide +kernel) (by decide +kernel)), rfl, by decide, by decide, by decide +kernel⟩
theorem yy_X4_growCounter : zY yX4_growCounter cX4_growCounter 3 none RX4 2 := ⟨(z_tm 355 (by decide +kernel) (by decide +kernel)), (z_tm 356 (by decide +kernel) (by decide +kernel)), (z_tm 7 (by decide +kernel) (by decide +kernel)), (z_tm 357 (by decide +kernel) (by decide +kernel)), rfl, by decide, by decide, by decide +kernel⟩
theorem yy_X5_dropOldest : zY yX5_dropOldest cX5_dropOldest 3 none RX5 0 := ⟨(z_tm 400 (by decide +kernel) (by decide +kernel)), (z_pm 8 (by decide +kernel) (by decide +kernel)), (z_tm 8 (by decide +kernel) (by decide +kernel)), (z_tm 401 (by decide +kernel) (by decide +kernel)), rfl, by decide, by decide, by decide +kernel⟩
theorem yy_X5_giveBack : zY yX5_giveBack cX5_giveBack 2 none RX5 1 := ⟨(z_tm 489 (by decide +kernel) (by decide +kernel)), (z_tm 490 (by decide +kernel) (by decide +kernel)), (z_tm 8 (by decide +kernel) (by decide +kernel)), (z_tm 491 (by decide +kernel) (by decide +kernel)), rfl, by decide, by decide, by decide +kernel⟩
theorem yy_X5_keep : zY yX5_keep cX5_keep 2 none RX5 1 := ⟨(z_tm 395 (by decide +kernel) (by decide +kernel)), (z_tm 396 (by decide +kernel) (by decide +kernel)), (z_tm 8 (by decide +kernel) (by decide +kernel)), (z_tm 397 (by decide +kernel) (by decide +kernel)), rfl, by decide, by decide, by decide +kernel⟩
theorem yy_X6_addTimer : zY yX6_addTimer cX6_addTimer 4 (some .int) RX6 3 := ⟨(z_tm 331 (by decide +kernel) (by decide +kernel)), (z_tm 332 (by decide +kernel) (by decide +kernel)), (z_tm 5 (by decide +kernel) (by decide +kernel)), (z_tm 333 (by decide +kernel) (by decide +kernel)), rfl, by decide, by decide, by decide +kernel⟩
theorem yy_X7_act : zY yX7_act cX7_act 2 (some .int) RX7 1 := ⟨(z_tm 343 (by decide +kernel) (by decide +kernel)), (z_tm 344 (by decide +kernel) (by decide +kernel)), (z_tm 1 (by decide +kernel) (by decide +kernel)), (z_tm 345 (by decide +kernel) (by decide +kernel)), rfl, by decide, by decide, by decide +kernel⟩
theorem yy_X7_asNumber : zYs yX7_asNumber cX7_asNumber 1 (some .int) 1 := ⟨(z_tm 513 (by decide +kernel) (by decide +kernel)), (z_tm 1 (by decide +kernel) (by decide +kernel)), (z_tm 514 (by decide +kernel) (by decide +kernel)), by decide, by decide, by decide +kernel⟩
theorem yy_X7_back : zY yX7_back cX7_back 1 (some .int) RX7 0 := ⟨(z_tm 485 (by decide +kernel) (by decide +kernel)), (z_tm 486 (by decide +kernel) (by decide +kernel)), (z_tm 1 (by decide +kernel) (by decide +kernel)), (z_tm 487 (by decide +kernel) (by decide +kernel)), rfl, by decide, by decide, by decide +kernel⟩
theorem yy_X7_bringEvent : zY yX7_bringEvent cX7_bringEvent 2 none RX7 1 := ⟨(z_tm 434 (by decide +kernel) (by decide +kernel)), (z_pm 12 (by decide +kernel) (by decide +kernel)), (z_tm 1 (by decide +kernel) (by decide +kernel)), (z_tm 435 (by decide +kernel) (by decide +kernel)), rfl, by decide, by decide, by decide +kernel⟩
theorem yy_X7_bringEvents : zY yX7_bringEvents cX7_bringEvents 4 none RX7 0 := ⟨(z_tm 414 (by decide +kernel) (by decide +kernel)), (z_pm 9 (by decide +kernel) (by decide +kernel)), (z_tm 1 (by decide +kernel) (by decide +kernel)), (z_tm 415 (by decide +kernel) (by decide +kernel)), rfl, by decide, by decide, by decide +kernel⟩
theorem yy_X7_carryOut : zY yX7_carryOut cX7_carryOut 4 none RX7 3 := ⟨(z_tm 352 (by decide +kernel) (by decide +kernel)), (z_pm 2 (by decide +kernel) (by decide +kernel)), (z_tm 1 (by decide +kernel) (by decide +kernel)), (z_tm 353 (by decide +kernel) (by decide +kernel)), rfl, by decide, by decide, by decide +kernel⟩
theorem yy_X7_closePast : zY yX7_closePast cX7_closePast 2 (some .int) RX7 1 := ⟨(z_tm 276 (by decide +kernel) (by decide +kernel)), (z_pm 0 (by decide +kernel) (by decide +kernel)), (z_tm 1 (by decide +kernel) (by decide +kernel)), (z_tm 277 (by decide +kernel) (by decide +kernel)), rfl, by decide, by decide, by decide +kernel⟩
theorem yy_X7_condition : zY yX7_condition cX7_condition 4 (some .int) RX7 3 := ⟨(z_tm 315 (by decide +kernel) (by decide +kernel)), (z_tm 316 (by decide +kernel) (by decide +kernel)), (z_tm 1 (by decide +kernel) (by decide +kernel)), (z_tm 317 (by decide +kernel) (by decide +kernel)), rfl, by decide, by decide, by decide +kernel⟩
theorem yy_X7_count : zY yX7_count cX7_count 2 (some .int) RX7 1 := ⟨(z_tm 497 (by decide +kernel) (by decide +kernel)), (z_tm 498 (by decide +kernel) (by decide +kernel)), (z_tm 1 (by decide +kernel) (by decide +kernel)), (z_tm 499 (by decide +kernel) (by decide +kernel)), rfl, by decide, by decide, by decide +kernel⟩
theorem yy_X7_counter : zY yX7_counter cX7_counter 2 (some .int) RX7 1 := ⟨(z_tm 501 (by decide +kernel) (by decide +kernel)), (z_tm 502 (by decide +kernel) (by decide +kernel)), (z_tm 1 (by decide +kernel) (by decide +kernel)), (z_tm 503 (by decide +kernel) (by decide +kernel)), rfl, by decide, by decide, by decide +kernel⟩
theorem yy_X7_daemon : zY yX7_daemon cX7_daemon 3 (some .int) RX7 2 := ⟨(z_tm 335 (by decide +kernel) (by decide +kernel)), (z_tm 336 (by decide +kernel) (by decide +kernel)), (z_tm 1 (by decide +kernel) (by decide +kernel)), (z_tm 337 (by decide +kernel) (by decide +kernel)), rfl, by decide, by decide, by decide +kernel⟩
theorem yy_X7_deed : zY yX7_deed cX7_deed 4 (some .int) RX7 3 := ⟨(z_tm 298 (by decide +kernel) (by decide +kernel)), (z_tm 299 (by decide +kernel) (by decide +kernel)), (z_tm 1 (by decide +kernel) (by decide +kernel)), (z_tm 300 (by decide +kernel) (by decide +kernel)), rfl, by decide, by decide, by decide +kernel⟩
theorem yy_X7_doDeed : zY yX7_doDeed cX7_doDeed 3 (some .boolean) RX7 1 := ⟨(z_tm 348 (by decide +kernel) (by decide +kernel)), (z_pm 1 (by decide +kernel) (by decide +kernel)), (z_tm 1 (by decide +kernel) (by decide +kernel)), (z_tm 349 (by decide +kernel) (by decide +kernel)), rfl, by decide, by decide, by decide +kernel⟩
theorem yy_X7_door : zY yX7_door cX7_door 3 (some .int) RX7 2 := ⟨(z_tm 279 (by decide +kernel) (by decide +kernel)), (z_tm 280 (by decide +kernel) (by decide +kernel)), (z_tm 1 (by decide +kernel) (by decide +kernel)), (z_tm 281 (by decide +kernel) (by decide +kernel)), rfl, by decide, by decide, by decide +kernel⟩
theorem yy_X7_event : zY yX7_event cX7_event 4 (some .int) RX7 3 := ⟨(z_tm 319 (by decide +kernel) (by decide +kernel)), (z_tm 320 (by decide +kernel) (by decide +kernel)), (z_tm 1 (by decide +kernel) (by decide +kernel)), (z_tm 321 (by decide +kernel) (by decide +kernel)), rfl, by decide, by decide, by decide +kernel⟩
theorem yy_X7_giveGoal : zY yX7_giveGoal cX7_giveGoal 3 none RX7 2 := ⟨(z_tm 383 (by decide +kernel) (by decide +kernel)), (z_pm 7 (by decide +kernel) (by decide +kernel)), (z_tm 1 (by decide +kernel) (by decide +kernel)), (z_tm 384 (by decide +kernel) (by decide +kernel)), rfl, by decide, by decide, by decide +kernel⟩
theorem yy_X7_is : zY yX7_is cX7_is 3 (some .int) RX7 2 := ⟨(z_tm 509 (by decide +kernel) (by decide +kernel)), (z_tm 510 (by decide +kernel) (by decide +kernel)), (z_tm 1 (by decide +kernel) (by decide +kernel)), (z_tm 511 (by decide +kernel) (by decide +kernel)), rfl, by decide, by decide, by decide +kernel⟩
theorem yy_X7_isCounter : zYs yX7_isCounter cX7_isCounter 1 (some .boolean) 1 := ⟨(z_tm 305 (by decide +kernel) (by decide +kernel)), (z_tm 1 (by decide +kernel) (by decide +kernel)), (z_tm 306 (by decide +kernel) (by decide +kernel)), by decide, by decide, by decide +kernel⟩
theorem yy_X7_isCounterValue : zYs yX7_isCounterValue cX7_isCounterValue 1 (some .boolean) 1 := ⟨(z_tm 308 (by decide +kernel) (by decide +kernel)), (z_tm 1 (by decide +kernel) (by decide +kernel)), (z_tm 309 (by decide +kernel) (by decide +kernel)), by decide, by decide, by decide +kernel⟩
theorem yy_X7_isThere : zYs yX7_isThere cX7_isThere 2 (some .boolean) 2 := ⟨(z_tm 283 (by decide +kernel) (by decide +kernel)), (z_tm 1 (by decide +kernel) (by decide +kernel)), (z_tm 284 (by decide +kernel) (by decide +kernel)), by decide, by decide, by decide +kernel⟩
theorem yy_X7_isWithin : zYs yX7_isWithin cX7_isWithin 3 (some .boolean) 3 := ⟨(z_tm 302 (by decide +kernel) (by decide +kernel)), (z_tm 1 (by decide +kernel) (by decide +kernel)), (z_tm 303 (by decide +kernel) (by decide +kernel)), by decide, by decide, by decide +kernel⟩
theorem yy_X7_left : zY yX7_left cX7_left 2 (some .int) RX7 1 := ⟨(z_tm 505 (by decide +kernel) (by decide +kernel)), (z_tm 506 (by decide +kernel) (by decide +kernel)), (z_tm 1 (by decide +kernel) (by decide +kernel)), (z_tm 507 (by decide +kernel) (by decide +kernel)), rfl, by decide, by decide, by decide +kernel⟩
theorem yy_X7_lineUpEvents : zY yX7_lineUpEvents cX7_lineUpEvents 5 (some .int) RX7 1 := ⟨(z_tm 418 (by decide +kernel) (by decide +kernel)), (z_pm 10 (by decide +kernel) (by decide +kernel)), (z_tm 1 (by decide +kernel) (by decide +kernel)), (z_tm 419 (by decide +kernel) (by decide +kernel)), rfl, by decide, by decide, by decide +kernel⟩
theorem yy_X7_minutes : zY yX7_minutes cX7_minutes 2 (some .int) RX7 1 := ⟨(z_tm 529 (by decide +kernel) (by decide +kernel)), (z_tm 530 (by decide +kernel) (by decide +kernel)), (z_tm 1 (by decide +kernel) (by decide +kernel)), (z_tm 531 (by decide +kernel) (by decide +kernel)), rfl, by decide, by decide, by decide +kernel⟩
theorem yy_X7_minutesUntil : zY yX7_minutesUntil cX7_minutesUntil 3 (some .int) RX7 1 := ⟨(z_tm 422 (by decide +kernel) (by decide +kernel)), (z_pm 11 (by decide +kernel) (by decide +kernel)), (z_tm 1 (by decide +kernel) (by decide +kernel)), (z_tm 423 (by decide +kernel) (by decide +kernel)), rfl, by decide, by decide, by decide +kernel⟩
theorem yy_X7_moveWalker : zY yX7_moveWalker cX7_moveWalker 3 none RX7 1 := ⟨(z_tm 462 (by decide +kernel) (by decide +kernel)), (z_pm 18 (by decide +kernel) (by decide +kernel)), (z_tm 1 (by decide +kernel) (by decide +kernel)), (z_tm 463 (by decide +kernel) (by decide +kernel)), rfl, by decide, by decide, by decide +kernel⟩
theorem yy_X7_moveWalkers : zY yX7_moveWalkers cX7_moveWalkers 2 none RX7 0 := ⟨(z_tm 458 (by decide +kernel) (by decide +kernel)), (z_pm 17 (by decide +kernel) (by decide +kernel)), (z_tm 1 (by decide +kernel) (by decide +kernel)), (z_tm 459 (by decide +kernel) (by decide +kernel)), rfl, by decide, by decide, by decide +kernel⟩
theorem yy_X7_pace : zY yX7_pace cX7_pace 3 (some .int) RX7 1 := ⟨(z_tm 387 (by decide +kernel) (by decide +kernel)), (z_tm 388 (by decide +kernel) (by decide +kernel)), (z_tm 1 (by decide +kernel) (by decide +kernel)), (z_tm 389 (by decide +kernel) (by decide +kernel)), rfl, by decide, by decide, by decide +kernel⟩
theorem yy_X7_room : zY yX7_room cX7_room 1 (some .int) RX7 0 := ⟨(z_tm 267 (by decide +kernel) (by decide +kernel)), (z_tm 268 (by decide +kernel) (by decide +kernel)), (z_tm 1 (by decide +kernel) (by decide +kernel)), (z_tm 269 (by decide +kernel) (by decide +kernel)), rfl, by decide, by decide, by decide +kernel⟩
theorem yy_X7_row : zY yX7_row cX7_row 3 (some .int) RX7 2 := ⟨(z_tm 525 (by decide +kernel) (by decide +kernel)), (z_tm 526 (by decide +kernel) (by decide +kernel)), (z_tm 1 (by decide +kernel) (by decide +kernel)), (z_tm 527 (by decide +kernel) (by decide +kernel)), rfl, by decide, by decide, by decide +kernel⟩
theorem yy_X7_runDaemons : zY yX7_runDaemons cX7_runDaemons 2 none RX7 0 := ⟨(z_tm 450 (by decide +kernel) (by decide +kernel)), (z_pm 15 (by decide +kernel) (by decide +kernel)), (z_tm 1 (by decide +kernel) (by decide +kernel)), (z_tm 451 (by decide +kernel) (by decide +kernel)), rfl, by decide, by decide, by decide +kernel⟩
theorem yy_X7_runDaemonsOf : zY yX7_runDaemonsOf cX7_runDaemonsOf 3 none RX7 1 := ⟨(z_tm 454 (by decide +kernel) (by decide +kernel)), (z_pm 16 (by decide +kernel) (by decide +kernel)), (z_tm 1 (by decide +kernel) (by decide +kernel)), (z_tm 455 (by decide +kernel) (by decide +kernel)), rfl, by decide, by decide, by decide +kernel⟩
theorem yy_X7_runTimer : zY yX7_runTimer cX7_runTimer 2 none RX7 1 := ⟨(z_tm 446 (by decide +kernel) (by decide +kernel)), (z_pm 14 (by decide +kernel) (by decide +kernel)), (z_tm 1 (by decide +kernel) (by decide +kernel)), (z_tm 447 (by decide +kernel) (by decide +kernel)), rfl, by decide, by decide, by decide +kernel⟩
theorem yy_X7_runTimers : zY yX7_runTimers cX7_runTimers 2 none RX7 0 := ⟨(z_tm 442 (by decide +kernel) (by decide +kernel)), (z_pm 13 (by decide +kernel) (by decide +kernel)), (z_tm 1 (by decide +kernel) (by decide +kernel)), (z_tm 443 (by decide +kernel) (by decide +kernel)), rfl, by decide, by decide, by decide +kernel⟩
theorem yy_X7_startTimer : zY yX7_startTimer cX7_startTimer 2 none RX7 1 := ⟨(z_tm 367 (by decide +kernel) (by decide +kernel)), (z_pm 3 (by decide +kernel) (by decide +kernel)), (z_tm 1 (by decide +kernel) (by decide +kernel)), (z_tm 368 (by decide +kernel) (by decide +kernel)), rfl, by decide, by decide, by decide +kernel⟩
theorem yy_X7_stopTimer : zY yX7_stopTimer cX7_stopTimer 2 none RX7 1 := ⟨(z_tm 371 (by decide +kernel) (by decide +kernel)), (z_pm 4 (by decide +kernel) (by decide +kernel)), (z_tm 1 (by decide +kernel) (by decide +kernel)), (z_tm 372 (by decide +kernel) (by decide +kernel)), rfl, by decide, by decide, by decide +kernel⟩
theorem yy_X7_switchDaemon : zY yX7_switchDaemon cX7_switchDaemon 3 none RX7 2 := ⟨(z_tm 375 (by decide +kernel) (by decide +kernel)), (z_pm 5 (by decide +kernel) (by decide +kernel)), (z_tm 1 (by decide +kernel) (by decide +kernel)), (z_tm 376 (by decide +kernel) (by decide +kernel)), rfl, by decide, by decide, by decide +kernel⟩
theorem yy_X7_timer : zY yX7_timer cX7_timer 4 (some .int) RX7 3 := ⟨(z_tm 327 (by decide +kernel) (by decide +kernel)), (z_tm 328 (by decide +kernel) (by decide +kernel)), (z_tm 1 (by decide +kernel) (by decide +kernel)), (z_tm 329 (by decide +kernel) (by decide +kernel)), rfl, by decide, by decide, by decide +kernel⟩
theorem yy_X7_told : zY yX7_told cX7_told 2 (some .int) RX7 1 := ⟨(z_tm 493 (by decide +kernel) (by decide +kernel)), (z_tm 494 (by decide +kernel) (by decide +kernel)), (z_tm 1 (by decide +kernel) (by decide +kernel)), (z_tm 495 (by decide +kernel) (by decide +kernel)), rfl, by decide, by decide, by decide +kernel⟩
theorem yy_X7_turn : zY yX7_turn cX7_turn 1 (some .int) RX7 0 := ⟨(z_tm 391 (by decide +kernel) (by decide +kernel)), (z_tm 392 (by decide +kernel) (by decide +kernel)), (z_tm 1 (by decide +kernel) (by decide +kernel)), (z_tm 393 (by decide +kernel) (by decide +kernel)), rfl, by decide, by decide, by decide +kernel⟩
theorem yy_X7_turnDoor : zY yX7_turnDoor cX7_turnDoor 2 none RX7 1 := ⟨(z_tm 379 (by decide +kernel) (by decide +kernel)), (z_pm 6 (by decide +kernel) (by decide +kernel)), (z_tm 1 (by decide +kernel) (by decide +kernel)), (z_tm 380 (by decide +kernel) (by decide +kernel)), rfl, by decide, by decide, by decide +kernel⟩
theorem yy_X7_walker : zY yX7_walker cX7_walker 3 (some .int) RX7 1 := ⟨(z_tm 290 (by decide +kernel) (by decide +kernel)), (z_tm 291 (by decide +kernel) (by decide +kernel)), (z_tm 1 (by decide +kernel) (by decide +kernel)), (z_tm 292 (by decide +kernel) (by decide +kernel)), rfl, by decide, by decide, by decide +kernel⟩
theorem yy_X7_walks : zY yX7_walks cX7_walks 3 (some .int) RX7 2 := ⟨(z_tm 516 (by decide +kernel) (by decide +kernel)), (z_tm 517 (by decide +kernel) (by decide +kernel)), (z_tm 1 (by decide +kernel) (by decide +kernel)), (z_tm 518 (by decide +kernel) (by decide +kernel)), rfl, by decide, by decide, by decide +kernel⟩
theorem yy_X7_way : zY yX7_way cX7_way 3 (some .int) RX7 2 := ⟨(z_tm 520 (by decide +kernel) (by decide +kernel)), (z_tm 521 (by decide +kernel) (by decide +kernel)), (z_tm 1 (by decide +kernel) (by decide +kernel)), (z_tm 522 (by decide +kernel) (by decide +kernel)), rfl, by decide, by decide, by decide +kernel⟩
theorem yy_X8_act : zY yX8_act cX8_act 3 (some .int) RX8 1 := ⟨(z_tm 678 (by decide +kernel) (by decide +kernel)), (z_tm 679 (by decide +kernel) (by decide +kernel)), (z_tm 9 (by decide +kernel) (by decide +kernel)), (z_tm 680 (by decide +kernel) (by decide +kernel)), rfl, by decide, by decide, by decide +kernel⟩
theorem yy_X8_back : zY yX8_back cX8_back 2 (some .int) RX8 0 := ⟨(z_tm 733 (by decide +kernel) (by decide +kernel)), (z_tm 734 (by decide +kernel) (by decide +kernel)), (z_tm 9 (by decide +kernel) (by decide +kernel)), (z_tm 735 (by decide +kernel) (by decide +kernel)), rfl, by decide, by decide, by decide +kernel⟩
theorem yy_X8_bound : zYs yX8_bound cX8_bound 3 (some .int) 3 := ⟨(z_tm 690 (by decide +kernel) (by decide +kernel)), (z_tm 9 (by decide +kernel) (by decide +kernel)), (z_tm 691 (by decide +kernel) (by decide +kernel)), by decide, by decide, by decide +kernel⟩
theorem yy_X8_changed : zY yX8_changed cX8_changed 2 (some .int) RX8 1 := ⟨(z_tm 641 (by decide +kernel) (by decide +kernel)), (z_pm 22 (by decide +kernel) (by decide +kernel)), (z_tm 9 (by decide +kernel) (by decide +kernel)), (z_tm 642 (by decide +kernel) (by decide +kernel)), rfl, by decide, by decide, by decide +kernel⟩
theorem yy_X8_condition : zY yX8_condition cX8_condition 4 (some .int) RX8 3 := ⟨(z_tm 662 (by decide +kernel) (by decide +kernel)), (z_tm 663 (by decide +kernel) (by decide +kernel)), (z_tm 9 (by decide +kernel) (by decide +kernel)), (z_tm 664 (by decide +kernel) (by decide +kernel)), rfl, by decide, by decide, by decide +kernel⟩
theorem yy_X8_count : zY yX8_count cX8_count 2 (some .int) RX8 1 := ⟨(z_tm 741 (by decide +kernel) (by decide +kernel)), (z_tm 742 (by decide +kernel) (by decide +kernel)), (z_tm 9 (by decide +kernel) (by decide +kernel)), (z_tm 743 (by decide +kernel) (by decide +kernel)), rfl, by decide, by decide, by decide +kernel⟩
theorem yy_X8_counter : zY yX8_counter cX8_counter 2 (some .int) RX8 1 := ⟨(z_tm 745 (by decide +kernel) (by decide +kernel)), (z_tm 746 (by decide +kernel) (by decide +kernel)), (z_tm 9 (by decide +kernel) (by decide +kernel)), (z_tm 747 (by decide +kernel) (by decide +kernel)), rfl, by decide, by decide, by decide +kernel⟩
theorem yy_X8_daemon : zY yX8_daemon cX8_daemon 3 (some .int) RX8 2 := ⟨(z_tm 674 (by decide +kernel) (by decide +kernel)), (z_tm 675 (by decide +kernel) (by decide +kernel)), (z_tm 9 (by decide +kernel) (by decide +kernel)), (z_tm 676 (by decide +kernel) (by decide +kernel)), rfl, by decide, by decide, by decide +kernel⟩
theorem yy_X8_deed : zY yX8_deed cX8_deed 5 (some .int) RX8 3 := ⟨(z_tm 658 (by decide +kernel) (by decide +kernel)), (z_tm 659 (by decide +kernel) (by decide +kernel)), (z_tm 9 (by decide +kernel) (by decide +kernel)), (z_tm 660 (by decide +kernel) (by decide +kernel)), rfl, by decide, by decide, by decide +kernel⟩
theorem yy_X8_door : zY yX8_door cX8_door 3 (some .int) RX8 2 := ⟨(z_tm 644 (by decide +kernel) (by decide +kernel)), (z_tm 645 (by decide +kernel) (by decide +kernel)), (z_tm 9 (by decide +kernel) (by decide +kernel)), (z_tm 646 (by decide +kernel) (by decide +kernel)), rfl, by decide, by decide, by decide +kernel⟩
theorem yy_X8_event : zY yX8_event cX8_event 4 (some .int) RX8 3 := ⟨(z_tm 666 (by decide +kernel) (by decide +kernel)), (z_tm 667 (by decide +kernel) (by decide +kernel)), (z_tm 9 (by decide +kernel) (by decide +kernel)), (z_tm 668 (by decide +kernel) (by decide +kernel)), rfl, by decide, by decide, by decide +kernel⟩
theorem yy_X8_findWays : zY yX8_findWays cX8_findWays 4 none RX8 1 := ⟨(z_tm 722 (by decide +kernel) (by decide +kernel)), (z_pm 30 (by decide +kernel) (by decide +kernel)), (z_tm 9 (by decide +kernel) (by decide +kernel)), (z_tm 723 (by decide +kernel) (by decide +kernel)), rfl, by decide, by decide, by decide +kernel⟩
theorem yy_X8_goDaemons : zY yX8_goDaemons cX8_goDaemons 3 none RX8 0 := ⟨(z_tm 714 (by decide +kernel) (by decide +kernel)), (z_pm 28 (by decide +kernel) (by decide +kernel)), (z_tm 9 (by decide +kernel) (by decide +kernel)), (z_tm 715 (by decide +kernel) (by decide +kernel)), rfl, by decide, by decide, by decide +kernel⟩
theorem yy_X8_goTime : zY yX8_goTime cX8_goTime 7 none RX8 0 := ⟨(z_tm 702 (by decide +kernel) (by decide +kernel)), (z_pm 25 (by decide +kernel) (by decide +kernel)), (z_tm 9 (by decide +kernel) (by decide +kernel)), (z_tm 703 (by decide +kernel) (by decide +kernel)), rfl, by decide, by decide, by decide +kernel⟩
theorem yy_X8_goTimers : zY yX8_goTimers cX8_goTimers 2 none RX8 0 := ⟨(z_tm 710 (by decide +kernel) (by decide +kernel)), (z_pm 27 (by decide +kernel) (by decide +kernel)), (z_tm 9 (by decide +kernel) (by decide +kernel)), (z_tm 711 (by decide +kernel) (by decide +kernel)), rfl, by decide, by decide, by decide +kernel⟩
theorem yy_X8_goWalkers : zY yX8_goWalkers cX8_goWalkers 6 none RX8 0 := ⟨(z_tm 718 (by decide +kernel) (by decide +kernel)), (z_pm 29 (by decide +kernel) (by decide +kernel)), (z_tm 9 (by decide +kernel) (by decide +kernel)), (z_tm 719 (by decide +kernel) (by decide +kernel)), rfl, by decide, by decide, by decide +kernel⟩
theorem yy_X8_holds : zY yX8_holds cX8_holds 2 (some .boolean) RX8 1 := ⟨(z_tm 683 (by decide +kernel) (by decide +kernel)), (z_pm 23 (by decide +kernel) (by decide +kernel)), (z_tm 9 (by decide +kernel) (by decide +kernel)), (z_tm 684 (by decide +kernel) (by decide +kernel)), rfl, by decide, by decide, by decide +kernel⟩
theorem yy_X8_in : zYs yX8_in cX8_in 3 (some .boolean) 3 := ⟨(z_tm 651 (by decide +kernel) (by decide +kernel)), (z_tm 9 (by decide +kernel) (by decide +kernel)), (z_tm 652 (by decide +kernel) (by decide +kernel)), by decide, by decide, by decide +kernel⟩
theorem yy_X8_is : zY yX8_is cX8_is 3 (some .int) RX8 2 := ⟨(z_tm 753 (by decide +kernel) (by decide +kernel)), (z_tm 754 (by decide +kernel) (by decide +kernel)), (z_tm 9 (by decide +kernel) (by decide +kernel)), (z_tm 755 (by decide +kernel) (by decide +kernel)), rfl, by decide, by decide, by decide +kernel⟩
theorem yy_X8_isJoined : zY yX8_isJoined cX8_isJoined 6 (some .boolean) RX8 2 := ⟨(z_tm 730 (by decide +kernel) (by decide +kernel)), (z_pm 32 (by decide +kernel) (by decide +kernel)), (z_tm 9 (by decide +kernel) (by decide +kernel)), (z_tm 731 (by decide +kernel) (by decide +kernel)), rfl, by decide, by decide, by decide +kernel⟩
theorem yy_X8_isOf : zYs yX8_isOf cX8_isOf 2 (some .boolean) 2 := ⟨(z_tm 648 (by decide +kernel) (by decide +kernel)), (z_tm 9 (by decide +kernel) (by decide +kernel)), (z_tm 649 (by decide +kernel) (by decide +kernel)), by decide, by decide, by decide +kernel⟩
theorem yy_X8_left : zY yX8_left cX8_left 2 (some .int) RX8 1 := ⟨(z_tm 749 (by decide +kernel) (by decide +kernel)), (z_tm 750 (by decide +kernel) (by decide +kernel)), (z_tm 9 (by decide +kernel) (by decide +kernel)), (z_tm 751 (by decide +kernel) (by decide +kernel)), rfl, by decide, by decide, by decide +kernel⟩
theorem yy_X8_minutes : zY yX8_minutes cX8_minutes 3 (some .int) RX8 1 := ⟨(z_tm 769 (by decide +kernel) (by decide +kernel)), (z_tm 770 (by decide +kernel) (by decide +kernel)), (z_tm 9 (by decide +kernel) (by decide +kernel)), (z_tm 771 (by decide +kernel) (by decide +kernel)), rfl, by decide, by decide, by decide +kernel⟩
theorem yy_X8_pace : zY yX8_pace cX8_pace 3 (some .int) RX8 1 := ⟨(z_tm 693 (by decide +kernel) (by decide +kernel)), (z_tm 694 (by decide +kernel) (by decide +kernel)), (z_tm 9 (by decide +kernel) (by decide +kernel)), (z_tm 695 (by decide +kernel) (by decide +kernel)), rfl, by decide, by decide, by decide +kernel⟩
theorem yy_X8_perform : zY yX8_perform cX8_perform 4 none RX8 1 := ⟨(z_tm 687 (by decide +kernel) (by decide +kernel)), (z_pm 24 (by decide +kernel) (by decide +kernel)), (z_tm 9 (by decide +kernel) (by decide +kernel)), (z_tm 688 (by decide +kernel) (by decide +kernel)), rfl, by decide, by decide, by decide +kernel⟩
theorem yy_X8_room : zY yX8_room cX8_room 1 (some .int) RX8 0 := ⟨(z_tm 636 (by decide +kernel) (by decide +kernel)), (z_tm 637 (by decide +kernel) (by decide +kernel)), (z_tm 9 (by decide +kernel) (by decide +kernel)), (z_tm 638 (by decide +kernel) (by decide +kernel)), rfl, by decide, by decide, by decide +kernel⟩
theorem yy_X8_row : zY yX8_row cX8_row 3 (some .int) RX8 2 := ⟨(z_tm 765 (by decide +kernel) (by decide +kernel)), (z_tm 766 (by decide +kernel) (by decide +kernel)), (z_tm 9 (by decide +kernel) (by decide +kernel)), (z_tm 767 (by decide +kernel) (by decide +kernel)), rfl, by decide, by decide, by decide +kernel⟩
theorem yy_X8_step : zY yX8_step cX8_step 3 none RX8 2 := ⟨(z_tm 726 (by decide +kernel) (by decide +kernel)), (z_pm 31 (by decide +kernel) (by decide +kernel)), (z_tm 9 (by decide +kernel) (by decide +kernel)), (z_tm 727 (by decide +kernel) (by decide +kernel)), rfl, by decide, by decide, by decide +kernel⟩
theorem yy_X8_tell : zY yX8_tell cX8_tell 3 none RX8 2 := ⟨(z_tm 706 (by decide +kernel) (by decide +kernel)), (z_pm 26 (by decide +kernel) (by decide +kernel)), (z_tm 9 (by decide +kernel) (by decide +kernel)), (z_tm 707 (by decide +kernel) (by decide +kernel)), rfl, by decide, by decide, by decide +kernel⟩
theorem yy_X8_timer : zY yX8_timer cX8_timer 4 (some .int) RX8 3 := ⟨(z_tm 670 (by decide +kernel) (by decide +kernel)), (z_tm 671 (by decide +kernel) (by decide +kernel)), (z_tm 9 (by decide +kernel) (by decide +kernel)), (z_tm 672 (by decide +kernel) (by decide +kernel)), rfl, by decide, by decide, by decide +kernel⟩
theorem yy_X8_told : zY yX8_told cX8_told 2 (some .int) RX8 1 := ⟨(z_tm 737 (by decide +kernel) (by decide +kernel)), (z_tm 738 (by decide +kernel) (by decide +kernel)), (z_tm 9 (by decide +kernel) (by decide +kernel)), (z_tm 739 (by decide +kernel) (by decide +kernel)), rfl, by decide, by decide, by decide +kernel⟩
theorem yy_X8_turn : zY yX8_turn cX8_turn 2 (some .int) RX8 0 := ⟨(z_tm 697 (by decide +kernel) (by decide +kernel)), (z_tm 698 (by decide +kernel) (by decide +kernel)), (z_tm 9 (by decide +kernel) (by decide +kernel)), (z_tm 699 (by decide +kernel) (by decide +kernel)), rfl, by decide, by decide, by decide +kernel⟩
theorem yy_X8_walker : zY yX8_walker cX8_walker 2 (some .int) RX8 1 := ⟨(z_tm 654 (by decide +kernel) (by decide +kernel)), (z_tm 655 (by decide +kernel) (by decide +kernel)), (z_tm 9 (by decide +kernel) (by decide +kernel)), (z_tm 656 (by decide +kernel) (by decide +kernel)), rfl, by decide, by decide, by decide +kernel⟩
theorem yy_X8_walks : zY yX8_walks cX8_walks 3 (some .int) RX8 2 := ⟨(z_tm 757 (by decide +kernel) (by decide +kernel)), (z_tm 758 (by decide +kernel) (by decide +kernel)), (z_tm 9 (by decide +kernel) (by decide +kernel)), (z_tm 759 (by decide +kernel) (by decide +kernel)), rfl, by decide, by decide, by decide +kernel⟩
theorem yy_X8_way : zY yX8_way cX8_way 3 (some .int) RX8 2 := ⟨(z_tm 761 (by decide +kernel) (by decide +kernel)), (z_tm 762 (by decide +kernel) (by decide +kernel)), (z_tm 9 (by decide +kernel) (by decide +kernel)), (z_tm 763 (by decide +kernel) (by decide +kernel)), rfl, by decide, by decide, by decide +kernel⟩
theorem wl_X7_62 : Cond.methodLink RX7 62 yX3_addRoom ∈ z_TB := (z_tm 270 (by decide +kernel) (by decide +kernel))
theorem wl_X7_66 : Cond.methodLink RX7 66 yX7_closePast ∈ z_TB := (z_tm 274 (by decide +kernel) (by decide +kernel))
theorem wl_X7_74 : Cond.methodLink RX7 74 yX7_isThere ∈ z_TB := (z_tm 282 (by decide +kernel) (by decide +kernel))
theorem wl_X7_78 : Cond.methodLink RX7 78 yX3_addDoor ∈ z_TB := (z_tm 285 (by decide +kernel) (by decide +kernel))
theorem wl_X7_82 : Cond.methodLink RX7 82 yX3_addWalker ∈ z_TB := (z_tm 293 (by decide +kernel) (by decide +kernel))
theorem wl_X7_95 : Cond.methodLink RX7 95 yX7_isWithin ∈ z_TB := (z_tm 301 (by decide +kernel) (by decide +kernel))
theorem wl_X7_99 : Cond.methodLink RX7 99 yX7_isCounter ∈ z_TB := (z_tm 304 (by decide +kernel) (by decide +kernel))
theorem wl_X7_103 : Cond.methodLink RX7 103 yX7_isCounterValue ∈ z_TB := (z_tm 307 (by decide +kernel) (by decide +kernel))
theorem wl_X7_106 : Cond.methodLink RX7 106 yX1_addDeed ∈ z_TB := (z_tm 310 (by decide +kernel) (by decide +kernel))
theorem wl_X7_119 : Cond.methodLink RX7 119 yX2_addEvent ∈ z_TB := (z_tm 322 (by decide +kernel) (by decide +kernel))
theorem wl_X7_123 : Cond.methodLink RX7 123 yX6_addTimer ∈ z_TB := (z_tm 330 (by decide +kernel) (by decide +kernel))
theorem wl_X7_126 : Cond.methodLink RX7 126 yX0_addDaemon ∈ z_TB := (z_tm 338 (by decide +kernel) (by decide +kernel))
theorem wl_X7_129 : Cond.methodLink RX7 129 yX7_doDeed ∈ z_TB := (z_tm 346 (by decide +kernel) (by decide +kernel))
theorem wl_X7_135 : Cond.methodLink RX7 135 yX5_keep ∈ z_TB := (z_tm 394 (by decide +kernel) (by decide +kernel))
theorem wl_X7_149 : Cond.methodLink RX7 149 yX7_bringEvents ∈ z_TB := (z_tm 412 (by decide +kernel) (by decide +kernel))
theorem wl_X7_152 : Cond.methodLink RX7 152 yX7_runTimers ∈ z_TB := (z_tm 440 (by decide +kernel) (by decide +kernel))
theorem wl_X7_155 : Cond.methodLink RX7 155 yX7_runDaemons ∈ z_TB := (z_tm 448 (by decide +kernel) (by decide +kernel))
theorem wl_X7_158 : Cond.methodLink RX7 158 yX7_moveWalkers ∈ z_TB := (z_tm 456 (by decide +kernel) (by decide +kernel))
theorem wl_X7_162 : Cond.methodLink RX7 162 yX5_giveBack ∈ z_TB := (z_tm 488 (by decide +kernel) (by decide +kernel))
theorem wl_X7_189 : Cond.methodLink RX7 189 yX7_asNumber ∈ z_TB := (z_tm 512 (by decide +kernel) (by decide +kernel))
theorem wl_X7_199 : Cond.methodLink RX7 199 yX3_measureTo ∈ z_TB := (z_tm 523 (by decide +kernel) (by decide +kernel))
theorem wl_X7_215 : Cond.methodLink RX7 215 yX7_minutesUntil ∈ z_TB := (z_tm 420 (by decide +kernel) (by decide +kernel))
theorem wl_X7_218 : Cond.methodLink RX7 218 yX7_lineUpEvents ∈ z_TB := (z_tm 416 (by decide +kernel) (by decide +kernel))
theorem wl_X7_221 : Cond.methodLink RX7 221 yX4_goOn ∈ z_TB := (z_tm 428 (by decide +kernel) (by decide +kernel))
theorem wl_X7_228 : Cond.methodLink RX7 228 yX7_bringEvent ∈ z_TB := (z_tm 432 (by decide +kernel) (by decide +kernel))
theorem wl_X7_231 : Cond.methodLink RX7 231 yX2_putInOrder ∈ z_TB := (z_tm 424 (by decide +kernel) (by decide +kernel))
theorem wl_X7_238 : Cond.methodLink RX7 238 yX4_addRow ∈ z_TB := (z_tm 436 (by decide +kernel) (by decide +kernel))
theorem wl_X7_245 : Cond.methodLink RX7 245 yX7_runTimer ∈ z_TB := (z_tm 444 (by decide +kernel) (by decide +kernel))
theorem wl_X7_255 : Cond.methodLink RX7 255 yX7_runDaemonsOf ∈ z_TB := (z_tm 452 (by decide +kernel) (by decide +kernel))
theorem wl_X7_262 : Cond.methodLink RX7 262 yX7_moveWalker ∈ z_TB := (z_tm 460 (by decide +kernel) (by decide +kernel))
theorem wl_X7_265 : Cond.methodLink RX7 265 yX3_nextRoom ∈ z_TB := (z_tm 464 (by decide +kernel) (by decide +kernel))
theorem wl_X7_278 : Cond.methodLink RX7 278 yX7_carryOut ∈ z_TB := (z_tm 350 (by decide +kernel) (by decide +kernel))
theorem wl_X7_281 : Cond.methodLink RX7 281 yX4_growCounter ∈ z_TB := (z_tm 354 (by decide +kernel) (by decide +kernel))
theorem wl_X7_284 : Cond.methodLink RX7 284 yX7_startTimer ∈ z_TB := (z_tm 365 (by decide +kernel) (by decide +kernel))
theorem wl_X7_287 : Cond.methodLink RX7 287 yX7_stopTimer ∈ z_TB := (z_tm 369 (by decide +kernel) (by decide +kernel))
theorem wl_X7_290 : Cond.methodLink RX7 290 yX7_switchDaemon ∈ z_TB := (z_tm 373 (by decide +kernel) (by decide +kernel))
theorem wl_X7_294 : Cond.methodLink RX7 294 yX7_turnDoor ∈ z_TB := (z_tm 377 (by decide +kernel) (by decide +kernel))
theorem wl_X7_297 : Cond.methodLink RX7 297 yX7_giveGoal ∈ z_TB := (z_tm 381 (by decide +kernel) (by decide +kernel))
theorem wl_X7_300 : Cond.methodLink RX7 300 Lib.Math.min.name ∈ z_TB := (z_tm 385 (by decide +kernel) (by decide +kernel))
theorem wl_X3_31 : Cond.methodLink RX3 31 yX3_measureTo ∈ z_TB := (z_tm 468 (by decide +kernel) (by decide +kernel))
theorem wl_X3_35 : Cond.methodLink RX3 35 yX3_beyondDoor ∈ z_TB := (z_tm 476 (by decide +kernel) (by decide +kernel))
theorem wl_X3_39 : Cond.methodLink RX3 39 yX3_isNearer ∈ z_TB := (z_tm 480 (by decide +kernel) (by decide +kernel))
theorem wl_X3_43 : Cond.methodLink RX3 43 yX3_spread ∈ z_TB := (z_tm 472 (by decide +kernel) (by decide +kernel))
theorem wl_X4_54 : Cond.methodLink RX4 54 Lib.Math.min.name ∈ z_TB := (z_tm 359 (by decide +kernel) (by decide +kernel))
theorem wl_X4_60 : Cond.methodLink RX4 60 Lib.Math.max.name ∈ z_TB := (z_tm 362 (by decide +kernel) (by decide +kernel))
theorem wl_X4_72 : Cond.methodLink RX4 72 arraycopyName ∈ z_TB := (z_tm 406 (by decide +kernel) (by decide +kernel))
theorem wl_X4_78 : Cond.methodLink RX4 78 yX4_copyFlags ∈ z_TB := (z_tm 409 (by decide +kernel) (by decide +kernel))
theorem wl_X5_22 : Cond.methodLink RX5 22 yX5_dropOldest ∈ z_TB := (z_tm 398 (by decide +kernel) (by decide +kernel))
theorem wl_X5_25 : Cond.methodLink RX5 25 yX4_copyFrom ∈ z_TB := (z_tm 402 (by decide +kernel) (by decide +kernel))
theorem wl_L_13 : Cond.methodLink RL 13 yX7_room ∈ z_TB := (z_tm 266 (by decide +kernel) (by decide +kernel))
theorem wl_L_17 : Cond.methodLink RL 17 yX8_room ∈ z_TB := (z_tm 635 (by decide +kernel) (by decide +kernel))
theorem wl_L_18 : Cond.methodLink RL 18 yX7_door ∈ z_TB := (z_tm 278 (by decide +kernel) (by decide +kernel))
theorem wl_L_22 : Cond.methodLink RL 22 yX8_door ∈ z_TB := (z_tm 643 (by decide +kernel) (by decide +kernel))
theorem wl_L_23 : Cond.methodLink RL 23 yX7_walker ∈ z_TB := (z_tm 289 (by decide +kernel) (by decide +kernel))
theorem wl_L_27 : Cond.methodLink RL 27 yX8_walker ∈ z_TB := (z_tm 653 (by decide +kernel) (by decide +kernel))
theorem wl_L_28 : Cond.methodLink RL 28 yX7_deed ∈ z_TB := (z_tm 297 (by decide +kernel) (by decide +kernel))
theorem wl_L_32 : Cond.methodLink RL 32 yX8_deed ∈ z_TB := (z_tm 657 (by decide +kernel) (by decide +kernel))
theorem wl_L_33 : Cond.methodLink RL 33 yX7_condition ∈ z_TB := (z_tm 314 (by decide +kernel) (by decide +kernel))
theorem wl_L_36 : Cond.methodLink RL 36 yX8_condition ∈ z_TB := (z_tm 661 (by decide +kernel) (by decide +kernel))
theorem wl_L_37 : Cond.methodLink RL 37 yX7_event ∈ z_TB := (z_tm 318 (by decide +kernel) (by decide +kernel))
theorem wl_L_41 : Cond.methodLink RL 41 yX8_event ∈ z_TB := (z_tm 665 (by decide +kernel) (by decide +kernel))
theorem wl_L_42 : Cond.methodLink RL 42 yX7_timer ∈ z_TB := (z_tm 326 (by decide +kernel) (by decide +kernel))
theorem wl_L_45 : Cond.methodLink RL 45 yX8_timer ∈ z_TB := (z_tm 669 (by decide +kernel) (by decide +kernel))
theorem wl_L_46 : Cond.methodLink RL 46 yX7_daemon ∈ z_TB := (z_tm 334 (by decide +kernel) (by decide +kernel))
theorem wl_L_49 : Cond.methodLink RL 49 yX8_daemon ∈ z_TB := (z_tm 673 (by decide +kernel) (by decide +kernel))
theorem wl_L_50 : Cond.methodLink RL 50 yX7_act ∈ z_TB := (z_tm 342 (by decide +kernel) (by decide +kernel))
theorem wl_L_53 : Cond.methodLink RL 53 yX8_act ∈ z_TB := (z_tm 677 (by decide +kernel) (by decide +kernel))
theorem wl_L_54 : Cond.methodLink RL 54 yX7_pace ∈ z_TB := (z_tm 386 (by decide +kernel) (by decide +kernel))
theorem wl_L_57 : Cond.methodLink RL 57 yX8_pace ∈ z_TB := (z_tm 692 (by decide +kernel) (by decide +kernel))
theorem wl_L_58 : Cond.methodLink RL 58 yX7_turn ∈ z_TB := (z_tm 390 (by decide +kernel) (by decide +kernel))
theorem wl_L_61 : Cond.methodLink RL 61 yX8_turn ∈ z_TB := (z_tm 696 (by decide +kernel) (by decide +kernel))
theorem wl_L_62 : Cond.methodLink RL 62 yX7_back ∈ z_TB := (z_tm 484 (by decide +kernel) (by decide +kernel))
theorem wl_L_65 : Cond.methodLink RL 65 yX8_back ∈ z_TB := (z_tm 732 (by decide +kernel) (by decide +kernel))
theorem wl_L_66 : Cond.methodLink RL 66 yX7_told ∈ z_TB := (z_tm 492 (by decide +kernel) (by decide +kernel))
theorem wl_L_69 : Cond.methodLink RL 69 yX8_told ∈ z_TB := (z_tm 736 (by decide +kernel) (by decide +kernel))
theorem wl_L_70 : Cond.methodLink RL 70 yX7_count ∈ z_TB := (z_tm 496 (by decide +kernel) (by decide +kernel))
theorem wl_L_73 : Cond.methodLink RL 73 yX8_count ∈ z_TB := (z_tm 740 (by decide +kernel) (by decide +kernel))
theorem wl_L_74 : Cond.methodLink RL 74 yX7_counter ∈ z_TB := (z_tm 500 (by decide +kernel) (by decide +kernel))
theorem wl_L_77 : Cond.methodLink RL 77 yX8_counter ∈ z_TB := (z_tm 744 (by decide +kernel) (by decide +kernel))
theorem wl_L_78 : Cond.methodLink RL 78 yX7_left ∈ z_TB := (z_tm 504 (by decide +kernel) (by decide +kernel))
theorem wl_L_81 : Cond.methodLink RL 81 yX8_left ∈ z_TB := (z_tm 748 (by decide +kernel) (by decide +kernel))
theorem wl_L_82 : Cond.methodLink RL 82 yX7_is ∈ z_TB := (z_tm 508 (by decide +kernel) (by decide +kernel))
theorem wl_L_85 : Cond.methodLink RL 85 yX8_is ∈ z_TB := (z_tm 752 (by decide +kernel) (by decide +kernel))
theorem wl_L_86 : Cond.methodLink RL 86 yX7_walks ∈ z_TB := (z_tm 515 (by decide +kernel) (by decide +kernel))
theorem wl_L_89 : Cond.methodLink RL 89 yX8_walks ∈ z_TB := (z_tm 756 (by decide +kernel) (by decide +kernel))
theorem wl_L_90 : Cond.methodLink RL 90 yX7_way ∈ z_TB := (z_tm 519 (by decide +kernel) (by decide +kernel))
theorem wl_L_93 : Cond.methodLink RL 93 yX8_way ∈ z_TB := (z_tm 760 (by decide +kernel) (by decide +kernel))
theorem wl_L_94 : Cond.methodLink RL 94 yX7_row ∈ z_TB := (z_tm 524 (by decide +kernel) (by decide +kernel))
theorem wl_L_97 : Cond.methodLink RL 97 yX8_row ∈ z_TB := (z_tm 764 (by decide +kernel) (by decide +kernel))
theorem wl_L_98 : Cond.methodLink RL 98 yX7_minutes ∈ z_TB := (z_tm 528 (by decide +kernel) (by decide +kernel))
theorem wl_L_101 : Cond.methodLink RL 101 yX8_minutes ∈ z_TB := (z_tm 768 (by decide +kernel) (by decide +kernel))
theorem wl_X8_78 : Cond.methodLink RX8 78 yX8_in ∈ z_TB := (z_tm 650 (by decide +kernel) (by decide +kernel))
theorem wl_X8_85 : Cond.methodLink RX8 85 yX8_changed ∈ z_TB := (z_tm 639 (by decide +kernel) (by decide +kernel))
theorem wl_X8_89 : Cond.methodLink RX8 89 yX8_isOf ∈ z_TB := (z_tm 647 (by decide +kernel) (by decide +kernel))
theorem wl_X8_111 : Cond.methodLink RX8 111 yX8_holds ∈ z_TB := (z_tm 681 (by decide +kernel) (by decide +kernel))
theorem wl_X8_115 : Cond.methodLink RX8 115 yX8_bound ∈ z_TB := (z_tm 689 (by decide +kernel) (by decide +kernel))
theorem wl_X8_126 : Cond.methodLink RX8 126 yX8_perform ∈ z_TB := (z_tm 685 (by decide +kernel) (by decide +kernel))
theorem wl_X8_133 : Cond.methodLink RX8 133 yX8_tell ∈ z_TB := (z_tm 704 (by decide +kernel) (by decide +kernel))
theorem wl_X8_137 : Cond.methodLink RX8 137 yX8_step ∈ z_TB := (z_tm 724 (by decide +kernel) (by decide +kernel))
theorem wl_X8_140 : Cond.methodLink RX8 140 yX8_findWays ∈ z_TB := (z_tm 720 (by decide +kernel) (by decide +kernel))
theorem wl_X8_143 : Cond.methodLink RX8 143 yX8_isJoined ∈ z_TB := (z_tm 728 (by decide +kernel) (by decide +kernel))
theorem wl_X8_146 : Cond.methodLink RX8 146 yX8_goTime ∈ z_TB := (z_tm 700 (by decide +kernel) (by decide +kernel))
theorem wl_X8_149 : Cond.methodLink RX8 149 yX8_goTimers ∈ z_TB := (z_tm 708 (by decide +kernel) (by decide +kernel))
theorem wl_X8_152 : Cond.methodLink RX8 152 yX8_goDaemons ∈ z_TB := (z_tm 712 (by decide +kernel) (by decide +kernel))
theorem wl_X8_155 : Cond.methodLink RX8 155 yX8_goWalkers ∈ z_TB := (z_tm 716 (by decide +kernel) (by decide +kernel))
theorem wm_acn : Cond.native arraycopyName ∈ z_TB := (z_tm 408 (by decide +kernel) (by decide +kernel))
theorem wm_acs : Cond.static arraycopyName ∈ z_TB := (z_tm 407 (by decide +kernel) (by decide +kernel))
theorem wm_sys : Cond.initialized "java/lang/System" ∈ z_TB := (z_tm 11 (by decide +kernel) (by decide +kernel))
theorem wm_mth : Cond.initialized "java/lang/Math" ∈ z_TB := (z_tm 10 (by decide +kernel) (by decide +kernel))
theorem wm_maxs : Cond.static Lib.Math.max.name ∈ z_TB := (z_tm 363 (by decide +kernel) (by decide +kernel))
theorem wm_maxc : Cond.code Lib.Math.max.name Lib.Math.max.code 2 (some .int) ∈ z_TB := (z_tm 364 (by decide +kernel) (by decide +kernel))
theorem wm_mins : Cond.static Lib.Math.min.name ∈ z_TB := (z_tm 360 (by decide +kernel) (by decide +kernel))
theorem wm_minc : Cond.code Lib.Math.min.name Lib.Math.min.code 2 (some .int) ∈ z_TB := (z_tm 361 (by decide +kernel) (by decide +kernel))
theorem kb_m5 : (Int8.ofInt (-5)).toInt32 = ((-5) : Int32) := by decide
theorem kb_m4 : (Int8.ofInt (-4)).toInt32 = ((-4) : Int32) := by decide
theorem kb_m3 : (Int8.ofInt (-3)).toInt32 = ((-3) : Int32) := by decide
theorem kb_m2 : (Int8.ofInt (-2)).toInt32 = ((-2) : Int32) := by decide
theorem kb_6 : (Int8.ofInt 6).toInt32 = (6 : Int32) := by decide
theorem kb_7 : (Int8.ofInt 7).toInt32 = (7 : Int32) := by decide
theorem kb_8 : (Int8.ofInt 8).toInt32 = (8 : Int32) := by decide
theorem kb_9 : (Int8.ofInt 9).toInt32 = (9 : Int32) := by decide
theorem kb_10 : (Int8.ofInt 10).toInt32 = (10 : Int32) := by decide
theorem kb_12 : (Int8.ofInt 12).toInt32 = (12 : Int32) := by decide
theorem kb_15 : (Int8.ofInt 15).toInt32 = (15 : Int32) := by decide
theorem kb_27 : (Int8.ofInt 27).toInt32 = (27 : Int32) := by decide
theorem kb_31 : (Int8.ofInt 31).toInt32 = (31 : Int32) := by decide
theorem kb_35 : (Int8.ofInt 35).toInt32 = (35 : Int32) := by decide
theorem kb_40 : (Int8.ofInt 40).toInt32 = (40 : Int32) := by decide
theorem kb_47 : (Int8.ofInt 47).toInt32 = (47 : Int32) := by decide
theorem kb_50 : (Int8.ofInt 50).toInt32 = (50 : Int32) := by decide
theorem kb_59 : (Int8.ofInt 59).toInt32 = (59 : Int32) := by decide
theorem kb_60 : (Int8.ofInt 60).toInt32 = (60 : Int32) := by decide
theorem kb_71 : (Int8.ofInt 71).toInt32 = (71 : Int32) := by decide
theorem kb_72 : (Int8.ofInt 72).toInt32 = (72 : Int32) := by decide
theorem ki_m1 : Int32.ofInt (-1) = ((-1) : Int32) := by decide
theorem ki_0 : Int32.ofInt 0 = (0 : Int32) := by decide
theorem ki_1 : Int32.ofInt 1 = (1 : Int32) := by decide
theorem ki_2 : Int32.ofInt 2 = (2 : Int32) := by decide
theorem ki_3 : Int32.ofInt 3 = (3 : Int32) := by decide
theorem ki_4 : Int32.ofInt 4 = (4 : Int32) := by decide
theorem ks_m1000 : (Int16.ofInt (-1000)).toInt32 = ((-1000) : Int32) := by decide
theorem ks_192 : (Int16.ofInt 192).toInt32 = (192 : Int32) := by decide
theorem ks_600 : (Int16.ofInt 600).toInt32 = (600 : Int32) := by decide
theorem ks_1000 : (Int16.ofInt 1000).toInt32 = (1000 : Int32) := by decide
theorem ks_1344 : (Int16.ofInt 1344).toInt32 = (1344 : Int32) := by decide
theorem ks_1439 : (Int16.ofInt 1439).toInt32 = (1439 : Int32) := by decide
theorem ks_1440 : (Int16.ofInt 1440).toInt32 = (1440 : Int32) := by decide
theorem ks_1536 : (Int16.ofInt 1536).toInt32 = (1536 : Int32) := by decide
abbrev nC : Nat := 117
abbrev nM : Nat := 21
def z_mk (b j : Nat) : zL := match j with
  | 0 => .inr (4, [none, none, none, none, none, none, some (b + 1), some (b + 2), some (b + 3), some (b + 4), some (b + 5), some (b + 6), some (b + 7), some (b + 8), some (b + 9)])
  | 1 => .inl (0, 40)
  | 2 => .inl (0, 40)
  | 3 => .inl (0, 8)
  | 4 => .inl (1, 15)
  | 5 => .inl (0, 4)
  | 6 => .inl (0, 4)
  | 7 => .inl (0, 12)
  | 8 => .inl (1, 12)
  | 9 => .inl (1, 12)
  | _ => .inl (0, 0)
def layC (k : Nat) : zL := match k with
  | 0 => .inr (7, [some 1, some 5, some 11, some 17, some 21, some 24, some 34, some 116, none])
  | 1 => .inr (3, [none, none, none, some 2, some 3, some 4])
  | 2 => .inl (0, 15)
  | 3 => .inl (0, 15)
  | 4 => .inl (0, 10)
  | 5 => .inr (1, [none, some 6, some 7, some 8, some 9, some 10])
  | 6 => .inl (0, 40)
  | 7 => .inl (0, 40)
  | 8 => .inl (0, 40)
  | 9 => .inl (0, 40)
  | 10 => .inl (0, 40)
  | 11 => .inr (2, [none, some 12, some 13, some 14, some 15, some 16])
  | 12 => .inl (0, 12)
  | 13 => .inl (0, 12)
  | 14 => .inl (1, 12)
  | 15 => .inl (0, 12)
  | 16 => .inl (0, 12)
  | 17 => .inr (6, [none, some 18, some 19, some 20])
  | 18 => .inl (0, 12)
  | 19 => .inl (0, 12)
  | 20 => .inl (1, 12)
  | 21 => .inr (0, [none, some 22, some 23])
  | 22 => .inl (0, 12)
  | 23 => .inl (0, 12)
  | 24 => .inr (4, [none, none, none, none, none, none, some 25, some 26, some 27, some 28, some 29, some 30, some 31, some 32, some 33])
  | 25 => .inl (0, 40)
  | 26 => .inl (0, 40)
  | 27 => .inl (0, 8)
  | 28 => .inl (1, 15)
  | 29 => .inl (0, 4)
  | 30 => .inl (0, 4)
  | 31 => .inl (0, 12)
  | 32 => .inl (1, 12)
  | 33 => .inl (1, 12)
  | 34 => .inr (5, [none, some 35])
  | 35 => .inl (2, 8)
  | k + 36 => if k = 80 then .inl (1, 12) else z_mk (36 + 10 * (k / 10)) (k % 10)
def layM (k : Nat) : zL := match k with
  | 0 => .inr (8, [some 1, some 2, none, none, none, none, some 3, some 4, none, none, some 5, some 6, some 7, some 8, some 9, none, some 10, some 11, some 12, none, some 13, some 14, some 15, none, some 16, some 17, none, none, none, some 18, some 19, some 20])
  | 1 => .inl (0, 192)
  | 2 => .inl (0, 1536)
  | 3 => .inl (0, 15)
  | 4 => .inl (0, 15)
  | 5 => .inl (0, 40)
  | 6 => .inl (0, 40)
  | 7 => .inl (0, 40)
  | 8 => .inl (0, 40)
  | 9 => .inl (0, 40)
  | 10 => .inl (0, 12)
  | 11 => .inl (0, 12)
  | 12 => .inl (1, 12)
  | 13 => .inl (0, 12)
  | 14 => .inl (0, 12)
  | 15 => .inl (1, 12)
  | 16 => .inl (0, 12)
  | 17 => .inl (0, 12)
  | 18 => .inl (1, 12)
  | 19 => .inl (1, 12)
  | 20 => .inl (0, 10)
  | _ => .inl (0, 0)
theorem layC_116 : layC 116 = .inl (1, 12) := rfl
theorem ltC_116 : 116 < nC := by decide
theorem layC_0 : layC 0 = .inr (7, [some 1, some 5, some 11, some 17, some 21, some 24, some 34, some 116, none]) := rfl
theorem ltC_0 : 0 < nC := by decide
theorem layC_1 : layC 1 = .inr (3, [none, none, none, some 2, some 3, some 4]) := rfl
theorem ltC_1 : 1 < nC := by decide
theorem layC_2 : layC 2 = .inl (0, 15) := rfl
theorem ltC_2 : 2 < nC := by decide
theorem layC_3 : layC 3 = .inl (0, 15) := rfl
theorem ltC_3 : 3 < nC := by decide
theorem layC_4 : layC 4 = .inl (0, 10) := rfl
theorem ltC_4 : 4 < nC := by decide
theorem layC_5 : layC 5 = .inr (1, [none, some 6, some 7, some 8, some 9, some 10]) := rfl
theorem ltC_5 : 5 < nC := by decide
theorem layC_6 : layC 6 = .inl (0, 40) := rfl
theorem ltC_6 : 6 < nC := by decide
theorem layC_7 : layC 7 = .inl (0, 40) := rfl
theorem ltC_7 : 7 < nC := by decide
theorem layC_8 : layC 8 = .inl (0, 40) := rfl
theorem ltC_8 : 8 < nC := by decide
theorem layC_9 : layC 9 = .inl (0, 40) := rfl
theorem ltC_9 : 9 < nC := by decide
theorem layC_10 : layC 10 = .inl (0, 40) := rfl
theorem ltC_10 : 10 < nC := by decide
theorem layC_11 : layC 11 = .inr (2, [none, some 12, some 13, some 14, some 15, some 16]) := rfl
theorem ltC_11 : 11 < nC := by decide
theorem layC_12 : layC 12 = .inl (0, 12) := rfl
theorem ltC_12 : 12 < nC := by decide
theorem layC_13 : layC 13 = .inl (0, 12) := rfl
theorem ltC_13 : 13 < nC := by decide
theorem layC_14 : layC 14 = .inl (1, 12) := rfl
theorem ltC_14 : 14 < nC := by decide
theorem layC_15 : layC 15 = .inl (0, 12) := rfl
theorem ltC_15 : 15 < nC := by decide
theorem layC_16 : layC 16 = .inl (0, 12) := rfl
theorem ltC_16 : 16 < nC := by decide
theorem layC_17 : layC 17 = .inr (6, [none, some 18, some 19, some 20]) := rfl
theorem ltC_17 : 17 < nC := by decide
theorem layC_18 : layC 18 = .inl (0, 12) := rfl
theorem ltC_18 : 18 < nC := by decide
theorem layC_19 : layC 19 = .inl (0, 12) := rfl
theorem ltC_19 : 19 < nC := by decide
theorem layC_20 : layC 20 = .inl (1, 12) := rfl
theorem ltC_20 : 20 < nC := by decide
theorem layC_21 : layC 21 = .inr (0, [none, some 22, some 23]) := rfl
theorem ltC_21 : 21 < nC := by decide
theorem layC_22 : layC 22 = .inl (0, 12) := rfl
theorem ltC_22 : 22 < nC := by decide
theorem layC_23 : layC 23 = .inl (0, 12) := rfl
theorem ltC_23 : 23 < nC := by decide
theorem layC_24 : layC 24 = .inr (4, [none, none, none, none, none, none, some 25, some 26, some 27, some 28, some 29, some 30, some 31, some 32, some 33]) := rfl
theorem ltC_24 : 24 < nC := by decide
theorem layC_25 : layC 25 = .inl (0, 40) := rfl
theorem ltC_25 : 25 < nC := by decide
theorem layC_26 : layC 26 = .inl (0, 40) := rfl
theorem ltC_26 : 26 < nC := by decide
theorem layC_27 : layC 27 = .inl (0, 8) := rfl
theorem ltC_27 : 27 < nC := by decide
theorem layC_28 : layC 28 = .inl (1, 15) := rfl
theorem ltC_28 : 28 < nC := by decide
theorem layC_29 : layC 29 = .inl (0, 4) := rfl
theorem ltC_29 : 29 < nC := by decide
theorem layC_30 : layC 30 = .inl (0, 4) := rfl
theorem ltC_30 : 30 < nC := by decide
theorem layC_31 : layC 31 = .inl (0, 12) := rfl
theorem ltC_31 : 31 < nC := by decide
theorem layC_32 : layC 32 = .inl (1, 12) := rfl
theorem ltC_32 : 32 < nC := by decide
theorem layC_33 : layC 33 = .inl (1, 12) := rfl
theorem ltC_33 : 33 < nC := by decide
theorem layC_34 : layC 34 = .inr (5, [none, some 35]) := rfl
theorem ltC_34 : 34 < nC := by decide
theorem layC_35 : layC 35 = .inl (2, 8) := rfl
theorem ltC_35 : 35 < nC := by decide
theorem layM_0 : layM 0 = .inr (8, [some 1, some 2, none, none, none, none, some 3, some 4, none, none, some 5, some 6, some 7, some 8, some 9, none, some 10, some 11, some 12, none, some 13, some 14, some 15, none, some 16, some 17, none, none, none, some 18, some 19, some 20]) := rfl
theorem ltM_0 : 0 < nM := by decide
theorem layM_1 : layM 1 = .inl (0, 192) := rfl
theorem ltM_1 : 1 < nM := by decide
theorem layM_2 : layM 2 = .inl (0, 1536) := rfl
theorem ltM_2 : 2 < nM := by decide
theorem layM_3 : layM 3 = .inl (0, 15) := rfl
theorem ltM_3 : 3 < nM := by decide
theorem layM_4 : layM 4 = .inl (0, 15) := rfl
theorem ltM_4 : 4 < nM := by decide
theorem layM_5 : layM 5 = .inl (0, 40) := rfl
theorem ltM_5 : 5 < nM := by decide
theorem layM_6 : layM 6 = .inl (0, 40) := rfl
theorem ltM_6 : 6 < nM := by decide
theorem layM_7 : layM 7 = .inl (0, 40) := rfl
theorem ltM_7 : 7 < nM := by decide
theorem layM_8 : layM 8 = .inl (0, 40) := rfl
theorem ltM_8 : 8 < nM := by decide
theorem layM_9 : layM 9 = .inl (0, 40) := rfl
theorem ltM_9 : 9 < nM := by decide
theorem layM_10 : layM 10 = .inl (0, 12) := rfl
theorem ltM_10 : 10 < nM := by decide
theorem layM_11 : layM 11 = .inl (0, 12) := rfl
theorem ltM_11 : 11 < nM := by decide
theorem layM_12 : layM 12 = .inl (1, 12) := rfl
theorem ltM_12 : 12 < nM := by decide
theorem layM_13 : layM 13 = .inl (0, 12) := rfl
theorem ltM_13 : 13 < nM := by decide
theorem layM_14 : layM 14 = .inl (0, 12) := rfl
theorem ltM_14 : 14 < nM := by decide
theorem layM_15 : layM 15 = .inl (1, 12) := rfl
theorem ltM_15 : 15 < nM := by decide
theorem layM_16 : layM 16 = .inl (0, 12) := rfl
theorem ltM_16 : 16 < nM := by decide
theorem layM_17 : layM 17 = .inl (0, 12) := rfl
theorem ltM_17 : 17 < nM := by decide
theorem layM_18 : layM 18 = .inl (1, 12) := rfl
theorem ltM_18 : 18 < nM := by decide
theorem layM_19 : layM 19 = .inl (1, 12) := rfl
theorem ltM_19 : 19 < nM := by decide
theorem layM_20 : layM 20 = .inl (0, 10) := rfl
theorem ltM_20 : 20 < nM := by decide
theorem layC_m0 {a : Nat} (h : a < 9) : layC (z_mo a) = .inr (4, [none, none, none, none, none, none, some (z_mo a + 1), some (z_mo a + 2), some (z_mo a + 3), some (z_mo a + 4), some (z_mo a + 5), some (z_mo a + 6), some (z_mo a + 7), some (z_mo a + 8), some (z_mo a + 9)]) := by
  have h9 : a = 0 ∨ a = 1 ∨ a = 2 ∨ a = 3 ∨ a = 4 ∨ a = 5 ∨ a = 6 ∨ a = 7 ∨ a = 8 := by omega
  rcases h9 with rfl | rfl | rfl | rfl | rfl | rfl | rfl | rfl | rfl <;> rfl
theorem ltC_m0 {a : Nat} (h : a < 9) : z_mo a < nC := by
  have h9 : a = 0 ∨ a = 1 ∨ a = 2 ∨ a = 3 ∨ a = 4 ∨ a = 5 ∨ a = 6 ∨ a = 7 ∨ a = 8 := by omega
  rcases h9 with rfl | rfl | rfl | rfl | rfl | rfl | rfl | rfl | rfl <;> decide
theorem layC_m1 {a : Nat} (h : a < 9) : layC (z_mo a + 1) = .inl (0, 40) := by
  have h9 : a = 0 ∨ a = 1 ∨ a = 2 ∨ a = 3 ∨ a = 4 ∨ a = 5 ∨ a = 6 ∨ a = 7 ∨ a = 8 := by omega
  rcases h9 with rfl | rfl | rfl | rfl | rfl | rfl | rfl | rfl | rfl <;> rfl
theorem ltC_m1 {a : Nat} (h : a < 9) : z_mo a + 1 < nC := by
  have h9 : a = 0 ∨ a = 1 ∨ a = 2 ∨ a = 3 ∨ a = 4 ∨ a = 5 ∨ a = 6 ∨ a = 7 ∨ a = 8 := by omega
  rcases h9 with rfl | rfl | rfl | rfl | rfl | rfl | rfl | rfl | rfl <;> decide
theorem layC_m2 {a : Nat} (h : a < 9) : layC (z_mo a + 2) = .inl (0, 40) := by
  have h9 : a = 0 ∨ a = 1 ∨ a = 2 ∨ a = 3 ∨ a = 4 ∨ a = 5 ∨ a = 6 ∨ a = 7 ∨ a = 8 := by omega
  rcases h9 with rfl | rfl | rfl | rfl | rfl | rfl | rfl | rfl | rfl <;> rfl
theorem ltC_m2 {a : Nat} (h : a < 9) : z_mo a + 2 < nC := by
  have h9 : a = 0 ∨ a = 1 ∨ a = 2 ∨ a = 3 ∨ a = 4 ∨ a = 5 ∨ a = 6 ∨ a = 7 ∨ a = 8 := by omega
  rcases h9 with rfl | rfl | rfl | rfl | rfl | rfl | rfl | rfl | rfl <;> decide
theorem layC_m3 {a : Nat} (h : a < 9) : layC (z_mo a + 3) = .inl (0, 8) := by
  have h9 : a = 0 ∨ a = 1 ∨ a = 2 ∨ a = 3 ∨ a = 4 ∨ a = 5 ∨ a = 6 ∨ a = 7 ∨ a = 8 := by omega
  rcases h9 with rfl | rfl | rfl | rfl | rfl | rfl | rfl | rfl | rfl <;> rfl
theorem ltC_m3 {a : Nat} (h : a < 9) : z_mo a + 3 < nC := by
  have h9 : a = 0 ∨ a = 1 ∨ a = 2 ∨ a = 3 ∨ a = 4 ∨ a = 5 ∨ a = 6 ∨ a = 7 ∨ a = 8 := by omega
  rcases h9 with rfl | rfl | rfl | rfl | rfl | rfl | rfl | rfl | rfl <;> decide
theorem layC_m4 {a : Nat} (h : a < 9) : layC (z_mo a + 4) = .inl (1, 15) := by
  have h9 : a = 0 ∨ a = 1 ∨ a = 2 ∨ a = 3 ∨ a = 4 ∨ a = 5 ∨ a = 6 ∨ a = 7 ∨ a = 8 := by omega
  rcases h9 with rfl | rfl | rfl | rfl | rfl | rfl | rfl | rfl | rfl <;> rfl
theorem ltC_m4 {a : Nat} (h : a < 9) : z_mo a + 4 < nC := by
  have h9 : a = 0 ∨ a = 1 ∨ a = 2 ∨ a = 3 ∨ a = 4 ∨ a = 5 ∨ a = 6 ∨ a = 7 ∨ a = 8 := by omega
  rcases h9 with rfl | rfl | rfl | rfl | rfl | rfl | rfl | rfl | rfl <;> decide
theorem layC_m5 {a : Nat} (h : a < 9) : layC (z_mo a + 5) = .inl (0, 4) := by
  have h9 : a = 0 ∨ a = 1 ∨ a = 2 ∨ a = 3 ∨ a = 4 ∨ a = 5 ∨ a = 6 ∨ a = 7 ∨ a = 8 := by omega
  rcases h9 with rfl | rfl | rfl | rfl | rfl | rfl | rfl | rfl | rfl <;> rfl
theorem ltC_m5 {a : Nat} (h : a < 9) : z_mo a + 5 < nC := by
  have h9 : a = 0 ∨ a = 1 ∨ a = 2 ∨ a = 3 ∨ a = 4 ∨ a = 5 ∨ a = 6 ∨ a = 7 ∨ a = 8 := by omega
  rcases h9 with rfl | rfl | rfl | rfl | rfl | rfl | rfl | rfl | rfl <;> decide
theorem layC_m6 {a : Nat} (h : a < 9) : layC (z_mo a + 6) = .inl (0, 4) := by
  have h9 : a = 0 ∨ a = 1 ∨ a = 2 ∨ a = 3 ∨ a = 4 ∨ a = 5 ∨ a = 6 ∨ a = 7 ∨ a = 8 := by omega
  rcases h9 with rfl | rfl | rfl | rfl | rfl | rfl | rfl | rfl | rfl <;> rfl
theorem ltC_m6 {a : Nat} (h : a < 9) : z_mo a + 6 < nC := by
  have h9 : a = 0 ∨ a = 1 ∨ a = 2 ∨ a = 3 ∨ a = 4 ∨ a = 5 ∨ a = 6 ∨ a = 7 ∨ a = 8 := by omega
  rcases h9 with rfl | rfl | rfl | rfl | rfl | rfl | rfl | rfl | rfl <;> decide
theorem layC_m7 {a : Nat} (h : a < 9) : layC (z_mo a + 7) = .inl (0, 12) := by
  have h9 : a = 0 ∨ a = 1 ∨ a = 2 ∨ a = 3 ∨ a = 4 ∨ a = 5 ∨ a = 6 ∨ a = 7 ∨ a = 8 := by omega
  rcases h9 with rfl | rfl | rfl | rfl | rfl | rfl | rfl | rfl | rfl <;> rfl
theorem ltC_m7 {a : Nat} (h : a < 9) : z_mo a + 7 < nC := by
  have h9 : a = 0 ∨ a = 1 ∨ a = 2 ∨ a = 3 ∨ a = 4 ∨ a = 5 ∨ a = 6 ∨ a = 7 ∨ a = 8 := by omega
  rcases h9 with rfl | rfl | rfl | rfl | rfl | rfl | rfl | rfl | rfl <;> decide
theorem layC_m8 {a : Nat} (h : a < 9) : layC (z_mo a + 8) = .inl (1, 12) := by
  have h9 : a = 0 ∨ a = 1 ∨ a = 2 ∨ a = 3 ∨ a = 4 ∨ a = 5 ∨ a = 6 ∨ a = 7 ∨ a = 8 := by omega
  rcases h9 with rfl | rfl | rfl | rfl | rfl | rfl | rfl | rfl | rfl <;> rfl
theorem ltC_m8 {a : Nat} (h : a < 9) : z_mo a + 8 < nC := by
  have h9 : a = 0 ∨ a = 1 ∨ a = 2 ∨ a = 3 ∨ a = 4 ∨ a = 5 ∨ a = 6 ∨ a = 7 ∨ a = 8 := by omega
  rcases h9 with rfl | rfl | rfl | rfl | rfl | rfl | rfl | rfl | rfl <;> decide
theorem layC_m9 {a : Nat} (h : a < 9) : layC (z_mo a + 9) = .inl (1, 12) := by
  have h9 : a = 0 ∨ a = 1 ∨ a = 2 ∨ a = 3 ∨ a = 4 ∨ a = 5 ∨ a = 6 ∨ a = 7 ∨ a = 8 := by omega
  rcases h9 with rfl | rfl | rfl | rfl | rfl | rfl | rfl | rfl | rfl <;> rfl
theorem ltC_m9 {a : Nat} (h : a < 9) : z_mo a + 9 < nC := by
  have h9 : a = 0 ∨ a = 1 ∨ a = 2 ∨ a = 3 ∨ a = 4 ∨ a = 5 ∨ a = 6 ∨ a = 7 ∨ a = 8 := by omega
  rcases h9 with rfl | rfl | rfl | rfl | rfl | rfl | rfl | rfl | rfl <;> decide
end
section
theorem dX0_init_0 : decode cX0_init 0 = .ok (.aload_n 0, 1) := by decide +kernel
theorem dX0_init_1 : decode cX0_init 1 = .ok (.invokespecial 3, 3) := by decide +kernel
theorem dX0_init_4 : decode cX0_init 4 = .ok (.aload_n 0, 1) := by decide +kernel
theorem dX0_init_5 : decode cX0_init 5 = .ok (.bipush 12, 2) := by decide +kernel
theorem dX0_init_7 : decode cX0_init 7 = .ok (.newarray .int, 2) := by decide +kernel
theorem dX0_init_9 : decode cX0_init 9 = .ok (.putfield 9, 3) := by decide +kernel
theorem dX0_init_12 : decode cX0_init 12 = .ok (.aload_n 0, 1) := by decide +kernel
theorem dX0_init_13 : decode cX0_init 13 = .ok (.bipush 12, 2) := by decide +kernel
theorem dX0_init_15 : decode cX0_init 15 = .ok (.newarray .int, 2) := by decide +kernel
theorem dX0_init_17 : decode cX0_init 17 = .ok (.putfield 15, 3) := by decide +kernel
theorem dX0_init_20 : decode cX0_init 20 = .ok (.return_, 1) := by decide +kernel
theorem dX0_addDaemon_0 : decode cX0_addDaemon 0 = .ok (.aload_n 0, 1) := by decide +kernel
theorem dX0_addDaemon_1 : decode cX0_addDaemon 1 = .ok (.getfield 18, 3) := by decide +kernel
theorem dX0_addDaemon_4 : decode cX0_addDaemon 4 = .ok (.bipush 12, 2) := by decide +kernel
theorem dX0_addDaemon_6 : decode cX0_addDaemon 6 = .ok (.if_icmp .lt 6, 3) := by decide +kernel
theorem dX0_addDaemon_9 : decode cX0_addDaemon 9 = .ok (.bipush (-5), 2) := by decide +kernel
theorem dX0_addDaemon_11 : decode cX0_addDaemon 11 = .ok (.ireturn, 1) := by decide +kernel
theorem dX0_addDaemon_12 : decode cX0_addDaemon 12 = .ok (.aload_n 0, 1) := by decide +kernel
theorem dX0_addDaemon_13 : decode cX0_addDaemon 13 = .ok (.getfield 9, 3) := by decide +kernel
theorem dX0_addDaemon_16 : decode cX0_addDaemon 16 = .ok (.aload_n 0, 1) := by decide +kernel
theorem dX0_addDaemon_17 : decode cX0_addDaemon 17 = .ok (.getfield 18, 3) := by decide +kernel
theorem dX0_addDaemon_20 : decode cX0_addDaemon 20 = .ok (.iload_n 1, 1) := by decide +kernel
theorem dX0_addDaemon_21 : decode cX0_addDaemon 21 = .ok (.iastore, 1) := by decide +kernel
theorem dX0_addDaemon_22 : decode cX0_addDaemon 22 = .ok (.aload_n 0, 1) := by decide +kernel
theorem dX0_addDaemon_23 : decode cX0_addDaemon 23 = .ok (.getfield 15, 3) := by decide +kernel
theorem dX0_addDaemon_26 : decode cX0_addDaemon 26 = .ok (.aload_n 0, 1) := by decide +kernel
theorem dX0_addDaemon_27 : decode cX0_addDaemon 27 = .ok (.getfield 18, 3) := by decide +kernel
theorem dX0_addDaemon_30 : decode cX0_addDaemon 30 = .ok (.iload_n 2, 1) := by decide +kernel
theorem dX0_addDaemon_31 : decode cX0_addDaemon 31 = .ok (.iastore, 1) := by decide +kernel
theorem dX0_addDaemon_32 : decode cX0_addDaemon 32 = .ok (.aload_n 0, 1) := by decide +kernel
theorem dX0_addDaemon_33 : decode cX0_addDaemon 33 = .ok (.dup, 1) := by decide +kernel
theorem dX0_addDaemon_34 : decode cX0_addDaemon 34 = .ok (.getfield 18, 3) := by decide +kernel
theorem dX0_addDaemon_37 : decode cX0_addDaemon 37 = .ok (.iconst 1, 1) := by decide +kernel
theorem dX0_addDaemon_38 : decode cX0_addDaemon 38 = .ok (.iadd, 1) := by decide +kernel
theorem dX0_addDaemon_39 : decode cX0_addDaemon 39 = .ok (.putfield 18, 3) := by decide +kernel
theorem dX0_addDaemon_42 : decode cX0_addDaemon 42 = .ok (.aload_n 0, 1) := by decide +kernel
theorem dX0_addDaemon_43 : decode cX0_addDaemon 43 = .ok (.getfield 18, 3) := by decide +kernel
theorem dX0_addDaemon_46 : decode cX0_addDaemon 46 = .ok (.iconst 1, 1) := by decide +kernel
theorem dX0_addDaemon_47 : decode cX0_addDaemon 47 = .ok (.isub, 1) := by decide +kernel
theorem dX0_addDaemon_48 : decode cX0_addDaemon 48 = .ok (.ireturn, 1) := by decide +kernel
theorem dX1_init_0 : decode cX1_init 0 = .ok (.aload_n 0, 1) := by decide +kernel
theorem dX1_init_1 : decode cX1_init 1 = .ok (.invokespecial 3, 3) := by decide +kernel
theorem dX1_init_4 : decode cX1_init 4 = .ok (.aload_n 0, 1) := by decide +kernel
theorem dX1_init_5 : decode cX1_init 5 = .ok (.bipush 40, 2) := by decide +kernel
theorem dX1_init_7 : decode cX1_init 7 = .ok (.newarray .int, 2) := by decide +kernel
theorem dX1_init_9 : decode cX1_init 9 = .ok (.putfield 9, 3) := by decide +kernel
theorem dX1_init_12 : decode cX1_init 12 = .ok (.aload_n 0, 1) := by decide +kernel
theorem dX1_init_13 : decode cX1_init 13 = .ok (.bipush 40, 2) := by decide +kernel
theorem dX1_init_15 : decode cX1_init 15 = .ok (.newarray .int, 2) := by decide +kernel
theorem dX1_init_17 : decode cX1_init 17 = .ok (.putfield 15, 3) := by decide +kernel
theorem dX1_init_20 : decode cX1_init 20 = .ok (.aload_n 0, 1) := by decide +kernel
theorem dX1_init_21 : decode cX1_init 21 = .ok (.bipush 40, 2) := by decide +kernel
theorem dX1_init_23 : decode cX1_init 23 = .ok (.newarray .int, 2) := by decide +kernel
theorem dX1_init_25 : decode cX1_init 25 = .ok (.putfield 18, 3) := by decide +kernel
theorem dX1_init_28 : decode cX1_init 28 = .ok (.aload_n 0, 1) := by decide +kernel
theorem dX1_init_29 : decode cX1_init 29 = .ok (.bipush 40, 2) := by decide +kernel
theorem dX1_init_31 : decode cX1_init 31 = .ok (.newarray .int, 2) := by decide +kernel
theorem dX1_init_33 : decode cX1_init 33 = .ok (.putfield 21, 3) := by decide +kernel
theorem dX1_init_36 : decode cX1_init 36 = .ok (.aload_n 0, 1) := by decide +kernel
theorem dX1_init_37 : decode cX1_init 37 = .ok (.bipush 40, 2) := by decide +kernel
theorem dX1_init_39 : decode cX1_init 39 = .ok (.newarray .int, 2) := by decide +kernel
theorem dX1_init_41 : decode cX1_init 41 = .ok (.putfield 24, 3) := by decide +kernel
theorem dX1_init_44 : decode cX1_init 44 = .ok (.return_, 1) := by decide +kernel
theorem dX1_addDeed_0 : decode cX1_addDeed 0 = .ok (.aload_n 0, 1) := by decide +kernel
theorem dX1_addDeed_1 : decode cX1_addDeed 1 = .ok (.getfield 27, 3) := by decide +kernel
theorem dX1_addDeed_4 : decode cX1_addDeed 4 = .ok (.bipush 40, 2) := by decide +kernel
theorem dX1_addDeed_6 : decode cX1_addDeed 6 = .ok (.if_icmp .lt 6, 3) := by decide +kernel
theorem dX1_addDeed_9 : decode cX1_addDeed 9 = .ok (.bipush (-5), 2) := by decide +kernel
theorem dX1_addDeed_11 : decode cX1_addDeed 11 = .ok (.ireturn, 1) := by decide +kernel
theorem dX1_addDeed_12 : decode cX1_addDeed 12 = .ok (.aload_n 0, 1) := by decide +kernel
theorem dX1_addDeed_13 : decode cX1_addDeed 13 = .ok (.getfield 9, 3) := by decide +kernel
theorem dX1_addDeed_16 : decode cX1_addDeed 16 = .ok (.aload_n 0, 1) := by decide +kernel
theorem dX1_addDeed_17 : decode cX1_addDeed 17 = .ok (.getfield 27, 3) := by decide +kernel
theorem dX1_addDeed_20 : decode cX1_addDeed 20 = .ok (.iload_n 1, 1) := by decide +kernel
theorem dX1_addDeed_21 : decode cX1_addDeed 21 = .ok (.iastore, 1) := by decide +kernel
theorem dX1_addDeed_22 : decode cX1_addDeed 22 = .ok (.aload_n 0, 1) := by decide +kernel
theorem dX1_addDeed_23 : decode cX1_addDeed 23 = .ok (.getfield 15, 3) := by decide +kernel
theorem dX1_addDeed_26 : decode cX1_addDeed 26 = .ok (.aload_n 0, 1) := by decide +kernel
theorem dX1_addDeed_27 : decode cX1_addDeed 27 = .ok (.getfield 27, 3) := by decide +kernel
theorem dX1_addDeed_30 : decode cX1_addDeed 30 = .ok (.iload_n 2, 1) := by decide +kernel
theorem dX1_addDeed_31 : decode cX1_addDeed 31 = .ok (.iastore, 1) := by decide +kernel
theorem dX1_addDeed_32 : decode cX1_addDeed 32 = .ok (.aload_n 0, 1) := by decide +kernel
theorem dX1_addDeed_33 : decode cX1_addDeed 33 = .ok (.getfield 18, 3) := by decide +kernel
theorem dX1_addDeed_36 : decode cX1_addDeed 36 = .ok (.aload_n 0, 1) := by decide +kernel
theorem dX1_addDeed_37 : decode cX1_addDeed 37 = .ok (.getfield 27, 3) := by decide +kernel
theorem dX1_addDeed_40 : decode cX1_addDeed 40 = .ok (.iload_n 3, 1) := by decide +kernel
theorem dX1_addDeed_41 : decode cX1_addDeed 41 = .ok (.iastore, 1) := by decide +kernel
theorem dX1_addDeed_42 : decode cX1_addDeed 42 = .ok (.aload_n 0, 1) := by decide +kernel
theorem dX1_addDeed_43 : decode cX1_addDeed 43 = .ok (.getfield 21, 3) := by decide +kernel
theorem dX1_addDeed_46 : decode cX1_addDeed 46 = .ok (.aload_n 0, 1) := by decide +kernel
theorem dX1_addDeed_47 : decode cX1_addDeed 47 = .ok (.getfield 27, 3) := by decide +kernel
theorem dX1_addDeed_50 : decode cX1_addDeed 50 = .ok (.iconst (-1), 1) := by decide +kernel
theorem dX1_addDeed_51 : decode cX1_addDeed 51 = .ok (.iastore, 1) := by decide +kernel
theorem dX1_addDeed_52 : decode cX1_addDeed 52 = .ok (.aload_n 0, 1) := by decide +kernel
theorem dX1_addDeed_53 : decode cX1_addDeed 53 = .ok (.dup, 1) := by decide +kernel
theorem dX1_addDeed_54 : decode cX1_addDeed 54 = .ok (.getfield 27, 3) := by decide +kernel
theorem dX1_addDeed_57 : decode cX1_addDeed 57 = .ok (.iconst 1, 1) := by decide +kernel
theorem dX1_addDeed_58 : decode cX1_addDeed 58 = .ok (.iadd, 1) := by decide +kernel
theorem dX1_addDeed_59 : decode cX1_addDeed 59 = .ok (.putfield 27, 3) := by decide +kernel
theorem dX1_addDeed_62 : decode cX1_addDeed 62 = .ok (.aload_n 0, 1) := by decide +kernel
theorem dX1_addDeed_63 : decode cX1_addDeed 63 = .ok (.getfield 27, 3) := by decide +kernel
theorem dX1_addDeed_66 : decode cX1_addDeed 66 = .ok (.iconst 1, 1) := by decide +kernel
theorem dX1_addDeed_67 : decode cX1_addDeed 67 = .ok (.isub, 1) := by decide +kernel
theorem dX1_addDeed_68 : decode cX1_addDeed 68 = .ok (.ireturn, 1) := by decide +kernel
theorem dX2_init_0 : decode cX2_init 0 = .ok (.aload_n 0, 1) := by decide +kernel
theorem dX2_init_1 : decode cX2_init 1 = .ok (.invokespecial 3, 3) := by decide +kernel
theorem dX2_init_4 : decode cX2_init 4 = .ok (.aload_n 0, 1) := by decide +kernel
theorem dX2_init_5 : decode cX2_init 5 = .ok (.bipush 12, 2) := by decide +kernel
theorem dX2_init_7 : decode cX2_init 7 = .ok (.newarray .int, 2) := by decide +kernel
theorem dX2_init_9 : decode cX2_init 9 = .ok (.putfield 9, 3) := by decide +kernel
theorem dX2_init_12 : decode cX2_init 12 = .ok (.aload_n 0, 1) := by decide +kernel
theorem dX2_init_13 : decode cX2_init 13 = .ok (.bipush 12, 2) := by decide +kernel
theorem dX2_init_15 : decode cX2_init 15 = .ok (.newarray .int, 2) := by decide +kernel
theorem dX2_init_17 : decode cX2_init 17 = .ok (.putfield 15, 3) := by decide +kernel
theorem dX2_init_20 : decode cX2_init 20 = .ok (.aload_n 0, 1) := by decide +kernel
theorem dX2_init_21 : decode cX2_init 21 = .ok (.bipush 12, 2) := by decide +kernel
theorem dX2_init_23 : decode cX2_init 23 = .ok (.newarray .boolean, 2) := by decide +kernel
theorem dX2_init_25 : decode cX2_init 25 = .ok (.putfield 18, 3) := by decide +kernel
theorem dX2_init_28 : decode cX2_init 28 = .ok (.aload_n 0, 1) := by decide +kernel
theorem dX2_init_29 : decode cX2_init 29 = .ok (.bipush 12, 2) := by decide +kernel
theorem dX2_init_31 : decode cX2_init 31 = .ok (.newarray .int, 2) := by decide +kernel
theorem dX2_init_33 : decode cX2_init 33 = .ok (.putfield 22, 3) := by decide +kernel
theorem dX2_init_36 : decode cX2_init 36 = .ok (.aload_n 0, 1) := by decide +kernel
theorem dX2_init_37 : decode cX2_init 37 = .ok (.bipush 12, 2) := by decide +kernel
theorem dX2_init_39 : decode cX2_init 39 = .ok (.newarray .int, 2) := by decide +kernel
theorem dX2_init_41 : decode cX2_init 41 = .ok (.putfield 25, 3) := by decide +kernel
theorem dX2_init_44 : decode cX2_init 44 = .ok (.return_, 1) := by decide +kernel
theorem dX2_addEvent_0 : decode cX2_addEvent 0 = .ok (.aload_n 0, 1) := by decide +kernel
theorem dX2_addEvent_1 : decode cX2_addEvent 1 = .ok (.getfield 28, 3) := by decide +kernel
theorem dX2_addEvent_4 : decode cX2_addEvent 4 = .ok (.bipush 12, 2) := by decide +kernel
theorem dX2_addEvent_6 : decode cX2_addEvent 6 = .ok (.if_icmp .lt 6, 3) := by decide +kernel
theorem dX2_addEvent_9 : decode cX2_addEvent 9 = .ok (.bipush (-5), 2) := by decide +kernel
theorem dX2_addEvent_11 : decode cX2_addEvent 11 = .ok (.ireturn, 1) := by decide +kernel
theorem dX2_addEvent_12 : decode cX2_addEvent 12 = .ok (.aload_n 0, 1) := by decide +kernel
theorem dX2_addEvent_13 : decode cX2_addEvent 13 = .ok (.getfield 9, 3) := by decide +kernel
theorem dX2_addEvent_16 : decode cX2_addEvent 16 = .ok (.aload_n 0, 1) := by decide +kernel
theorem dX2_addEvent_17 : decode cX2_addEvent 17 = .ok (.getfield 28, 3) := by decide +kernel
theorem dX2_addEvent_20 : decode cX2_addEvent 20 = .ok (.iload_n 1, 1) := by decide +kernel
theorem dX2_addEvent_21 : decode cX2_addEvent 21 = .ok (.iastore, 1) := by decide +kernel
theorem dX2_addEvent_22 : decode cX2_addEvent 22 = .ok (.aload_n 0, 1) := by decide +kernel
theorem dX2_addEvent_23 : decode cX2_addEvent 23 = .ok (.getfield 15, 3) := by decide +kernel
theorem dX2_addEvent_26 : decode cX2_addEvent 26 = .ok (.aload_n 0, 1) := by decide +kernel
theorem dX2_addEvent_27 : decode cX2_addEvent 27 = .ok (.getfield 28, 3) := by decide +kernel
theorem dX2_addEvent_30 : decode cX2_addEvent 30 = .ok (.iload_n 2, 1) := by decide +kernel
theorem dX2_addEvent_31 : decode cX2_addEvent 31 = .ok (.iastore, 1) := by decide +kernel
theorem dX2_addEvent_32 : decode cX2_addEvent 32 = .ok (.aload_n 0, 1) := by decide +kernel
theorem dX2_addEvent_33 : decode cX2_addEvent 33 = .ok (.getfield 18, 3) := by decide +kernel
theorem dX2_addEvent_36 : decode cX2_addEvent 36 = .ok (.aload_n 0, 1) := by decide +kernel
theorem dX2_addEvent_37 : decode cX2_addEvent 37 = .ok (.getfield 28, 3) := by decide +kernel
theorem dX2_addEvent_40 : decode cX2_addEvent 40 = .ok (.iload_n 3, 1) := by decide +kernel
theorem dX2_addEvent_41 : decode cX2_addEvent 41 = .ok (.bastore, 1) := by decide +kernel
theorem dX2_addEvent_42 : decode cX2_addEvent 42 = .ok (.aload_n 0, 1) := by decide +kernel
theorem dX2_addEvent_43 : decode cX2_addEvent 43 = .ok (.dup, 1) := by decide +kernel
theorem dX2_addEvent_44 : decode cX2_addEvent 44 = .ok (.getfield 28, 3) := by decide +kernel
theorem dX2_addEvent_47 : decode cX2_addEvent 47 = .ok (.iconst 1, 1) := by decide +kernel
theorem dX2_addEvent_48 : decode cX2_addEvent 48 = .ok (.iadd, 1) := by decide +kernel
theorem dX2_addEvent_49 : decode cX2_addEvent 49 = .ok (.putfield 28, 3) := by decide +kernel
theorem dX2_addEvent_52 : decode cX2_addEvent 52 = .ok (.aload_n 0, 1) := by decide +kernel
theorem dX2_addEvent_53 : decode cX2_addEvent 53 = .ok (.getfield 28, 3) := by decide +kernel
theorem dX2_addEvent_56 : decode cX2_addEvent 56 = .ok (.iconst 1, 1) := by decide +kernel
theorem dX2_addEvent_57 : decode cX2_addEvent 57 = .ok (.isub, 1) := by decide +kernel
theorem dX2_addEvent_58 : decode cX2_addEvent 58 = .ok (.ireturn, 1) := by decide +kernel
theorem dX2_putInOrder_0 : decode cX2_putInOrder 0 = .ok (.iload_n 3, 1) := by decide +kernel
theorem dX2_putInOrder_1 : decode cX2_putInOrder 1 = .ok (.bipush 12, 2) := by decide +kernel
theorem dX2_putInOrder_3 : decode cX2_putInOrder 3 = .ok (.if_icmp .lt 4, 3) := by decide +kernel
theorem dX2_putInOrder_6 : decode cX2_putInOrder 6 = .ok (.return_, 1) := by decide +kernel
theorem dX2_putInOrder_7 : decode cX2_putInOrder 7 = .ok (.iload_n 3, 1) := by decide +kernel
theorem dX2_putInOrder_8 : decode cX2_putInOrder 8 = .ok (.istore 4, 2) := by decide +kernel
theorem dX2_putInOrder_10 : decode cX2_putInOrder 10 = .ok (.iload 4, 2) := by decide +kernel
theorem dX2_putInOrder_12 : decode cX2_putInOrder 12 = .ok (.ifCond .le 54, 3) := by decide +kernel
theorem dX2_putInOrder_15 : decode cX2_putInOrder 15 = .ok (.aload_n 0, 1) := by decide +kernel
theorem dX2_putInOrder_16 : decode cX2_putInOrder 16 = .ok (.getfield 25, 3) := by decide +kernel
theorem dX2_putInOrder_19 : decode cX2_putInOrder 19 = .ok (.iload 4, 2) := by decide +kernel
theorem dX2_putInOrder_21 : decode cX2_putInOrder 21 = .ok (.iconst 1, 1) := by decide +kernel
theorem dX2_putInOrder_22 : decode cX2_putInOrder 22 = .ok (.isub, 1) := by decide +kernel
theorem dX2_putInOrder_23 : decode cX2_putInOrder 23 = .ok (.iaload, 1) := by decide +kernel
theorem dX2_putInOrder_24 : decode cX2_putInOrder 24 = .ok (.iload_n 2, 1) := by decide +kernel
theorem dX2_putInOrder_25 : decode cX2_putInOrder 25 = .ok (.if_icmp .le 41, 3) := by decide +kernel
theorem dX2_putInOrder_28 : decode cX2_putInOrder 28 = .ok (.aload_n 0, 1) := by decide +kernel
theorem dX2_putInOrder_29 : decode cX2_putInOrder 29 = .ok (.getfield 22, 3) := by decide +kernel
theorem dX2_putInOrder_32 : decode cX2_putInOrder 32 = .ok (.iload 4, 2) := by decide +kernel
theorem dX2_putInOrder_34 : decode cX2_putInOrder 34 = .ok (.aload_n 0, 1) := by decide +kernel
theorem dX2_putInOrder_35 : decode cX2_putInOrder 35 = .ok (.getfield 22, 3) := by decide +kernel
theorem dX2_putInOrder_38 : decode cX2_putInOrder 38 = .ok (.iload 4, 2) := by decide +kernel
theorem dX2_putInOrder_40 : decode cX2_putInOrder 40 = .ok (.iconst 1, 1) := by decide +kernel
theorem dX2_putInOrder_41 : decode cX2_putInOrder 41 = .ok (.isub, 1) := by decide +kernel
theorem dX2_putInOrder_42 : decode cX2_putInOrder 42 = .ok (.iaload, 1) := by decide +kernel
theorem dX2_putInOrder_43 : decode cX2_putInOrder 43 = .ok (.iastore, 1) := by decide +kernel
theorem dX2_putInOrder_44 : decode cX2_putInOrder 44 = .ok (.aload_n 0, 1) := by decide +kernel
theorem dX2_putInOrder_45 : decode cX2_putInOrder 45 = .ok (.getfield 25, 3) := by decide +kernel
theorem dX2_putInOrder_48 : decode cX2_putInOrder 48 = .ok (.iload 4, 2) := by decide +kernel
theorem dX2_putInOrder_50 : decode cX2_putInOrder 50 = .ok (.aload_n 0, 1) := by decide +kernel
theorem dX2_putInOrder_51 : decode cX2_putInOrder 51 = .ok (.getfield 25, 3) := by decide +kernel
theorem dX2_putInOrder_54 : decode cX2_putInOrder 54 = .ok (.iload 4, 2) := by decide +kernel
theorem dX2_putInOrder_56 : decode cX2_putInOrder 56 = .ok (.iconst 1, 1) := by decide +kernel
theorem dX2_putInOrder_57 : decode cX2_putInOrder 57 = .ok (.isub, 1) := by decide +kernel
theorem dX2_putInOrder_58 : decode cX2_putInOrder 58 = .ok (.iaload, 1) := by decide +kernel
theorem dX2_putInOrder_59 : decode cX2_putInOrder 59 = .ok (.iastore, 1) := by decide +kernel
theorem dX2_putInOrder_60 : decode cX2_putInOrder 60 = .ok (.iinc 4 (-1), 3) := by decide +kernel
theorem dX2_putInOrder_63 : decode cX2_putInOrder 63 = .ok (.goto (-53), 3) := by decide +kernel
theorem dX2_putInOrder_66 : decode cX2_putInOrder 66 = .ok (.aload_n 0, 1) := by decide +kernel
theorem dX2_putInOrder_67 : decode cX2_putInOrder 67 = .ok (.getfield 22, 3) := by decide +kernel
theorem dX2_putInOrder_70 : decode cX2_putInOrder 70 = .ok (.iload 4, 2) := by decide +kernel
theorem dX2_putInOrder_72 : decode cX2_putInOrder 72 = .ok (.iload_n 1, 1) := by decide +kernel
theorem dX2_putInOrder_73 : decode cX2_putInOrder 73 = .ok (.iastore, 1) := by decide +kernel
theorem dX2_putInOrder_74 : decode cX2_putInOrder 74 = .ok (.aload_n 0, 1) := by decide +kernel
theorem dX2_putInOrder_75 : decode cX2_putInOrder 75 = .ok (.getfield 25, 3) := by decide +kernel
theorem dX2_putInOrder_78 : decode cX2_putInOrder 78 = .ok (.iload 4, 2) := by decide +kernel
theorem dX2_putInOrder_80 : decode cX2_putInOrder 80 = .ok (.iload_n 2, 1) := by decide +kernel
theorem dX2_putInOrder_81 : decode cX2_putInOrder 81 = .ok (.iastore, 1) := by decide +kernel
theorem dX2_putInOrder_82 : decode cX2_putInOrder 82 = .ok (.return_, 1) := by decide +kernel
theorem dX3_init_0 : decode cX3_init 0 = .ok (.aload_n 0, 1) := by decide +kernel
theorem dX3_init_1 : decode cX3_init 1 = .ok (.invokespecial 3, 3) := by decide +kernel
theorem dX3_init_4 : decode cX3_init 4 = .ok (.aload_n 0, 1) := by decide +kernel
theorem dX3_init_5 : decode cX3_init 5 = .ok (.bipush 15, 2) := by decide +kernel
theorem dX3_init_7 : decode cX3_init 7 = .ok (.newarray .int, 2) := by decide +kernel
theorem dX3_init_9 : decode cX3_init 9 = .ok (.putfield 9, 3) := by decide +kernel
theorem dX3_init_12 : decode cX3_init 12 = .ok (.aload_n 0, 1) := by decide +kernel
theorem dX3_init_13 : decode cX3_init 13 = .ok (.bipush 15, 2) := by decide +kernel
theorem dX3_init_15 : decode cX3_init 15 = .ok (.newarray .int, 2) := by decide +kernel
theorem dX3_init_17 : decode cX3_init 17 = .ok (.putfield 15, 3) := by decide +kernel
theorem dX3_init_20 : decode cX3_init 20 = .ok (.aload_n 0, 1) := by decide +kernel
theorem dX3_init_21 : decode cX3_init 21 = .ok (.bipush 10, 2) := by decide +kernel
theorem dX3_init_23 : decode cX3_init 23 = .ok (.newarray .int, 2) := by decide +kernel
theorem dX3_init_25 : decode cX3_init 25 = .ok (.putfield 18, 3) := by decide +kernel
theorem dX3_init_28 : decode cX3_init 28 = .ok (.return_, 1) := by decide +kernel
theorem dX3_addRoom_0 : decode cX3_addRoom 0 = .ok (.aload_n 0, 1) := by decide +kernel
theorem dX3_addRoom_1 : decode cX3_addRoom 1 = .ok (.getfield 21, 3) := by decide +kernel
theorem dX3_addRoom_4 : decode cX3_addRoom 4 = .ok (.bipush 10, 2) := by decide +kernel
theorem dX3_addRoom_6 : decode cX3_addRoom 6 = .ok (.if_icmp .lt 6, 3) := by decide +kernel
theorem dX3_addRoom_9 : decode cX3_addRoom 9 = .ok (.bipush (-5), 2) := by decide +kernel
theorem dX3_addRoom_11 : decode cX3_addRoom 11 = .ok (.ireturn, 1) := by decide +kernel
theorem dX3_addRoom_12 : decode cX3_addRoom 12 = .ok (.aload_n 0, 1) := by decide +kernel
theorem dX3_addRoom_13 : decode cX3_addRoom 13 = .ok (.dup, 1) := by decide +kernel
theorem dX3_addRoom_14 : decode cX3_addRoom 14 = .ok (.getfield 21, 3) := by decide +kernel
theorem dX3_addRoom_17 : decode cX3_addRoom 17 = .ok (.iconst 1, 1) := by decide +kernel
theorem dX3_addRoom_18 : decode cX3_addRoom 18 = .ok (.iadd, 1) := by decide +kernel
theorem dX3_addRoom_19 : decode cX3_addRoom 19 = .ok (.putfield 21, 3) := by decide +kernel
theorem dX3_addRoom_22 : decode cX3_addRoom 22 = .ok (.aload_n 0, 1) := by decide +kernel
theorem dX3_addRoom_23 : decode cX3_addRoom 23 = .ok (.getfield 21, 3) := by decide +kernel
theorem dX3_addRoom_26 : decode cX3_addRoom 26 = .ok (.iconst 1, 1) := by decide +kernel
theorem dX3_addRoom_27 : decode cX3_addRoom 27 = .ok (.isub, 1) := by decide +kernel
theorem dX3_addRoom_28 : decode cX3_addRoom 28 = .ok (.ireturn, 1) := by decide +kernel
theorem dX3_addDoor_0 : decode cX3_addDoor 0 = .ok (.aload_n 0, 1) := by decide +kernel
theorem dX3_addDoor_1 : decode cX3_addDoor 1 = .ok (.getfield 25, 3) := by decide +kernel
theorem dX3_addDoor_4 : decode cX3_addDoor 4 = .ok (.bipush 15, 2) := by decide +kernel
theorem dX3_addDoor_6 : decode cX3_addDoor 6 = .ok (.if_icmp .lt 6, 3) := by decide +kernel
theorem dX3_addDoor_9 : decode cX3_addDoor 9 = .ok (.bipush (-5), 2) := by decide +kernel
theorem dX3_addDoor_11 : decode cX3_addDoor 11 = .ok (.ireturn, 1) := by decide +kernel
theorem dX3_addDoor_12 : decode cX3_addDoor 12 = .ok (.aload_n 0, 1) := by decide +kernel
theorem dX3_addDoor_13 : decode cX3_addDoor 13 = .ok (.getfield 9, 3) := by decide +kernel
theorem dX3_addDoor_16 : decode cX3_addDoor 16 = .ok (.aload_n 0, 1) := by decide +kernel
theorem dX3_addDoor_17 : decode cX3_addDoor 17 = .ok (.getfield 25, 3) := by decide +kernel
theorem dX3_addDoor_20 : decode cX3_addDoor 20 = .ok (.iload_n 1, 1) := by decide +kernel
theorem dX3_addDoor_21 : decode cX3_addDoor 21 = .ok (.iastore, 1) := by decide +kernel
theorem dX3_addDoor_22 : decode cX3_addDoor 22 = .ok (.aload_n 0, 1) := by decide +kernel
theorem dX3_addDoor_23 : decode cX3_addDoor 23 = .ok (.getfield 15, 3) := by decide +kernel
theorem dX3_addDoor_26 : decode cX3_addDoor 26 = .ok (.aload_n 0, 1) := by decide +kernel
theorem dX3_addDoor_27 : decode cX3_addDoor 27 = .ok (.getfield 25, 3) := by decide +kernel
theorem dX3_addDoor_30 : decode cX3_addDoor 30 = .ok (.iload_n 2, 1) := by decide +kernel
theorem dX3_addDoor_31 : decode cX3_addDoor 31 = .ok (.iastore, 1) := by decide +kernel
theorem dX3_addDoor_32 : decode cX3_addDoor 32 = .ok (.aload_n 0, 1) := by decide +kernel
theorem dX3_addDoor_33 : decode cX3_addDoor 33 = .ok (.dup, 1) := by decide +kernel
theorem dX3_addDoor_34 : decode cX3_addDoor 34 = .ok (.getfield 25, 3) := by decide +kernel
theorem dX3_addDoor_37 : decode cX3_addDoor 37 = .ok (.iconst 1, 1) := by decide +kernel
theorem dX3_addDoor_38 : decode cX3_addDoor 38 = .ok (.iadd, 1) := by decide +kernel
theorem dX3_addDoor_39 : decode cX3_addDoor 39 = .ok (.putfield 25, 3) := by decide +kernel
theorem dX3_addDoor_42 : decode cX3_addDoor 42 = .ok (.aload_n 0, 1) := by decide +kernel
theorem dX3_addDoor_43 : decode cX3_addDoor 43 = .ok (.getfield 25, 3) := by decide +kernel
theorem dX3_addDoor_46 : decode cX3_addDoor 46 = .ok (.iconst 1, 1) := by decide +kernel
theorem dX3_addDoor_47 : decode cX3_addDoor 47 = .ok (.isub, 1) := by decide +kernel
theorem dX3_addDoor_48 : decode cX3_addDoor 48 = .ok (.ireturn, 1) := by decide +kernel
theorem dX3_addWalker_0 : decode cX3_addWalker 0 = .ok (.aload_n 0, 1) := by decide +kernel
theorem dX3_addWalker_1 : decode cX3_addWalker 1 = .ok (.getfield 28, 3) := by decide +kernel
theorem dX3_addWalker_4 : decode cX3_addWalker 4 = .ok (.iconst 4, 1) := by decide +kernel
theorem dX3_addWalker_5 : decode cX3_addWalker 5 = .ok (.if_icmp .lt 6, 3) := by decide +kernel
theorem dX3_addWalker_8 : decode cX3_addWalker 8 = .ok (.bipush (-5), 2) := by decide +kernel
theorem dX3_addWalker_10 : decode cX3_addWalker 10 = .ok (.ireturn, 1) := by decide +kernel
theorem dX3_addWalker_11 : decode cX3_addWalker 11 = .ok (.aload_n 0, 1) := by decide +kernel
theorem dX3_addWalker_12 : decode cX3_addWalker 12 = .ok (.dup, 1) := by decide +kernel
theorem dX3_addWalker_13 : decode cX3_addWalker 13 = .ok (.getfield 28, 3) := by decide +kernel
theorem dX3_addWalker_16 : decode cX3_addWalker 16 = .ok (.iconst 1, 1) := by decide +kernel
theorem dX3_addWalker_17 : decode cX3_addWalker 17 = .ok (.iadd, 1) := by decide +kernel
theorem dX3_addWalker_18 : decode cX3_addWalker 18 = .ok (.putfield 28, 3) := by decide +kernel
theorem dX3_addWalker_21 : decode cX3_addWalker 21 = .ok (.aload_n 0, 1) := by decide +kernel
theorem dX3_addWalker_22 : decode cX3_addWalker 22 = .ok (.getfield 28, 3) := by decide +kernel
theorem dX3_addWalker_25 : decode cX3_addWalker 25 = .ok (.iconst 1, 1) := by decide +kernel
theorem dX3_addWalker_26 : decode cX3_addWalker 26 = .ok (.isub, 1) := by decide +kernel
theorem dX3_addWalker_27 : decode cX3_addWalker 27 = .ok (.ireturn, 1) := by decide +kernel
theorem dX3_nextRoom_0 : decode cX3_nextRoom 0 = .ok (.aload_n 0, 1) := by decide +kernel
theorem dX3_nextRoom_1 : decode cX3_nextRoom 1 = .ok (.iload_n 2, 1) := by decide +kernel
theorem dX3_nextRoom_2 : decode cX3_nextRoom 2 = .ok (.aload_n 3, 1) := by decide +kernel
theorem dX3_nextRoom_3 : decode cX3_nextRoom 3 = .ok (.invokevirtual 31, 3) := by decide +kernel
theorem dX3_nextRoom_6 : decode cX3_nextRoom 6 = .ok (.iconst (-1), 1) := by decide +kernel
theorem dX3_nextRoom_7 : decode cX3_nextRoom 7 = .ok (.istore 4, 2) := by decide +kernel
theorem dX3_nextRoom_9 : decode cX3_nextRoom 9 = .ok (.iconst 0, 1) := by decide +kernel
theorem dX3_nextRoom_10 : decode cX3_nextRoom 10 = .ok (.istore 5, 2) := by decide +kernel
theorem dX3_nextRoom_12 : decode cX3_nextRoom 12 = .ok (.iload 5, 2) := by decide +kernel
theorem dX3_nextRoom_14 : decode cX3_nextRoom 14 = .ok (.aload_n 0, 1) := by decide +kernel
theorem dX3_nextRoom_15 : decode cX3_nextRoom 15 = .ok (.getfield 25, 3) := by decide +kernel
theorem dX3_nextRoom_18 : decode cX3_nextRoom 18 = .ok (.if_icmp .ge 58, 3) := by decide +kernel
theorem dX3_nextRoom_21 : decode cX3_nextRoom 21 = .ok (.aload_n 0, 1) := by decide +kernel
theorem dX3_nextRoom_22 : decode cX3_nextRoom 22 = .ok (.iload 5, 2) := by decide +kernel
theorem dX3_nextRoom_24 : decode cX3_nextRoom 24 = .ok (.iload_n 1, 1) := by decide +kernel
theorem dX3_nextRoom_25 : decode cX3_nextRoom 25 = .ok (.invokevirtual 35, 3) := by decide +kernel
theorem dX3_nextRoom_28 : decode cX3_nextRoom 28 = .ok (.istore 6, 2) := by decide +kernel
theorem dX3_nextRoom_30 : decode cX3_nextRoom 30 = .ok (.aload_n 3, 1) := by decide +kernel
theorem dX3_nextRoom_31 : decode cX3_nextRoom 31 = .ok (.iload 5, 2) := by decide +kernel
theorem dX3_nextRoom_33 : decode cX3_nextRoom 33 = .ok (.baload, 1) := by decide +kernel
theorem dX3_nextRoom_34 : decode cX3_nextRoom 34 = .ok (.ifCond .ne 36, 3) := by decide +kernel
theorem dX3_nextRoom_37 : decode cX3_nextRoom 37 = .ok (.iload 6, 2) := by decide +kernel
theorem dX3_nextRoom_39 : decode cX3_nextRoom 39 = .ok (.iconst (-1), 1) := by decide +kernel
theorem dX3_nextRoom_40 : decode cX3_nextRoom 40 = .ok (.if_icmp .eq 30, 3) := by decide +kernel
theorem dX3_nextRoom_43 : decode cX3_nextRoom 43 = .ok (.aload_n 0, 1) := by decide +kernel
theorem dX3_nextRoom_44 : decode cX3_nextRoom 44 = .ok (.iload 6, 2) := by decide +kernel
theorem dX3_nextRoom_46 : decode cX3_nextRoom 46 = .ok (.iload_n 1, 1) := by decide +kernel
theorem dX3_nextRoom_47 : decode cX3_nextRoom 47 = .ok (.invokevirtual 39, 3) := by decide +kernel
theorem dX3_nextRoom_50 : decode cX3_nextRoom 50 = .ok (.ifCond .eq 20, 3) := by decide +kernel
theorem dX3_nextRoom_53 : decode cX3_nextRoom 53 = .ok (.iload 4, 2) := by decide +kernel
theorem dX3_nextRoom_55 : decode cX3_nextRoom 55 = .ok (.iconst (-1), 1) := by decide +kernel
theorem dX3_nextRoom_56 : decode cX3_nextRoom 56 = .ok (.if_icmp .eq 10, 3) := by decide +kernel
theorem dX3_nextRoom_59 : decode cX3_nextRoom 59 = .ok (.iload 6, 2) := by decide +kernel
theorem dX3_nextRoom_61 : decode cX3_nextRoom 61 = .ok (.iload 4, 2) := by decide +kernel
theorem dX3_nextRoom_63 : decode cX3_nextRoom 63 = .ok (.if_icmp .ge 7, 3) := by decide +kernel
theorem dX3_nextRoom_66 : decode cX3_nextRoom 66 = .ok (.iload 6, 2) := by decide +kernel
theorem dX3_nextRoom_68 : decode cX3_nextRoom 68 = .ok (.istore 4, 2) := by decide +kernel
theorem dX3_nextRoom_70 : decode cX3_nextRoom 70 = .ok (.iinc 5 1, 3) := by decide +kernel
theorem dX3_nextRoom_73 : decode cX3_nextRoom 73 = .ok (.goto (-61), 3) := by decide +kernel
theorem dX3_nextRoom_76 : decode cX3_nextRoom 76 = .ok (.iload 4, 2) := by decide +kernel
theorem dX3_nextRoom_78 : decode cX3_nextRoom 78 = .ok (.ireturn, 1) := by decide +kernel
theorem dX3_beyondDoor_0 : decode cX3_beyondDoor 0 = .ok (.aload_n 0, 1) := by decide +kernel
theorem dX3_beyondDoor_1 : decode cX3_beyondDoor 1 = .ok (.getfield 9, 3) := by decide +kernel
theorem dX3_beyondDoor_4 : decode cX3_beyondDoor 4 = .ok (.iload_n 1, 1) := by decide +kernel
theorem dX3_beyondDoor_5 : decode cX3_beyondDoor 5 = .ok (.iaload, 1) := by decide +kernel
theorem dX3_beyondDoor_6 : decode cX3_beyondDoor 6 = .ok (.iload_n 2, 1) := by decide +kernel
theorem dX3_beyondDoor_7 : decode cX3_beyondDoor 7 = .ok (.if_icmp .ne 10, 3) := by decide +kernel
theorem dX3_beyondDoor_10 : decode cX3_beyondDoor 10 = .ok (.aload_n 0, 1) := by decide +kernel
theorem dX3_beyondDoor_11 : decode cX3_beyondDoor 11 = .ok (.getfield 15, 3) := by decide +kernel
theorem dX3_beyondDoor_14 : decode cX3_beyondDoor 14 = .ok (.iload_n 1, 1) := by decide +kernel
theorem dX3_beyondDoor_15 : decode cX3_beyondDoor 15 = .ok (.iaload, 1) := by decide +kernel
theorem dX3_beyondDoor_16 : decode cX3_beyondDoor 16 = .ok (.ireturn, 1) := by decide +kernel
theorem dX3_beyondDoor_17 : decode cX3_beyondDoor 17 = .ok (.aload_n 0, 1) := by decide +kernel
theorem dX3_beyondDoor_18 : decode cX3_beyondDoor 18 = .ok (.getfield 15, 3) := by decide +kernel
theorem dX3_beyondDoor_21 : decode cX3_beyondDoor 21 = .ok (.iload_n 1, 1) := by decide +kernel
theorem dX3_beyondDoor_22 : decode cX3_beyondDoor 22 = .ok (.iaload, 1) := by decide +kernel
theorem dX3_beyondDoor_23 : decode cX3_beyondDoor 23 = .ok (.iload_n 2, 1) := by decide +kernel
theorem dX3_beyondDoor_24 : decode cX3_beyondDoor 24 = .ok (.if_icmp .ne 12, 3) := by decide +kernel
theorem dX3_beyondDoor_27 : decode cX3_beyondDoor 27 = .ok (.aload_n 0, 1) := by decide +kernel
theorem dX3_beyondDoor_28 : decode cX3_beyondDoor 28 = .ok (.getfield 9, 3) := by decide +kernel
theorem dX3_beyondDoor_31 : decode cX3_beyondDoor 31 = .ok (.iload_n 1, 1) := by decide +kernel
theorem dX3_beyondDoor_32 : decode cX3_beyondDoor 32 = .ok (.iaload, 1) := by decide +kernel
theorem dX3_beyondDoor_33 : decode cX3_beyondDoor 33 = .ok (.goto 4, 3) := by decide +kernel
theorem dX3_beyondDoor_36 : decode cX3_beyondDoor 36 = .ok (.iconst (-1), 1) := by decide +kernel
theorem dX3_beyondDoor_37 : decode cX3_beyondDoor 37 = .ok (.ireturn, 1) := by decide +kernel
theorem dX3_isNearer_0 : decode cX3_isNearer 0 = .ok (.aload_n 0, 1) := by decide +kernel
theorem dX3_isNearer_1 : decode cX3_isNearer 1 = .ok (.getfield 18, 3) := by decide +kernel
theorem dX3_isNearer_4 : decode cX3_isNearer 4 = .ok (.iload_n 1, 1) := by decide +kernel
theorem dX3_isNearer_5 : decode cX3_isNearer 5 = .ok (.iaload, 1) := by decide +kernel
theorem dX3_isNearer_6 : decode cX3_isNearer 6 = .ok (.iconst (-1), 1) := by decide +kernel
theorem dX3_isNearer_7 : decode cX3_isNearer 7 = .ok (.if_icmp .eq 22, 3) := by decide +kernel
theorem dX3_isNearer_10 : decode cX3_isNearer 10 = .ok (.aload_n 0, 1) := by decide +kernel
theorem dX3_isNearer_11 : decode cX3_isNearer 11 = .ok (.getfield 18, 3) := by decide +kernel
theorem dX3_isNearer_14 : decode cX3_isNearer 14 = .ok (.iload_n 1, 1) := by decide +kernel
theorem dX3_isNearer_15 : decode cX3_isNearer 15 = .ok (.iaload, 1) := by decide +kernel
theorem dX3_isNearer_16 : decode cX3_isNearer 16 = .ok (.aload_n 0, 1) := by decide +kernel
theorem dX3_isNearer_17 : decode cX3_isNearer 17 = .ok (.getfield 18, 3) := by decide +kernel
theorem dX3_isNearer_20 : decode cX3_isNearer 20 = .ok (.iload_n 2, 1) := by decide +kernel
theorem dX3_isNearer_21 : decode cX3_isNearer 21 = .ok (.iaload, 1) := by decide +kernel
theorem dX3_isNearer_22 : decode cX3_isNearer 22 = .ok (.if_icmp .ge 7, 3) := by decide +kernel
theorem dX3_isNearer_25 : decode cX3_isNearer 25 = .ok (.iconst 1, 1) := by decide +kernel
theorem dX3_isNearer_26 : decode cX3_isNearer 26 = .ok (.goto 4, 3) := by decide +kernel
theorem dX3_isNearer_29 : decode cX3_isNearer 29 = .ok (.iconst 0, 1) := by decide +kernel
theorem dX3_isNearer_30 : decode cX3_isNearer 30 = .ok (.ireturn, 1) := by decide +kernel
theorem dX3_measureTo_0 : decode cX3_measureTo 0 = .ok (.iconst 0, 1) := by decide +kernel
theorem dX3_measureTo_1 : decode cX3_measureTo 1 = .ok (.istore_n 3, 1) := by decide +kernel
theorem dX3_measureTo_2 : decode cX3_measureTo 2 = .ok (.iload_n 3, 1) := by decide +kernel
theorem dX3_measureTo_3 : decode cX3_measureTo 3 = .ok (.aload_n 0, 1) := by decide +kernel
theorem dX3_measureTo_4 : decode cX3_measureTo 4 = .ok (.getfield 21, 3) := by decide +kernel
theorem dX3_measureTo_7 : decode cX3_measureTo 7 = .ok (.if_icmp .ge 16, 3) := by decide +kernel
theorem dX3_measureTo_10 : decode cX3_measureTo 10 = .ok (.aload_n 0, 1) := by decide +kernel
theorem dX3_measureTo_11 : decode cX3_measureTo 11 = .ok (.getfield 18, 3) := by decide +kernel
theorem dX3_measureTo_14 : decode cX3_measureTo 14 = .ok (.iload_n 3, 1) := by decide +kernel
theorem dX3_measureTo_15 : decode cX3_measureTo 15 = .ok (.iconst (-1), 1) := by decide +kernel
theorem dX3_measureTo_16 : decode cX3_measureTo 16 = .ok (.iastore, 1) := by decide +kernel
theorem dX3_measureTo_17 : decode cX3_measureTo 17 = .ok (.iinc 3 1, 3) := by decide +kernel
theorem dX3_measureTo_20 : decode cX3_measureTo 20 = .ok (.goto (-18), 3) := by decide +kernel
theorem dX3_measureTo_23 : decode cX3_measureTo 23 = .ok (.aload_n 0, 1) := by decide +kernel
theorem dX3_measureTo_24 : decode cX3_measureTo 24 = .ok (.getfield 18, 3) := by decide +kernel
theorem dX3_measureTo_27 : decode cX3_measureTo 27 = .ok (.iload_n 1, 1) := by decide +kernel
theorem dX3_measureTo_28 : decode cX3_measureTo 28 = .ok (.iconst 0, 1) := by decide +kernel
theorem dX3_measureTo_29 : decode cX3_measureTo 29 = .ok (.iastore, 1) := by decide +kernel
theorem dX3_measureTo_30 : decode cX3_measureTo 30 = .ok (.iconst 0, 1) := by decide +kernel
theorem dX3_measureTo_31 : decode cX3_measureTo 31 = .ok (.istore_n 3, 1) := by decide +kernel
theorem dX3_measureTo_32 : decode cX3_measureTo 32 = .ok (.iload_n 3, 1) := by decide +kernel
theorem dX3_measureTo_33 : decode cX3_measureTo 33 = .ok (.aload_n 0, 1) := by decide +kernel
theorem dX3_measureTo_34 : decode cX3_measureTo 34 = .ok (.getfield 21, 3) := by decide +kernel
theorem dX3_measureTo_37 : decode cX3_measureTo 37 = .ok (.if_icmp .ge 72, 3) := by decide +kernel
theorem dX3_measureTo_40 : decode cX3_measureTo 40 = .ok (.iconst 0, 1) := by decide +kernel
theorem dX3_measureTo_41 : decode cX3_measureTo 41 = .ok (.istore 4, 2) := by decide +kernel
theorem dX3_measureTo_43 : decode cX3_measureTo 43 = .ok (.iload 4, 2) := by decide +kernel
theorem dX3_measureTo_45 : decode cX3_measureTo 45 = .ok (.aload_n 0, 1) := by decide +kernel
theorem dX3_measureTo_46 : decode cX3_measureTo 46 = .ok (.getfield 25, 3) := by decide +kernel
theorem dX3_measureTo_49 : decode cX3_measureTo 49 = .ok (.if_icmp .ge 54, 3) := by decide +kernel
theorem dX3_measureTo_52 : decode cX3_measureTo 52 = .ok (.aload_n 2, 1) := by decide +kernel
theorem dX3_measureTo_53 : decode cX3_measureTo 53 = .ok (.iload 4, 2) := by decide +kernel
theorem dX3_measureTo_55 : decode cX3_measureTo 55 = .ok (.baload, 1) := by decide +kernel
theorem dX3_measureTo_56 : decode cX3_measureTo 56 = .ok (.ifCond .ne 41, 3) := by decide +kernel
theorem dX3_measureTo_59 : decode cX3_measureTo 59 = .ok (.aload_n 0, 1) := by decide +kernel
theorem dX3_measureTo_60 : decode cX3_measureTo 60 = .ok (.aload_n 0, 1) := by decide +kernel
theorem dX3_measureTo_61 : decode cX3_measureTo 61 = .ok (.getfield 9, 3) := by decide +kernel
theorem dX3_measureTo_64 : decode cX3_measureTo 64 = .ok (.iload 4, 2) := by decide +kernel
theorem dX3_measureTo_66 : decode cX3_measureTo 66 = .ok (.iaload, 1) := by decide +kernel
theorem dX3_measureTo_67 : decode cX3_measureTo 67 = .ok (.aload_n 0, 1) := by decide +kernel
theorem dX3_measureTo_68 : decode cX3_measureTo 68 = .ok (.getfield 15, 3) := by decide +kernel
theorem dX3_measureTo_71 : decode cX3_measureTo 71 = .ok (.iload 4, 2) := by decide +kernel
theorem dX3_measureTo_73 : decode cX3_measureTo 73 = .ok (.iaload, 1) := by decide +kernel
theorem dX3_measureTo_74 : decode cX3_measureTo 74 = .ok (.iload_n 3, 1) := by decide +kernel
theorem dX3_measureTo_75 : decode cX3_measureTo 75 = .ok (.invokevirtual 43, 3) := by decide +kernel
theorem dX3_measureTo_78 : decode cX3_measureTo 78 = .ok (.aload_n 0, 1) := by decide +kernel
theorem dX3_measureTo_79 : decode cX3_measureTo 79 = .ok (.aload_n 0, 1) := by decide +kernel
theorem dX3_measureTo_80 : decode cX3_measureTo 80 = .ok (.getfield 15, 3) := by decide +kernel
theorem dX3_measureTo_83 : decode cX3_measureTo 83 = .ok (.iload 4, 2) := by decide +kernel
theorem dX3_measureTo_85 : decode cX3_measureTo 85 = .ok (.iaload, 1) := by decide +kernel
theorem dX3_measureTo_86 : decode cX3_measureTo 86 = .ok (.aload_n 0, 1) := by decide +kernel
theorem dX3_measureTo_87 : decode cX3_measureTo 87 = .ok (.getfield 9, 3) := by decide +kernel
theorem dX3_measureTo_90 : decode cX3_measureTo 90 = .ok (.iload 4, 2) := by decide +kernel
theorem dX3_measureTo_92 : decode cX3_measureTo 92 = .ok (.iaload, 1) := by decide +kernel
theorem dX3_measureTo_93 : decode cX3_measureTo 93 = .ok (.iload_n 3, 1) := by decide +kernel
theorem dX3_measureTo_94 : decode cX3_measureTo 94 = .ok (.invokevirtual 43, 3) := by decide +kernel
theorem dX3_measureTo_97 : decode cX3_measureTo 97 = .ok (.iinc 4 1, 3) := by decide +kernel
theorem dX3_measureTo_100 : decode cX3_measureTo 100 = .ok (.goto (-57), 3) := by decide +kernel
theorem dX3_measureTo_103 : decode cX3_measureTo 103 = .ok (.iinc 3 1, 3) := by decide +kernel
theorem dX3_measureTo_106 : decode cX3_measureTo 106 = .ok (.goto (-74), 3) := by decide +kernel
theorem dX3_measureTo_109 : decode cX3_measureTo 109 = .ok (.return_, 1) := by decide +kernel
theorem dX3_spread_0 : decode cX3_spread 0 = .ok (.aload_n 0, 1) := by decide +kernel
theorem dX3_spread_1 : decode cX3_spread 1 = .ok (.getfield 18, 3) := by decide +kernel
theorem dX3_spread_4 : decode cX3_spread 4 = .ok (.iload_n 1, 1) := by decide +kernel
theorem dX3_spread_5 : decode cX3_spread 5 = .ok (.iaload, 1) := by decide +kernel
theorem dX3_spread_6 : decode cX3_spread 6 = .ok (.iload_n 3, 1) := by decide +kernel
theorem dX3_spread_7 : decode cX3_spread 7 = .ok (.if_icmp .ne 22, 3) := by decide +kernel
theorem dX3_spread_10 : decode cX3_spread 10 = .ok (.aload_n 0, 1) := by decide +kernel
theorem dX3_spread_11 : decode cX3_spread 11 = .ok (.getfield 18, 3) := by decide +kernel
theorem dX3_spread_14 : decode cX3_spread 14 = .ok (.iload_n 2, 1) := by decide +kernel
theorem dX3_spread_15 : decode cX3_spread 15 = .ok (.iaload, 1) := by decide +kernel
theorem dX3_spread_16 : decode cX3_spread 16 = .ok (.iconst (-1), 1) := by decide +kernel
theorem dX3_spread_17 : decode cX3_spread 17 = .ok (.if_icmp .ne 12, 3) := by decide +kernel
theorem dX3_spread_20 : decode cX3_spread 20 = .ok (.aload_n 0, 1) := by decide +kernel
theorem dX3_spread_21 : decode cX3_spread 21 = .ok (.getfield 18, 3) := by decide +kernel
theorem dX3_spread_24 : decode cX3_spread 24 = .ok (.iload_n 2, 1) := by decide +kernel
theorem dX3_spread_25 : decode cX3_spread 25 = .ok (.iload_n 3, 1) := by decide +kernel
theorem dX3_spread_26 : decode cX3_spread 26 = .ok (.iconst 1, 1) := by decide +kernel
theorem dX3_spread_27 : decode cX3_spread 27 = .ok (.iadd, 1) := by decide +kernel
theorem dX3_spread_28 : decode cX3_spread 28 = .ok (.iastore, 1) := by decide +kernel
theorem dX3_spread_29 : decode cX3_spread 29 = .ok (.return_, 1) := by decide +kernel
theorem dX4_init_0 : decode cX4_init 0 = .ok (.aload_n 0, 1) := by decide +kernel
theorem dX4_init_1 : decode cX4_init 1 = .ok (.invokespecial 3, 3) := by decide +kernel
theorem dX4_init_4 : decode cX4_init 4 = .ok (.aload_n 0, 1) := by decide +kernel
theorem dX4_init_5 : decode cX4_init 5 = .ok (.iconst 1, 1) := by decide +kernel
theorem dX4_init_6 : decode cX4_init 6 = .ok (.putfield 9, 3) := by decide +kernel
theorem dX4_init_9 : decode cX4_init 9 = .ok (.aload_n 0, 1) := by decide +kernel
theorem dX4_init_10 : decode cX4_init 10 = .ok (.bipush 40, 2) := by decide +kernel
theorem dX4_init_12 : decode cX4_init 12 = .ok (.newarray .int, 2) := by decide +kernel
theorem dX4_init_14 : decode cX4_init 14 = .ok (.putfield 15, 3) := by decide +kernel
theorem dX4_init_17 : decode cX4_init 17 = .ok (.aload_n 0, 1) := by decide +kernel
theorem dX4_init_18 : decode cX4_init 18 = .ok (.bipush 40, 2) := by decide +kernel
theorem dX4_init_20 : decode cX4_init 20 = .ok (.newarray .int, 2) := by decide +kernel
theorem dX4_init_22 : decode cX4_init 22 = .ok (.putfield 19, 3) := by decide +kernel
theorem dX4_init_25 : decode cX4_init 25 = .ok (.aload_n 0, 1) := by decide +kernel
theorem dX4_init_26 : decode cX4_init 26 = .ok (.bipush 8, 2) := by decide +kernel
theorem dX4_init_28 : decode cX4_init 28 = .ok (.newarray .int, 2) := by decide +kernel
theorem dX4_init_30 : decode cX4_init 30 = .ok (.putfield 22, 3) := by decide +kernel
theorem dX4_init_33 : decode cX4_init 33 = .ok (.aload_n 0, 1) := by decide +kernel
theorem dX4_init_34 : decode cX4_init 34 = .ok (.bipush 15, 2) := by decide +kernel
theorem dX4_init_36 : decode cX4_init 36 = .ok (.newarray .boolean, 2) := by decide +kernel
theorem dX4_init_38 : decode cX4_init 38 = .ok (.putfield 25, 3) := by decide +kernel
theorem dX4_init_41 : decode cX4_init 41 = .ok (.aload_n 0, 1) := by decide +kernel
theorem dX4_init_42 : decode cX4_init 42 = .ok (.iconst 4, 1) := by decide +kernel
theorem dX4_init_43 : decode cX4_init 43 = .ok (.newarray .int, 2) := by decide +kernel
theorem dX4_init_45 : decode cX4_init 45 = .ok (.putfield 29, 3) := by decide +kernel
theorem dX4_init_48 : decode cX4_init 48 = .ok (.aload_n 0, 1) := by decide +kernel
theorem dX4_init_49 : decode cX4_init 49 = .ok (.iconst 4, 1) := by decide +kernel
theorem dX4_init_50 : decode cX4_init 50 = .ok (.newarray .int, 2) := by decide +kernel
theorem dX4_init_52 : decode cX4_init 52 = .ok (.putfield 32, 3) := by decide +kernel
theorem dX4_init_55 : decode cX4_init 55 = .ok (.aload_n 0, 1) := by decide +kernel
theorem dX4_init_56 : decode cX4_init 56 = .ok (.bipush 12, 2) := by decide +kernel
theorem dX4_init_58 : decode cX4_init 58 = .ok (.newarray .int, 2) := by decide +kernel
theorem dX4_init_60 : decode cX4_init 60 = .ok (.putfield 35, 3) := by decide +kernel
theorem dX4_init_63 : decode cX4_init 63 = .ok (.aload_n 0, 1) := by decide +kernel
theorem dX4_init_64 : decode cX4_init 64 = .ok (.bipush 12, 2) := by decide +kernel
theorem dX4_init_66 : decode cX4_init 66 = .ok (.newarray .boolean, 2) := by decide +kernel
theorem dX4_init_68 : decode cX4_init 68 = .ok (.putfield 38, 3) := by decide +kernel
theorem dX4_init_71 : decode cX4_init 71 = .ok (.aload_n 0, 1) := by decide +kernel
theorem dX4_init_72 : decode cX4_init 72 = .ok (.bipush 12, 2) := by decide +kernel
theorem dX4_init_74 : decode cX4_init 74 = .ok (.newarray .boolean, 2) := by decide +kernel
theorem dX4_init_76 : decode cX4_init 76 = .ok (.putfield 41, 3) := by decide +kernel
theorem dX4_init_79 : decode cX4_init 79 = .ok (.return_, 1) := by decide +kernel
theorem dX4_goOn_0 : decode cX4_goOn 0 = .ok (.aload_n 0, 1) := by decide +kernel
theorem dX4_goOn_1 : decode cX4_goOn 1 = .ok (.dup, 1) := by decide +kernel
theorem dX4_goOn_2 : decode cX4_goOn 2 = .ok (.getfield 44, 3) := by decide +kernel
theorem dX4_goOn_5 : decode cX4_goOn 5 = .ok (.iload_n 1, 1) := by decide +kernel
theorem dX4_goOn_6 : decode cX4_goOn 6 = .ok (.iadd, 1) := by decide +kernel
theorem dX4_goOn_7 : decode cX4_goOn 7 = .ok (.putfield 44, 3) := by decide +kernel
theorem dX4_goOn_10 : decode cX4_goOn 10 = .ok (.aload_n 0, 1) := by decide +kernel
theorem dX4_goOn_11 : decode cX4_goOn 11 = .ok (.getfield 44, 3) := by decide +kernel
theorem dX4_goOn_14 : decode cX4_goOn 14 = .ok (.sipush 1440, 3) := by decide +kernel
theorem dX4_goOn_17 : decode cX4_goOn 17 = .ok (.if_icmp .lt 25, 3) := by decide +kernel
theorem dX4_goOn_20 : decode cX4_goOn 20 = .ok (.aload_n 0, 1) := by decide +kernel
theorem dX4_goOn_21 : decode cX4_goOn 21 = .ok (.dup, 1) := by decide +kernel
theorem dX4_goOn_22 : decode cX4_goOn 22 = .ok (.getfield 44, 3) := by decide +kernel
theorem dX4_goOn_25 : decode cX4_goOn 25 = .ok (.sipush 1440, 3) := by decide +kernel
theorem dX4_goOn_28 : decode cX4_goOn 28 = .ok (.isub, 1) := by decide +kernel
theorem dX4_goOn_29 : decode cX4_goOn 29 = .ok (.putfield 44, 3) := by decide +kernel
theorem dX4_goOn_32 : decode cX4_goOn 32 = .ok (.aload_n 0, 1) := by decide +kernel
theorem dX4_goOn_33 : decode cX4_goOn 33 = .ok (.dup, 1) := by decide +kernel
theorem dX4_goOn_34 : decode cX4_goOn 34 = .ok (.getfield 47, 3) := by decide +kernel
theorem dX4_goOn_37 : decode cX4_goOn 37 = .ok (.iconst 1, 1) := by decide +kernel
theorem dX4_goOn_38 : decode cX4_goOn 38 = .ok (.iadd, 1) := by decide +kernel
theorem dX4_goOn_39 : decode cX4_goOn 39 = .ok (.putfield 47, 3) := by decide +kernel
theorem dX4_goOn_42 : decode cX4_goOn 42 = .ok (.return_, 1) := by decide +kernel
theorem dX4_growCounter_0 : decode cX4_growCounter 0 = .ok (.iload_n 1, 1) := by decide +kernel
theorem dX4_growCounter_1 : decode cX4_growCounter 1 = .ok (.invokestatic 50, 3) := by decide +kernel
theorem dX4_growCounter_4 : decode cX4_growCounter 4 = .ok (.ifCond .eq 29, 3) := by decide +kernel
theorem dX4_growCounter_7 : decode cX4_growCounter 7 = .ok (.aload_n 0, 1) := by decide +kernel
theorem dX4_growCounter_8 : decode cX4_growCounter 8 = .ok (.getfield 22, 3) := by decide +kernel
theorem dX4_growCounter_11 : decode cX4_growCounter 11 = .ok (.iload_n 1, 1) := by decide +kernel
theorem dX4_growCounter_12 : decode cX4_growCounter 12 = .ok (.sipush (-1000), 3) := by decide +kernel
theorem dX4_growCounter_15 : decode cX4_growCounter 15 = .ok (.sipush 1000, 3) := by decide +kernel
theorem dX4_growCounter_18 : decode cX4_growCounter 18 = .ok (.aload_n 0, 1) := by decide +kernel
theorem dX4_growCounter_19 : decode cX4_growCounter 19 = .ok (.getfield 22, 3) := by decide +kernel
theorem dX4_growCounter_22 : decode cX4_growCounter 22 = .ok (.iload_n 1, 1) := by decide +kernel
theorem dX4_growCounter_23 : decode cX4_growCounter 23 = .ok (.iaload, 1) := by decide +kernel
theorem dX4_growCounter_24 : decode cX4_growCounter 24 = .ok (.iload_n 2, 1) := by decide +kernel
theorem dX4_growCounter_25 : decode cX4_growCounter 25 = .ok (.iadd, 1) := by decide +kernel
theorem dX4_growCounter_26 : decode cX4_growCounter 26 = .ok (.invokestatic 54, 3) := by decide +kernel
theorem dX4_growCounter_29 : decode cX4_growCounter 29 = .ok (.invokestatic 60, 3) := by decide +kernel
theorem dX4_growCounter_32 : decode cX4_growCounter 32 = .ok (.iastore, 1) := by decide +kernel
theorem dX4_growCounter_33 : decode cX4_growCounter 33 = .ok (.return_, 1) := by decide +kernel
theorem dX4_addRow_0 : decode cX4_addRow 0 = .ok (.aload_n 0, 1) := by decide +kernel
theorem dX4_addRow_1 : decode cX4_addRow 1 = .ok (.getfield 63, 3) := by decide +kernel
theorem dX4_addRow_4 : decode cX4_addRow 4 = .ok (.bipush 40, 2) := by decide +kernel
theorem dX4_addRow_6 : decode cX4_addRow 6 = .ok (.if_icmp .ge 33, 3) := by decide +kernel
theorem dX4_addRow_9 : decode cX4_addRow 9 = .ok (.aload_n 0, 1) := by decide +kernel
theorem dX4_addRow_10 : decode cX4_addRow 10 = .ok (.getfield 15, 3) := by decide +kernel
theorem dX4_addRow_13 : decode cX4_addRow 13 = .ok (.aload_n 0, 1) := by decide +kernel
theorem dX4_addRow_14 : decode cX4_addRow 14 = .ok (.getfield 63, 3) := by decide +kernel
theorem dX4_addRow_17 : decode cX4_addRow 17 = .ok (.iload_n 1, 1) := by decide +kernel
theorem dX4_addRow_18 : decode cX4_addRow 18 = .ok (.iastore, 1) := by decide +kernel
theorem dX4_addRow_19 : decode cX4_addRow 19 = .ok (.aload_n 0, 1) := by decide +kernel
theorem dX4_addRow_20 : decode cX4_addRow 20 = .ok (.getfield 19, 3) := by decide +kernel
theorem dX4_addRow_23 : decode cX4_addRow 23 = .ok (.aload_n 0, 1) := by decide +kernel
theorem dX4_addRow_24 : decode cX4_addRow 24 = .ok (.getfield 63, 3) := by decide +kernel
theorem dX4_addRow_27 : decode cX4_addRow 27 = .ok (.iload_n 2, 1) := by decide +kernel
theorem dX4_addRow_28 : decode cX4_addRow 28 = .ok (.iastore, 1) := by decide +kernel
theorem dX4_addRow_29 : decode cX4_addRow 29 = .ok (.aload_n 0, 1) := by decide +kernel
theorem dX4_addRow_30 : decode cX4_addRow 30 = .ok (.dup, 1) := by decide +kernel
theorem dX4_addRow_31 : decode cX4_addRow 31 = .ok (.getfield 63, 3) := by decide +kernel
theorem dX4_addRow_34 : decode cX4_addRow 34 = .ok (.iconst 1, 1) := by decide +kernel
theorem dX4_addRow_35 : decode cX4_addRow 35 = .ok (.iadd, 1) := by decide +kernel
theorem dX4_addRow_36 : decode cX4_addRow 36 = .ok (.putfield 63, 3) := by decide +kernel
theorem dX4_addRow_39 : decode cX4_addRow 39 = .ok (.return_, 1) := by decide +kernel
theorem dX4_copyFrom_0 : decode cX4_copyFrom 0 = .ok (.aload_n 0, 1) := by decide +kernel
theorem dX4_copyFrom_1 : decode cX4_copyFrom 1 = .ok (.aload_n 1, 1) := by decide +kernel
theorem dX4_copyFrom_2 : decode cX4_copyFrom 2 = .ok (.getfield 44, 3) := by decide +kernel
theorem dX4_copyFrom_5 : decode cX4_copyFrom 5 = .ok (.putfield 44, 3) := by decide +kernel
theorem dX4_copyFrom_8 : decode cX4_copyFrom 8 = .ok (.aload_n 0, 1) := by decide +kernel
theorem dX4_copyFrom_9 : decode cX4_copyFrom 9 = .ok (.aload_n 1, 1) := by decide +kernel
theorem dX4_copyFrom_10 : decode cX4_copyFrom 10 = .ok (.getfield 47, 3) := by decide +kernel
theorem dX4_copyFrom_13 : decode cX4_copyFrom 13 = .ok (.putfield 47, 3) := by decide +kernel
theorem dX4_copyFrom_16 : decode cX4_copyFrom 16 = .ok (.aload_n 0, 1) := by decide +kernel
theorem dX4_copyFrom_17 : decode cX4_copyFrom 17 = .ok (.aload_n 1, 1) := by decide +kernel
theorem dX4_copyFrom_18 : decode cX4_copyFrom 18 = .ok (.getfield 66, 3) := by decide +kernel
theorem dX4_copyFrom_21 : decode cX4_copyFrom 21 = .ok (.putfield 66, 3) := by decide +kernel
theorem dX4_copyFrom_24 : decode cX4_copyFrom 24 = .ok (.aload_n 0, 1) := by decide +kernel
theorem dX4_copyFrom_25 : decode cX4_copyFrom 25 = .ok (.aload_n 1, 1) := by decide +kernel
theorem dX4_copyFrom_26 : decode cX4_copyFrom 26 = .ok (.getfield 9, 3) := by decide +kernel
theorem dX4_copyFrom_29 : decode cX4_copyFrom 29 = .ok (.putfield 9, 3) := by decide +kernel
theorem dX4_copyFrom_32 : decode cX4_copyFrom 32 = .ok (.aload_n 0, 1) := by decide +kernel
theorem dX4_copyFrom_33 : decode cX4_copyFrom 33 = .ok (.aload_n 1, 1) := by decide +kernel
theorem dX4_copyFrom_34 : decode cX4_copyFrom 34 = .ok (.getfield 69, 3) := by decide +kernel
theorem dX4_copyFrom_37 : decode cX4_copyFrom 37 = .ok (.putfield 69, 3) := by decide +kernel
theorem dX4_copyFrom_40 : decode cX4_copyFrom 40 = .ok (.aload_n 0, 1) := by decide +kernel
theorem dX4_copyFrom_41 : decode cX4_copyFrom 41 = .ok (.aload_n 1, 1) := by decide +kernel
theorem dX4_copyFrom_42 : decode cX4_copyFrom 42 = .ok (.getfield 63, 3) := by decide +kernel
theorem dX4_copyFrom_45 : decode cX4_copyFrom 45 = .ok (.putfield 63, 3) := by decide +kernel
theorem dX4_copyFrom_48 : decode cX4_copyFrom 48 = .ok (.aload_n 1, 1) := by decide +kernel
theorem dX4_copyFrom_49 : decode cX4_copyFrom 49 = .ok (.getfield 15, 3) := by decide +kernel
theorem dX4_copyFrom_52 : decode cX4_copyFrom 52 = .ok (.iconst 0, 1) := by decide +kernel
theorem dX4_copyFrom_53 : decode cX4_copyFrom 53 = .ok (.aload_n 0, 1) := by decide +kernel
theorem dX4_copyFrom_54 : decode cX4_copyFrom 54 = .ok (.getfield 15, 3) := by decide +kernel
theorem dX4_copyFrom_57 : decode cX4_copyFrom 57 = .ok (.iconst 0, 1) := by decide +kernel
theorem dX4_copyFrom_58 : decode cX4_copyFrom 58 = .ok (.bipush 40, 2) := by decide +kernel
theorem dX4_copyFrom_60 : decode cX4_copyFrom 60 = .ok (.invokestatic 72, 3) := by decide +kernel
theorem dX4_copyFrom_63 : decode cX4_copyFrom 63 = .ok (.aload_n 1, 1) := by decide +kernel
theorem dX4_copyFrom_64 : decode cX4_copyFrom 64 = .ok (.getfield 19, 3) := by decide +kernel
theorem dX4_copyFrom_67 : decode cX4_copyFrom 67 = .ok (.iconst 0, 1) := by decide +kernel
theorem dX4_copyFrom_68 : decode cX4_copyFrom 68 = .ok (.aload_n 0, 1) := by decide +kernel
theorem dX4_copyFrom_69 : decode cX4_copyFrom 69 = .ok (.getfield 19, 3) := by decide +kernel
theorem dX4_copyFrom_72 : decode cX4_copyFrom 72 = .ok (.iconst 0, 1) := by decide +kernel
theorem dX4_copyFrom_73 : decode cX4_copyFrom 73 = .ok (.bipush 40, 2) := by decide +kernel
theorem dX4_copyFrom_75 : decode cX4_copyFrom 75 = .ok (.invokestatic 72, 3) := by decide +kernel
theorem dX4_copyFrom_78 : decode cX4_copyFrom 78 = .ok (.aload_n 1, 1) := by decide +kernel
theorem dX4_copyFrom_79 : decode cX4_copyFrom 79 = .ok (.getfield 22, 3) := by decide +kernel
theorem dX4_copyFrom_82 : decode cX4_copyFrom 82 = .ok (.iconst 0, 1) := by decide +kernel
theorem dX4_copyFrom_83 : decode cX4_copyFrom 83 = .ok (.aload_n 0, 1) := by decide +kernel
theorem dX4_copyFrom_84 : decode cX4_copyFrom 84 = .ok (.getfield 22, 3) := by decide +kernel
theorem dX4_copyFrom_87 : decode cX4_copyFrom 87 = .ok (.iconst 0, 1) := by decide +kernel
theorem dX4_copyFrom_88 : decode cX4_copyFrom 88 = .ok (.bipush 8, 2) := by decide +kernel
theorem dX4_copyFrom_90 : decode cX4_copyFrom 90 = .ok (.invokestatic 72, 3) := by decide +kernel
theorem dX4_copyFrom_93 : decode cX4_copyFrom 93 = .ok (.aload_n 1, 1) := by decide +kernel
theorem dX4_copyFrom_94 : decode cX4_copyFrom 94 = .ok (.getfield 25, 3) := by decide +kernel
theorem dX4_copyFrom_97 : decode cX4_copyFrom 97 = .ok (.aload_n 0, 1) := by decide +kernel
theorem dX4_copyFrom_98 : decode cX4_copyFrom 98 = .ok (.getfield 25, 3) := by decide +kernel
theorem dX4_copyFrom_101 : decode cX4_copyFrom 101 = .ok (.invokestatic 78, 3) := by decide +kernel
theorem dX4_copyFrom_104 : decode cX4_copyFrom 104 = .ok (.aload_n 1, 1) := by decide +kernel
theorem dX4_copyFrom_105 : decode cX4_copyFrom 105 = .ok (.getfield 29, 3) := by decide +kernel
theorem dX4_copyFrom_108 : decode cX4_copyFrom 108 = .ok (.iconst 0, 1) := by decide +kernel
theorem dX4_copyFrom_109 : decode cX4_copyFrom 109 = .ok (.aload_n 0, 1) := by decide +kernel
theorem dX4_copyFrom_110 : decode cX4_copyFrom 110 = .ok (.getfield 29, 3) := by decide +kernel
theorem dX4_copyFrom_113 : decode cX4_copyFrom 113 = .ok (.iconst 0, 1) := by decide +kernel
theorem dX4_copyFrom_114 : decode cX4_copyFrom 114 = .ok (.iconst 4, 1) := by decide +kernel
theorem dX4_copyFrom_115 : decode cX4_copyFrom 115 = .ok (.invokestatic 72, 3) := by decide +kernel
theorem dX4_copyFrom_118 : decode cX4_copyFrom 118 = .ok (.aload_n 1, 1) := by decide +kernel
theorem dX4_copyFrom_119 : decode cX4_copyFrom 119 = .ok (.getfield 32, 3) := by decide +kernel
theorem dX4_copyFrom_122 : decode cX4_copyFrom 122 = .ok (.iconst 0, 1) := by decide +kernel
theorem dX4_copyFrom_123 : decode cX4_copyFrom 123 = .ok (.aload_n 0, 1) := by decide +kernel
theorem dX4_copyFrom_124 : decode cX4_copyFrom 124 = .ok (.getfield 32, 3) := by decide +kernel
theorem dX4_copyFrom_127 : decode cX4_copyFrom 127 = .ok (.iconst 0, 1) := by decide +kernel
theorem dX4_copyFrom_128 : decode cX4_copyFrom 128 = .ok (.iconst 4, 1) := by decide +kernel
theorem dX4_copyFrom_129 : decode cX4_copyFrom 129 = .ok (.invokestatic 72, 3) := by decide +kernel
theorem dX4_copyFrom_132 : decode cX4_copyFrom 132 = .ok (.aload_n 1, 1) := by decide +kernel
theorem dX4_copyFrom_133 : decode cX4_copyFrom 133 = .ok (.getfield 35, 3) := by decide +kernel
theorem dX4_copyFrom_136 : decode cX4_copyFrom 136 = .ok (.iconst 0, 1) := by decide +kernel
theorem dX4_copyFrom_137 : decode cX4_copyFrom 137 = .ok (.aload_n 0, 1) := by decide +kernel
theorem dX4_copyFrom_138 : decode cX4_copyFrom 138 = .ok (.getfield 35, 3) := by decide +kernel
theorem dX4_copyFrom_141 : decode cX4_copyFrom 141 = .ok (.iconst 0, 1) := by decide +kernel
theorem dX4_copyFrom_142 : decode cX4_copyFrom 142 = .ok (.bipush 12, 2) := by decide +kernel
theorem dX4_copyFrom_144 : decode cX4_copyFrom 144 = .ok (.invokestatic 72, 3) := by decide +kernel
theorem dX4_copyFrom_147 : decode cX4_copyFrom 147 = .ok (.aload_n 1, 1) := by decide +kernel
theorem dX4_copyFrom_148 : decode cX4_copyFrom 148 = .ok (.getfield 38, 3) := by decide +kernel
theorem dX4_copyFrom_151 : decode cX4_copyFrom 151 = .ok (.aload_n 0, 1) := by decide +kernel
theorem dX4_copyFrom_152 : decode cX4_copyFrom 152 = .ok (.getfield 38, 3) := by decide +kernel
theorem dX4_copyFrom_155 : decode cX4_copyFrom 155 = .ok (.invokestatic 78, 3) := by decide +kernel
theorem dX4_copyFrom_158 : decode cX4_copyFrom 158 = .ok (.aload_n 1, 1) := by decide +kernel
theorem dX4_copyFrom_159 : decode cX4_copyFrom 159 = .ok (.getfield 41, 3) := by decide +kernel
theorem dX4_copyFrom_162 : decode cX4_copyFrom 162 = .ok (.aload_n 0, 1) := by decide +kernel
theorem dX4_copyFrom_163 : decode cX4_copyFrom 163 = .ok (.getfield 41, 3) := by decide +kernel
theorem dX4_copyFrom_166 : decode cX4_copyFrom 166 = .ok (.invokestatic 78, 3) := by decide +kernel
theorem dX4_copyFrom_169 : decode cX4_copyFrom 169 = .ok (.return_, 1) := by decide +kernel
theorem dX4_copyFlags_0 : decode cX4_copyFlags 0 = .ok (.iconst 0, 1) := by decide +kernel
theorem dX4_copyFlags_1 : decode cX4_copyFlags 1 = .ok (.istore_n 2, 1) := by decide +kernel
theorem dX4_copyFlags_2 : decode cX4_copyFlags 2 = .ok (.iload_n 2, 1) := by decide +kernel
theorem dX4_copyFlags_3 : decode cX4_copyFlags 3 = .ok (.aload_n 0, 1) := by decide +kernel
theorem dX4_copyFlags_4 : decode cX4_copyFlags 4 = .ok (.arraylength, 1) := by decide +kernel
theorem dX4_copyFlags_5 : decode cX4_copyFlags 5 = .ok (.if_icmp .ge 21, 3) := by decide +kernel
theorem dX4_copyFlags_8 : decode cX4_copyFlags 8 = .ok (.iload_n 2, 1) := by decide +kernel
theorem dX4_copyFlags_9 : decode cX4_copyFlags 9 = .ok (.aload_n 1, 1) := by decide +kernel
theorem dX4_copyFlags_10 : decode cX4_copyFlags 10 = .ok (.arraylength, 1) := by decide +kernel
theorem dX4_copyFlags_11 : decode cX4_copyFlags 11 = .ok (.if_icmp .ge 15, 3) := by decide +kernel
theorem dX4_copyFlags_14 : decode cX4_copyFlags 14 = .ok (.aload_n 1, 1) := by decide +kernel
theorem dX4_copyFlags_15 : decode cX4_copyFlags 15 = .ok (.iload_n 2, 1) := by decide +kernel
theorem dX4_copyFlags_16 : decode cX4_copyFlags 16 = .ok (.aload_n 0, 1) := by decide +kernel
theorem dX4_copyFlags_17 : decode cX4_copyFlags 17 = .ok (.iload_n 2, 1) := by decide +kernel
theorem dX4_copyFlags_18 : decode cX4_copyFlags 18 = .ok (.baload, 1) := by decide +kernel
theorem dX4_copyFlags_19 : decode cX4_copyFlags 19 = .ok (.bastore, 1) := by decide +kernel
theorem dX4_copyFlags_20 : decode cX4_copyFlags 20 = .ok (.iinc 2 1, 3) := by decide +kernel
theorem dX4_copyFlags_23 : decode cX4_copyFlags 23 = .ok (.goto (-21), 3) := by decide +kernel
theorem dX4_copyFlags_26 : decode cX4_copyFlags 26 = .ok (.return_, 1) := by decide +kernel
theorem dX5_init_0 : decode cX5_init 0 = .ok (.aload_n 0, 1) := by decide +kernel
theorem dX5_init_1 : decode cX5_init 1 = .ok (.invokespecial 3, 3) := by decide +kernel
theorem dX5_init_4 : decode cX5_init 4 = .ok (.aload_n 0, 1) := by decide +kernel
theorem dX5_init_5 : decode cX5_init 5 = .ok (.bipush 8, 2) := by decide +kernel
theorem dX5_init_7 : decode cX5_init 7 = .ok (.anewarray 9, 3) := by decide +kernel
theorem dX5_init_10 : decode cX5_init 10 = .ok (.putfield 11, 3) := by decide +kernel
theorem dX5_init_13 : decode cX5_init 13 = .ok (.iconst 0, 1) := by decide +kernel
theorem dX5_init_14 : decode cX5_init 14 = .ok (.istore_n 1, 1) := by decide +kernel
theorem dX5_init_15 : decode cX5_init 15 = .ok (.iload_n 1, 1) := by decide +kernel
theorem dX5_init_16 : decode cX5_init 16 = .ok (.bipush 8, 2) := by decide +kernel
theorem dX5_init_18 : decode cX5_init 18 = .ok (.if_icmp .ge 22, 3) := by decide +kernel
theorem dX5_init_21 : decode cX5_init 21 = .ok (.aload_n 0, 1) := by decide +kernel
theorem dX5_init_22 : decode cX5_init 22 = .ok (.getfield 11, 3) := by decide +kernel
theorem dX5_init_25 : decode cX5_init 25 = .ok (.iload_n 1, 1) := by decide +kernel
theorem dX5_init_26 : decode cX5_init 26 = .ok (.new 9, 3) := by decide +kernel
theorem dX5_init_29 : decode cX5_init 29 = .ok (.dup, 1) := by decide +kernel
theorem dX5_init_30 : decode cX5_init 30 = .ok (.invokespecial 17, 3) := by decide +kernel
theorem dX5_init_33 : decode cX5_init 33 = .ok (.aastore, 1) := by decide +kernel
theorem dX5_init_34 : decode cX5_init 34 = .ok (.iinc 1 1, 3) := by decide +kernel
theorem dX5_init_37 : decode cX5_init 37 = .ok (.goto (-22), 3) := by decide +kernel
theorem dX5_init_40 : decode cX5_init 40 = .ok (.return_, 1) := by decide +kernel
theorem dX5_keep_0 : decode cX5_keep 0 = .ok (.aload_n 0, 1) := by decide +kernel
theorem dX5_keep_1 : decode cX5_keep 1 = .ok (.getfield 18, 3) := by decide +kernel
theorem dX5_keep_4 : decode cX5_keep 4 = .ok (.bipush 8, 2) := by decide +kernel
theorem dX5_keep_6 : decode cX5_keep 6 = .ok (.if_icmp .lt 7, 3) := by decide +kernel
theorem dX5_keep_9 : decode cX5_keep 9 = .ok (.aload_n 0, 1) := by decide +kernel
theorem dX5_keep_10 : decode cX5_keep 10 = .ok (.invokevirtual 22, 3) := by decide +kernel
theorem dX5_keep_13 : decode cX5_keep 13 = .ok (.aload_n 0, 1) := by decide +kernel
theorem dX5_keep_14 : decode cX5_keep 14 = .ok (.getfield 11, 3) := by decide +kernel
theorem dX5_keep_17 : decode cX5_keep 17 = .ok (.aload_n 0, 1) := by decide +kernel
theorem dX5_keep_18 : decode cX5_keep 18 = .ok (.getfield 18, 3) := by decide +kernel
theorem dX5_keep_21 : decode cX5_keep 21 = .ok (.aaload, 1) := by decide +kernel
theorem dX5_keep_22 : decode cX5_keep 22 = .ok (.aload_n 1, 1) := by decide +kernel
theorem dX5_keep_23 : decode cX5_keep 23 = .ok (.invokevirtual 25, 3) := by decide +kernel
theorem dX5_keep_26 : decode cX5_keep 26 = .ok (.aload_n 0, 1) := by decide +kernel
theorem dX5_keep_27 : decode cX5_keep 27 = .ok (.dup, 1) := by decide +kernel
theorem dX5_keep_28 : decode cX5_keep 28 = .ok (.getfield 18, 3) := by decide +kernel
theorem dX5_keep_31 : decode cX5_keep 31 = .ok (.iconst 1, 1) := by decide +kernel
theorem dX5_keep_32 : decode cX5_keep 32 = .ok (.iadd, 1) := by decide +kernel
theorem dX5_keep_33 : decode cX5_keep 33 = .ok (.putfield 18, 3) := by decide +kernel
theorem dX5_keep_36 : decode cX5_keep 36 = .ok (.return_, 1) := by decide +kernel
theorem dX5_dropOldest_0 : decode cX5_dropOldest 0 = .ok (.aload_n 0, 1) := by decide +kernel
theorem dX5_dropOldest_1 : decode cX5_dropOldest 1 = .ok (.getfield 11, 3) := by decide +kernel
theorem dX5_dropOldest_4 : decode cX5_dropOldest 4 = .ok (.iconst 0, 1) := by decide +kernel
theorem dX5_dropOldest_5 : decode cX5_dropOldest 5 = .ok (.aaload, 1) := by decide +kernel
theorem dX5_dropOldest_6 : decode cX5_dropOldest 6 = .ok (.astore_n 1, 1) := by decide +kernel
theorem dX5_dropOldest_7 : decode cX5_dropOldest 7 = .ok (.iconst 1, 1) := by decide +kernel
theorem dX5_dropOldest_8 : decode cX5_dropOldest 8 = .ok (.istore_n 2, 1) := by decide +kernel
theorem dX5_dropOldest_9 : decode cX5_dropOldest 9 = .ok (.iload_n 2, 1) := by decide +kernel
theorem dX5_dropOldest_10 : decode cX5_dropOldest 10 = .ok (.bipush 8, 2) := by decide +kernel
theorem dX5_dropOldest_12 : decode cX5_dropOldest 12 = .ok (.if_icmp .ge 23, 3) := by decide +kernel
theorem dX5_dropOldest_15 : decode cX5_dropOldest 15 = .ok (.aload_n 0, 1) := by decide +kernel
theorem dX5_dropOldest_16 : decode cX5_dropOldest 16 = .ok (.getfield 11, 3) := by decide +kernel
theorem dX5_dropOldest_19 : decode cX5_dropOldest 19 = .ok (.iload_n 2, 1) := by decide +kernel
theorem dX5_dropOldest_20 : decode cX5_dropOldest 20 = .ok (.iconst 1, 1) := by decide +kernel
theorem dX5_dropOldest_21 : decode cX5_dropOldest 21 = .ok (.isub, 1) := by decide +kernel
theorem dX5_dropOldest_22 : decode cX5_dropOldest 22 = .ok (.aload_n 0, 1) := by decide +kernel
theorem dX5_dropOldest_23 : decode cX5_dropOldest 23 = .ok (.getfield 11, 3) := by decide +kernel
theorem dX5_dropOldest_26 : decode cX5_dropOldest 26 = .ok (.iload_n 2, 1) := by decide +kernel
theorem dX5_dropOldest_27 : decode cX5_dropOldest 27 = .ok (.aaload, 1) := by decide +kernel
theorem dX5_dropOldest_28 : decode cX5_dropOldest 28 = .ok (.aastore, 1) := by decide +kernel
theorem dX5_dropOldest_29 : decode cX5_dropOldest 29 = .ok (.iinc 2 1, 3) := by decide +kernel
theorem dX5_dropOldest_32 : decode cX5_dropOldest 32 = .ok (.goto (-23), 3) := by decide +kernel
theorem dX5_dropOldest_35 : decode cX5_dropOldest 35 = .ok (.aload_n 0, 1) := by decide +kernel
theorem dX5_dropOldest_36 : decode cX5_dropOldest 36 = .ok (.getfield 11, 3) := by decide +kernel
theorem dX5_dropOldest_39 : decode cX5_dropOldest 39 = .ok (.bipush 7, 2) := by decide +kernel
theorem dX5_dropOldest_41 : decode cX5_dropOldest 41 = .ok (.aload_n 1, 1) := by decide +kernel
theorem dX5_dropOldest_42 : decode cX5_dropOldest 42 = .ok (.aastore, 1) := by decide +kernel
theorem dX5_dropOldest_43 : decode cX5_dropOldest 43 = .ok (.aload_n 0, 1) := by decide +kernel
theorem dX5_dropOldest_44 : decode cX5_dropOldest 44 = .ok (.bipush 7, 2) := by decide +kernel
theorem dX5_dropOldest_46 : decode cX5_dropOldest 46 = .ok (.putfield 18, 3) := by decide +kernel
theorem dX5_dropOldest_49 : decode cX5_dropOldest 49 = .ok (.return_, 1) := by decide +kernel
theorem dX5_giveBack_0 : decode cX5_giveBack 0 = .ok (.aload_n 0, 1) := by decide +kernel
theorem dX5_giveBack_1 : decode cX5_giveBack 1 = .ok (.getfield 18, 3) := by decide +kernel
theorem dX5_giveBack_4 : decode cX5_giveBack 4 = .ok (.ifCond .le 26, 3) := by decide +kernel
theorem dX5_giveBack_7 : decode cX5_giveBack 7 = .ok (.aload_n 0, 1) := by decide +kernel
theorem dX5_giveBack_8 : decode cX5_giveBack 8 = .ok (.dup, 1) := by decide +kernel
theorem dX5_giveBack_9 : decode cX5_giveBack 9 = .ok (.getfield 18, 3) := by decide +kernel
theorem dX5_giveBack_12 : decode cX5_giveBack 12 = .ok (.iconst 1, 1) := by decide +kernel
theorem dX5_giveBack_13 : decode cX5_giveBack 13 = .ok (.isub, 1) := by decide +kernel
theorem dX5_giveBack_14 : decode cX5_giveBack 14 = .ok (.putfield 18, 3) := by decide +kernel
theorem dX5_giveBack_17 : decode cX5_giveBack 17 = .ok (.aload_n 1, 1) := by decide +kernel
theorem dX5_giveBack_18 : decode cX5_giveBack 18 = .ok (.aload_n 0, 1) := by decide +kernel
theorem dX5_giveBack_19 : decode cX5_giveBack 19 = .ok (.getfield 11, 3) := by decide +kernel
theorem dX5_giveBack_22 : decode cX5_giveBack 22 = .ok (.aload_n 0, 1) := by decide +kernel
theorem dX5_giveBack_23 : decode cX5_giveBack 23 = .ok (.getfield 18, 3) := by decide +kernel
theorem dX5_giveBack_26 : decode cX5_giveBack 26 = .ok (.aaload, 1) := by decide +kernel
theorem dX5_giveBack_27 : decode cX5_giveBack 27 = .ok (.invokevirtual 25, 3) := by decide +kernel
theorem dX5_giveBack_30 : decode cX5_giveBack 30 = .ok (.return_, 1) := by decide +kernel
theorem dX6_init_0 : decode cX6_init 0 = .ok (.aload_n 0, 1) := by decide +kernel
theorem dX6_init_1 : decode cX6_init 1 = .ok (.invokespecial 3, 3) := by decide +kernel
theorem dX6_init_4 : decode cX6_init 4 = .ok (.aload_n 0, 1) := by decide +kernel
theorem dX6_init_5 : decode cX6_init 5 = .ok (.bipush 12, 2) := by decide +kernel
theorem dX6_init_7 : decode cX6_init 7 = .ok (.newarray .int, 2) := by decide +kernel
theorem dX6_init_9 : decode cX6_init 9 = .ok (.putfield 9, 3) := by decide +kernel
theorem dX6_init_12 : decode cX6_init 12 = .ok (.aload_n 0, 1) := by decide +kernel
theorem dX6_init_13 : decode cX6_init 13 = .ok (.bipush 12, 2) := by decide +kernel
theorem dX6_init_15 : decode cX6_init 15 = .ok (.newarray .int, 2) := by decide +kernel
theorem dX6_init_17 : decode cX6_init 17 = .ok (.putfield 15, 3) := by decide +kernel
theorem dX6_init_20 : decode cX6_init 20 = .ok (.aload_n 0, 1) := by decide +kernel
theorem dX6_init_21 : decode cX6_init 21 = .ok (.bipush 12, 2) := by decide +kernel
theorem dX6_init_23 : decode cX6_init 23 = .ok (.newarray .boolean, 2) := by decide +kernel
theorem dX6_init_25 : decode cX6_init 25 = .ok (.putfield 18, 3) := by decide +kernel
theorem dX6_init_28 : decode cX6_init 28 = .ok (.return_, 1) := by decide +kernel
theorem dX6_addTimer_0 : decode cX6_addTimer 0 = .ok (.aload_n 0, 1) := by decide +kernel
theorem dX6_addTimer_1 : decode cX6_addTimer 1 = .ok (.getfield 22, 3) := by decide +kernel
theorem dX6_addTimer_4 : decode cX6_addTimer 4 = .ok (.bipush 12, 2) := by decide +kernel
theorem dX6_addTimer_6 : decode cX6_addTimer 6 = .ok (.if_icmp .lt 6, 3) := by decide +kernel
theorem dX6_addTimer_9 : decode cX6_addTimer 9 = .ok (.bipush (-5), 2) := by decide +kernel
theorem dX6_addTimer_11 : decode cX6_addTimer 11 = .ok (.ireturn, 1) := by decide +kernel
theorem dX6_addTimer_12 : decode cX6_addTimer 12 = .ok (.aload_n 0, 1) := by decide +kernel
theorem dX6_addTimer_13 : decode cX6_addTimer 13 = .ok (.getfield 9, 3) := by decide +kernel
theorem dX6_addTimer_16 : decode cX6_addTimer 16 = .ok (.aload_n 0, 1) := by decide +kernel
theorem dX6_addTimer_17 : decode cX6_addTimer 17 = .ok (.getfield 22, 3) := by decide +kernel
theorem dX6_addTimer_20 : decode cX6_addTimer 20 = .ok (.iload_n 1, 1) := by decide +kernel
theorem dX6_addTimer_21 : decode cX6_addTimer 21 = .ok (.iastore, 1) := by decide +kernel
theorem dX6_addTimer_22 : decode cX6_addTimer 22 = .ok (.aload_n 0, 1) := by decide +kernel
theorem dX6_addTimer_23 : decode cX6_addTimer 23 = .ok (.getfield 15, 3) := by decide +kernel
theorem dX6_addTimer_26 : decode cX6_addTimer 26 = .ok (.aload_n 0, 1) := by decide +kernel
theorem dX6_addTimer_27 : decode cX6_addTimer 27 = .ok (.getfield 22, 3) := by decide +kernel
theorem dX6_addTimer_30 : decode cX6_addTimer 30 = .ok (.iload_n 2, 1) := by decide +kernel
theorem dX6_addTimer_31 : decode cX6_addTimer 31 = .ok (.iastore, 1) := by decide +kernel
theorem dX6_addTimer_32 : decode cX6_addTimer 32 = .ok (.aload_n 0, 1) := by decide +kernel
theorem dX6_addTimer_33 : decode cX6_addTimer 33 = .ok (.getfield 18, 3) := by decide +kernel
theorem dX6_addTimer_36 : decode cX6_addTimer 36 = .ok (.aload_n 0, 1) := by decide +kernel
theorem dX6_addTimer_37 : decode cX6_addTimer 37 = .ok (.getfield 22, 3) := by decide +kernel
theorem dX6_addTimer_40 : decode cX6_addTimer 40 = .ok (.iload_n 3, 1) := by decide +kernel
theorem dX6_addTimer_41 : decode cX6_addTimer 41 = .ok (.bastore, 1) := by decide +kernel
theorem dX6_addTimer_42 : decode cX6_addTimer 42 = .ok (.aload_n 0, 1) := by decide +kernel
theorem dX6_addTimer_43 : decode cX6_addTimer 43 = .ok (.dup, 1) := by decide +kernel
theorem dX6_addTimer_44 : decode cX6_addTimer 44 = .ok (.getfield 22, 3) := by decide +kernel
theorem dX6_addTimer_47 : decode cX6_addTimer 47 = .ok (.iconst 1, 1) := by decide +kernel
theorem dX6_addTimer_48 : decode cX6_addTimer 48 = .ok (.iadd, 1) := by decide +kernel
theorem dX6_addTimer_49 : decode cX6_addTimer 49 = .ok (.putfield 22, 3) := by decide +kernel
theorem dX6_addTimer_52 : decode cX6_addTimer 52 = .ok (.aload_n 0, 1) := by decide +kernel
theorem dX6_addTimer_53 : decode cX6_addTimer 53 = .ok (.getfield 22, 3) := by decide +kernel
theorem dX6_addTimer_56 : decode cX6_addTimer 56 = .ok (.iconst 1, 1) := by decide +kernel
theorem dX6_addTimer_57 : decode cX6_addTimer 57 = .ok (.isub, 1) := by decide +kernel
theorem dX6_addTimer_58 : decode cX6_addTimer 58 = .ok (.ireturn, 1) := by decide +kernel
end
section
theorem dX7_init_0 : decode cX7_init 0 = .ok (.aload_n 0, 1) := by decide +kernel
theorem dX7_init_1 : decode cX7_init 1 = .ok (.invokespecial 3, 3) := by decide +kernel
theorem dX7_init_4 : decode cX7_init 4 = .ok (.aload_n 0, 1) := by decide +kernel
theorem dX7_init_5 : decode cX7_init 5 = .ok (.new 9, 3) := by decide +kernel
theorem dX7_init_8 : decode cX7_init 8 = .ok (.dup, 1) := by decide +kernel
theorem dX7_init_9 : decode cX7_init 9 = .ok (.invokespecial 11, 3) := by decide +kernel
theorem dX7_init_12 : decode cX7_init 12 = .ok (.putfield 12, 3) := by decide +kernel
theorem dX7_init_15 : decode cX7_init 15 = .ok (.aload_n 0, 1) := by decide +kernel
theorem dX7_init_16 : decode cX7_init 16 = .ok (.new 16, 3) := by decide +kernel
theorem dX7_init_19 : decode cX7_init 19 = .ok (.dup, 1) := by decide +kernel
theorem dX7_init_20 : decode cX7_init 20 = .ok (.invokespecial 18, 3) := by decide +kernel
theorem dX7_init_23 : decode cX7_init 23 = .ok (.putfield 19, 3) := by decide +kernel
theorem dX7_init_26 : decode cX7_init 26 = .ok (.aload_n 0, 1) := by decide +kernel
theorem dX7_init_27 : decode cX7_init 27 = .ok (.new 23, 3) := by decide +kernel
theorem dX7_init_30 : decode cX7_init 30 = .ok (.dup, 1) := by decide +kernel
theorem dX7_init_31 : decode cX7_init 31 = .ok (.invokespecial 25, 3) := by decide +kernel
theorem dX7_init_34 : decode cX7_init 34 = .ok (.putfield 26, 3) := by decide +kernel
theorem dX7_init_37 : decode cX7_init 37 = .ok (.aload_n 0, 1) := by decide +kernel
theorem dX7_init_38 : decode cX7_init 38 = .ok (.new 30, 3) := by decide +kernel
theorem dX7_init_41 : decode cX7_init 41 = .ok (.dup, 1) := by decide +kernel
theorem dX7_init_42 : decode cX7_init 42 = .ok (.invokespecial 32, 3) := by decide +kernel
theorem dX7_init_45 : decode cX7_init 45 = .ok (.putfield 33, 3) := by decide +kernel
theorem dX7_init_48 : decode cX7_init 48 = .ok (.aload_n 0, 1) := by decide +kernel
theorem dX7_init_49 : decode cX7_init 49 = .ok (.new 37, 3) := by decide +kernel
theorem dX7_init_52 : decode cX7_init 52 = .ok (.dup, 1) := by decide +kernel
theorem dX7_init_53 : decode cX7_init 53 = .ok (.invokespecial 39, 3) := by decide +kernel
theorem dX7_init_56 : decode cX7_init 56 = .ok (.putfield 40, 3) := by decide +kernel
theorem dX7_init_59 : decode cX7_init 59 = .ok (.aload_n 0, 1) := by decide +kernel
theorem dX7_init_60 : decode cX7_init 60 = .ok (.new 44, 3) := by decide +kernel
theorem dX7_init_63 : decode cX7_init 63 = .ok (.dup, 1) := by decide +kernel
theorem dX7_init_64 : decode cX7_init 64 = .ok (.invokespecial 46, 3) := by decide +kernel
theorem dX7_init_67 : decode cX7_init 67 = .ok (.putfield 47, 3) := by decide +kernel
theorem dX7_init_70 : decode cX7_init 70 = .ok (.aload_n 0, 1) := by decide +kernel
theorem dX7_init_71 : decode cX7_init 71 = .ok (.new 51, 3) := by decide +kernel
theorem dX7_init_74 : decode cX7_init 74 = .ok (.dup, 1) := by decide +kernel
theorem dX7_init_75 : decode cX7_init 75 = .ok (.invokespecial 53, 3) := by decide +kernel
theorem dX7_init_78 : decode cX7_init 78 = .ok (.putfield 54, 3) := by decide +kernel
theorem dX7_init_81 : decode cX7_init 81 = .ok (.aload_n 0, 1) := by decide +kernel
theorem dX7_init_82 : decode cX7_init 82 = .ok (.bipush 12, 2) := by decide +kernel
theorem dX7_init_84 : decode cX7_init 84 = .ok (.newarray .boolean, 2) := by decide +kernel
theorem dX7_init_86 : decode cX7_init 86 = .ok (.putfield 58, 3) := by decide +kernel
theorem dX7_init_89 : decode cX7_init 89 = .ok (.return_, 1) := by decide +kernel
theorem dX7_room_0 : decode cX7_room 0 = .ok (.aload_n 0, 1) := by decide +kernel
theorem dX7_room_1 : decode cX7_room 1 = .ok (.aload_n 0, 1) := by decide +kernel
theorem dX7_room_2 : decode cX7_room 2 = .ok (.getfield 12, 3) := by decide +kernel
theorem dX7_room_5 : decode cX7_room 5 = .ok (.invokevirtual 62, 3) := by decide +kernel
theorem dX7_room_8 : decode cX7_room 8 = .ok (.invokevirtual 66, 3) := by decide +kernel
theorem dX7_room_11 : decode cX7_room 11 = .ok (.ireturn, 1) := by decide +kernel
theorem dX7_door_0 : decode cX7_door 0 = .ok (.iload_n 1, 1) := by decide +kernel
theorem dX7_door_1 : decode cX7_door 1 = .ok (.aload_n 0, 1) := by decide +kernel
theorem dX7_door_2 : decode cX7_door 2 = .ok (.getfield 12, 3) := by decide +kernel
theorem dX7_door_5 : decode cX7_door 5 = .ok (.getfield 70, 3) := by decide +kernel
theorem dX7_door_8 : decode cX7_door 8 = .ok (.invokestatic 74, 3) := by decide +kernel
theorem dX7_door_11 : decode cX7_door 11 = .ok (.ifCond .eq 17, 3) := by decide +kernel
theorem dX7_door_14 : decode cX7_door 14 = .ok (.iload_n 2, 1) := by decide +kernel
theorem dX7_door_15 : decode cX7_door 15 = .ok (.aload_n 0, 1) := by decide +kernel
theorem dX7_door_16 : decode cX7_door 16 = .ok (.getfield 12, 3) := by decide +kernel
theorem dX7_door_19 : decode cX7_door 19 = .ok (.getfield 70, 3) := by decide +kernel
theorem dX7_door_22 : decode cX7_door 22 = .ok (.invokestatic 74, 3) := by decide +kernel
theorem dX7_door_25 : decode cX7_door 25 = .ok (.ifCond .ne 6, 3) := by decide +kernel
theorem dX7_door_28 : decode cX7_door 28 = .ok (.bipush (-2), 2) := by decide +kernel
theorem dX7_door_30 : decode cX7_door 30 = .ok (.ireturn, 1) := by decide +kernel
theorem dX7_door_31 : decode cX7_door 31 = .ok (.iload_n 1, 1) := by decide +kernel
theorem dX7_door_32 : decode cX7_door 32 = .ok (.iload_n 2, 1) := by decide +kernel
theorem dX7_door_33 : decode cX7_door 33 = .ok (.if_icmp .ne 6, 3) := by decide +kernel
theorem dX7_door_36 : decode cX7_door 36 = .ok (.bipush (-3), 2) := by decide +kernel
theorem dX7_door_38 : decode cX7_door 38 = .ok (.ireturn, 1) := by decide +kernel
theorem dX7_door_39 : decode cX7_door 39 = .ok (.aload_n 0, 1) := by decide +kernel
theorem dX7_door_40 : decode cX7_door 40 = .ok (.aload_n 0, 1) := by decide +kernel
theorem dX7_door_41 : decode cX7_door 41 = .ok (.getfield 12, 3) := by decide +kernel
theorem dX7_door_44 : decode cX7_door 44 = .ok (.iload_n 1, 1) := by decide +kernel
theorem dX7_door_45 : decode cX7_door 45 = .ok (.iload_n 2, 1) := by decide +kernel
theorem dX7_door_46 : decode cX7_door 46 = .ok (.invokevirtual 78, 3) := by decide +kernel
theorem dX7_door_49 : decode cX7_door 49 = .ok (.invokevirtual 66, 3) := by decide +kernel
theorem dX7_door_52 : decode cX7_door 52 = .ok (.ireturn, 1) := by decide +kernel
theorem dX7_walker_0 : decode cX7_walker 0 = .ok (.iload_n 1, 1) := by decide +kernel
theorem dX7_walker_1 : decode cX7_walker 1 = .ok (.aload_n 0, 1) := by decide +kernel
theorem dX7_walker_2 : decode cX7_walker 2 = .ok (.getfield 12, 3) := by decide +kernel
theorem dX7_walker_5 : decode cX7_walker 5 = .ok (.getfield 70, 3) := by decide +kernel
theorem dX7_walker_8 : decode cX7_walker 8 = .ok (.invokestatic 74, 3) := by decide +kernel
theorem dX7_walker_11 : decode cX7_walker 11 = .ok (.ifCond .ne 6, 3) := by decide +kernel
theorem dX7_walker_14 : decode cX7_walker 14 = .ok (.bipush (-2), 2) := by decide +kernel
theorem dX7_walker_16 : decode cX7_walker 16 = .ok (.ireturn, 1) := by decide +kernel
theorem dX7_walker_17 : decode cX7_walker 17 = .ok (.aload_n 0, 1) := by decide +kernel
theorem dX7_walker_18 : decode cX7_walker 18 = .ok (.getfield 12, 3) := by decide +kernel
theorem dX7_walker_21 : decode cX7_walker 21 = .ok (.invokevirtual 82, 3) := by decide +kernel
theorem dX7_walker_24 : decode cX7_walker 24 = .ok (.istore_n 2, 1) := by decide +kernel
theorem dX7_walker_25 : decode cX7_walker 25 = .ok (.iload_n 2, 1) := by decide +kernel
theorem dX7_walker_26 : decode cX7_walker 26 = .ok (.aload_n 0, 1) := by decide +kernel
theorem dX7_walker_27 : decode cX7_walker 27 = .ok (.getfield 12, 3) := by decide +kernel
theorem dX7_walker_30 : decode cX7_walker 30 = .ok (.getfield 85, 3) := by decide +kernel
theorem dX7_walker_33 : decode cX7_walker 33 = .ok (.invokestatic 74, 3) := by decide +kernel
theorem dX7_walker_36 : decode cX7_walker 36 = .ok (.ifCond .eq 23, 3) := by decide +kernel
theorem dX7_walker_39 : decode cX7_walker 39 = .ok (.aload_n 0, 1) := by decide +kernel
theorem dX7_walker_40 : decode cX7_walker 40 = .ok (.getfield 47, 3) := by decide +kernel
theorem dX7_walker_43 : decode cX7_walker 43 = .ok (.getfield 88, 3) := by decide +kernel
theorem dX7_walker_46 : decode cX7_walker 46 = .ok (.iload_n 2, 1) := by decide +kernel
theorem dX7_walker_47 : decode cX7_walker 47 = .ok (.iload_n 1, 1) := by decide +kernel
theorem dX7_walker_48 : decode cX7_walker 48 = .ok (.iastore, 1) := by decide +kernel
theorem dX7_walker_49 : decode cX7_walker 49 = .ok (.aload_n 0, 1) := by decide +kernel
theorem dX7_walker_50 : decode cX7_walker 50 = .ok (.getfield 47, 3) := by decide +kernel
theorem dX7_walker_53 : decode cX7_walker 53 = .ok (.getfield 92, 3) := by decide +kernel
theorem dX7_walker_56 : decode cX7_walker 56 = .ok (.iload_n 2, 1) := by decide +kernel
theorem dX7_walker_57 : decode cX7_walker 57 = .ok (.iconst (-1), 1) := by decide +kernel
theorem dX7_walker_58 : decode cX7_walker 58 = .ok (.iastore, 1) := by decide +kernel
theorem dX7_walker_59 : decode cX7_walker 59 = .ok (.aload_n 0, 1) := by decide +kernel
theorem dX7_walker_60 : decode cX7_walker 60 = .ok (.iload_n 2, 1) := by decide +kernel
theorem dX7_walker_61 : decode cX7_walker 61 = .ok (.invokevirtual 66, 3) := by decide +kernel
theorem dX7_walker_64 : decode cX7_walker 64 = .ok (.ireturn, 1) := by decide +kernel
theorem dX7_deed_0 : decode cX7_deed 0 = .ok (.iload_n 1, 1) := by decide +kernel
theorem dX7_deed_1 : decode cX7_deed 1 = .ok (.iconst 0, 1) := by decide +kernel
theorem dX7_deed_2 : decode cX7_deed 2 = .ok (.bipush 8, 2) := by decide +kernel
theorem dX7_deed_4 : decode cX7_deed 4 = .ok (.invokestatic 95, 3) := by decide +kernel
theorem dX7_deed_7 : decode cX7_deed 7 = .ok (.ifCond .ne 6, 3) := by decide +kernel
theorem dX7_deed_10 : decode cX7_deed 10 = .ok (.bipush (-3), 2) := by decide +kernel
theorem dX7_deed_12 : decode cX7_deed 12 = .ok (.ireturn, 1) := by decide +kernel
theorem dX7_deed_13 : decode cX7_deed 13 = .ok (.iload_n 1, 1) := by decide +kernel
theorem dX7_deed_14 : decode cX7_deed 14 = .ok (.ifCond .ne 20, 3) := by decide +kernel
theorem dX7_deed_17 : decode cX7_deed 17 = .ok (.iload_n 2, 1) := by decide +kernel
theorem dX7_deed_18 : decode cX7_deed 18 = .ok (.invokestatic 99, 3) := by decide +kernel
theorem dX7_deed_21 : decode cX7_deed 21 = .ok (.ifCond .eq 10, 3) := by decide +kernel
theorem dX7_deed_24 : decode cX7_deed 24 = .ok (.iload_n 3, 1) := by decide +kernel
theorem dX7_deed_25 : decode cX7_deed 25 = .ok (.invokestatic 103, 3) := by decide +kernel
theorem dX7_deed_28 : decode cX7_deed 28 = .ok (.ifCond .ne 6, 3) := by decide +kernel
theorem dX7_deed_31 : decode cX7_deed 31 = .ok (.bipush (-3), 2) := by decide +kernel
theorem dX7_deed_33 : decode cX7_deed 33 = .ok (.ireturn, 1) := by decide +kernel
theorem dX7_deed_34 : decode cX7_deed 34 = .ok (.iload_n 1, 1) := by decide +kernel
theorem dX7_deed_35 : decode cX7_deed 35 = .ok (.bipush 8, 2) := by decide +kernel
theorem dX7_deed_37 : decode cX7_deed 37 = .ok (.if_icmp .ne 17, 3) := by decide +kernel
theorem dX7_deed_40 : decode cX7_deed 40 = .ok (.iload_n 3, 1) := by decide +kernel
theorem dX7_deed_41 : decode cX7_deed 41 = .ok (.iconst 1, 1) := by decide +kernel
theorem dX7_deed_42 : decode cX7_deed 42 = .ok (.sipush 600, 3) := by decide +kernel
theorem dX7_deed_45 : decode cX7_deed 45 = .ok (.invokestatic 95, 3) := by decide +kernel
theorem dX7_deed_48 : decode cX7_deed 48 = .ok (.ifCond .ne 6, 3) := by decide +kernel
theorem dX7_deed_51 : decode cX7_deed 51 = .ok (.bipush (-3), 2) := by decide +kernel
theorem dX7_deed_53 : decode cX7_deed 53 = .ok (.ireturn, 1) := by decide +kernel
theorem dX7_deed_54 : decode cX7_deed 54 = .ok (.aload_n 0, 1) := by decide +kernel
theorem dX7_deed_55 : decode cX7_deed 55 = .ok (.aload_n 0, 1) := by decide +kernel
theorem dX7_deed_56 : decode cX7_deed 56 = .ok (.getfield 19, 3) := by decide +kernel
theorem dX7_deed_59 : decode cX7_deed 59 = .ok (.iload_n 1, 1) := by decide +kernel
theorem dX7_deed_60 : decode cX7_deed 60 = .ok (.iload_n 2, 1) := by decide +kernel
theorem dX7_deed_61 : decode cX7_deed 61 = .ok (.iload_n 3, 1) := by decide +kernel
theorem dX7_deed_62 : decode cX7_deed 62 = .ok (.invokevirtual 106, 3) := by decide +kernel
theorem dX7_deed_65 : decode cX7_deed 65 = .ok (.invokevirtual 66, 3) := by decide +kernel
theorem dX7_deed_68 : decode cX7_deed 68 = .ok (.ireturn, 1) := by decide +kernel
theorem dX7_condition_0 : decode cX7_condition 0 = .ok (.iload_n 1, 1) := by decide +kernel
theorem dX7_condition_1 : decode cX7_condition 1 = .ok (.aload_n 0, 1) := by decide +kernel
theorem dX7_condition_2 : decode cX7_condition 2 = .ok (.getfield 19, 3) := by decide +kernel
theorem dX7_condition_5 : decode cX7_condition 5 = .ok (.getfield 110, 3) := by decide +kernel
theorem dX7_condition_8 : decode cX7_condition 8 = .ok (.invokestatic 74, 3) := by decide +kernel
theorem dX7_condition_11 : decode cX7_condition 11 = .ok (.ifCond .ne 6, 3) := by decide +kernel
theorem dX7_condition_14 : decode cX7_condition 14 = .ok (.bipush (-2), 2) := by decide +kernel
theorem dX7_condition_16 : decode cX7_condition 16 = .ok (.ireturn, 1) := by decide +kernel
theorem dX7_condition_17 : decode cX7_condition 17 = .ok (.iload_n 2, 1) := by decide +kernel
theorem dX7_condition_18 : decode cX7_condition 18 = .ok (.iconst (-1), 1) := by decide +kernel
theorem dX7_condition_19 : decode cX7_condition 19 = .ok (.if_icmp .eq 10, 3) := by decide +kernel
theorem dX7_condition_22 : decode cX7_condition 22 = .ok (.iload_n 2, 1) := by decide +kernel
theorem dX7_condition_23 : decode cX7_condition 23 = .ok (.invokestatic 99, 3) := by decide +kernel
theorem dX7_condition_26 : decode cX7_condition 26 = .ok (.ifCond .eq 10, 3) := by decide +kernel
theorem dX7_condition_29 : decode cX7_condition 29 = .ok (.iload_n 3, 1) := by decide +kernel
theorem dX7_condition_30 : decode cX7_condition 30 = .ok (.invokestatic 103, 3) := by decide +kernel
theorem dX7_condition_33 : decode cX7_condition 33 = .ok (.ifCond .ne 6, 3) := by decide +kernel
theorem dX7_condition_36 : decode cX7_condition 36 = .ok (.bipush (-3), 2) := by decide +kernel
theorem dX7_condition_38 : decode cX7_condition 38 = .ok (.ireturn, 1) := by decide +kernel
theorem dX7_condition_39 : decode cX7_condition 39 = .ok (.aload_n 0, 1) := by decide +kernel
theorem dX7_condition_40 : decode cX7_condition 40 = .ok (.getfield 19, 3) := by decide +kernel
theorem dX7_condition_43 : decode cX7_condition 43 = .ok (.getfield 113, 3) := by decide +kernel
theorem dX7_condition_46 : decode cX7_condition 46 = .ok (.iload_n 1, 1) := by decide +kernel
theorem dX7_condition_47 : decode cX7_condition 47 = .ok (.iload_n 2, 1) := by decide +kernel
theorem dX7_condition_48 : decode cX7_condition 48 = .ok (.iastore, 1) := by decide +kernel
theorem dX7_condition_49 : decode cX7_condition 49 = .ok (.aload_n 0, 1) := by decide +kernel
theorem dX7_condition_50 : decode cX7_condition 50 = .ok (.getfield 19, 3) := by decide +kernel
theorem dX7_condition_53 : decode cX7_condition 53 = .ok (.getfield 116, 3) := by decide +kernel
theorem dX7_condition_56 : decode cX7_condition 56 = .ok (.iload_n 1, 1) := by decide +kernel
theorem dX7_condition_57 : decode cX7_condition 57 = .ok (.iload_n 3, 1) := by decide +kernel
theorem dX7_condition_58 : decode cX7_condition 58 = .ok (.iastore, 1) := by decide +kernel
theorem dX7_condition_59 : decode cX7_condition 59 = .ok (.aload_n 0, 1) := by decide +kernel
theorem dX7_condition_60 : decode cX7_condition 60 = .ok (.iconst 1, 1) := by decide +kernel
theorem dX7_condition_61 : decode cX7_condition 61 = .ok (.invokevirtual 66, 3) := by decide +kernel
theorem dX7_condition_64 : decode cX7_condition 64 = .ok (.ireturn, 1) := by decide +kernel
theorem dX7_event_0 : decode cX7_event 0 = .ok (.iload_n 1, 1) := by decide +kernel
theorem dX7_event_1 : decode cX7_event 1 = .ok (.aload_n 0, 1) := by decide +kernel
theorem dX7_event_2 : decode cX7_event 2 = .ok (.getfield 19, 3) := by decide +kernel
theorem dX7_event_5 : decode cX7_event 5 = .ok (.getfield 110, 3) := by decide +kernel
theorem dX7_event_8 : decode cX7_event 8 = .ok (.invokestatic 74, 3) := by decide +kernel
theorem dX7_event_11 : decode cX7_event 11 = .ok (.ifCond .ne 6, 3) := by decide +kernel
theorem dX7_event_14 : decode cX7_event 14 = .ok (.bipush (-2), 2) := by decide +kernel
theorem dX7_event_16 : decode cX7_event 16 = .ok (.ireturn, 1) := by decide +kernel
theorem dX7_event_17 : decode cX7_event 17 = .ok (.iload_n 2, 1) := by decide +kernel
theorem dX7_event_18 : decode cX7_event 18 = .ok (.iconst 0, 1) := by decide +kernel
theorem dX7_event_19 : decode cX7_event 19 = .ok (.sipush 1439, 3) := by decide +kernel
theorem dX7_event_22 : decode cX7_event 22 = .ok (.invokestatic 95, 3) := by decide +kernel
theorem dX7_event_25 : decode cX7_event 25 = .ok (.ifCond .ne 6, 3) := by decide +kernel
theorem dX7_event_28 : decode cX7_event 28 = .ok (.bipush (-3), 2) := by decide +kernel
theorem dX7_event_30 : decode cX7_event 30 = .ok (.ireturn, 1) := by decide +kernel
theorem dX7_event_31 : decode cX7_event 31 = .ok (.aload_n 0, 1) := by decide +kernel
theorem dX7_event_32 : decode cX7_event 32 = .ok (.aload_n 0, 1) := by decide +kernel
theorem dX7_event_33 : decode cX7_event 33 = .ok (.getfield 26, 3) := by decide +kernel
theorem dX7_event_36 : decode cX7_event 36 = .ok (.iload_n 1, 1) := by decide +kernel
theorem dX7_event_37 : decode cX7_event 37 = .ok (.iload_n 2, 1) := by decide +kernel
theorem dX7_event_38 : decode cX7_event 38 = .ok (.iload_n 3, 1) := by decide +kernel
theorem dX7_event_39 : decode cX7_event 39 = .ok (.invokevirtual 119, 3) := by decide +kernel
theorem dX7_event_42 : decode cX7_event 42 = .ok (.invokevirtual 66, 3) := by decide +kernel
theorem dX7_event_45 : decode cX7_event 45 = .ok (.ireturn, 1) := by decide +kernel
theorem dX7_timer_0 : decode cX7_timer 0 = .ok (.iload_n 1, 1) := by decide +kernel
theorem dX7_timer_1 : decode cX7_timer 1 = .ok (.aload_n 0, 1) := by decide +kernel
theorem dX7_timer_2 : decode cX7_timer 2 = .ok (.getfield 19, 3) := by decide +kernel
theorem dX7_timer_5 : decode cX7_timer 5 = .ok (.getfield 110, 3) := by decide +kernel
theorem dX7_timer_8 : decode cX7_timer 8 = .ok (.invokestatic 74, 3) := by decide +kernel
theorem dX7_timer_11 : decode cX7_timer 11 = .ok (.ifCond .ne 6, 3) := by decide +kernel
theorem dX7_timer_14 : decode cX7_timer 14 = .ok (.bipush (-2), 2) := by decide +kernel
theorem dX7_timer_16 : decode cX7_timer 16 = .ok (.ireturn, 1) := by decide +kernel
theorem dX7_timer_17 : decode cX7_timer 17 = .ok (.iload_n 2, 1) := by decide +kernel
theorem dX7_timer_18 : decode cX7_timer 18 = .ok (.iconst 1, 1) := by decide +kernel
theorem dX7_timer_19 : decode cX7_timer 19 = .ok (.bipush 50, 2) := by decide +kernel
theorem dX7_timer_21 : decode cX7_timer 21 = .ok (.invokestatic 95, 3) := by decide +kernel
theorem dX7_timer_24 : decode cX7_timer 24 = .ok (.ifCond .ne 6, 3) := by decide +kernel
theorem dX7_timer_27 : decode cX7_timer 27 = .ok (.bipush (-3), 2) := by decide +kernel
theorem dX7_timer_29 : decode cX7_timer 29 = .ok (.ireturn, 1) := by decide +kernel
theorem dX7_timer_30 : decode cX7_timer 30 = .ok (.aload_n 0, 1) := by decide +kernel
theorem dX7_timer_31 : decode cX7_timer 31 = .ok (.aload_n 0, 1) := by decide +kernel
theorem dX7_timer_32 : decode cX7_timer 32 = .ok (.getfield 33, 3) := by decide +kernel
theorem dX7_timer_35 : decode cX7_timer 35 = .ok (.iload_n 1, 1) := by decide +kernel
theorem dX7_timer_36 : decode cX7_timer 36 = .ok (.iload_n 2, 1) := by decide +kernel
theorem dX7_timer_37 : decode cX7_timer 37 = .ok (.iload_n 3, 1) := by decide +kernel
theorem dX7_timer_38 : decode cX7_timer 38 = .ok (.invokevirtual 123, 3) := by decide +kernel
theorem dX7_timer_41 : decode cX7_timer 41 = .ok (.invokevirtual 66, 3) := by decide +kernel
theorem dX7_timer_44 : decode cX7_timer 44 = .ok (.ireturn, 1) := by decide +kernel
theorem dX7_daemon_0 : decode cX7_daemon 0 = .ok (.iload_n 1, 1) := by decide +kernel
theorem dX7_daemon_1 : decode cX7_daemon 1 = .ok (.aload_n 0, 1) := by decide +kernel
theorem dX7_daemon_2 : decode cX7_daemon 2 = .ok (.getfield 19, 3) := by decide +kernel
theorem dX7_daemon_5 : decode cX7_daemon 5 = .ok (.getfield 110, 3) := by decide +kernel
theorem dX7_daemon_8 : decode cX7_daemon 8 = .ok (.invokestatic 74, 3) := by decide +kernel
theorem dX7_daemon_11 : decode cX7_daemon 11 = .ok (.ifCond .ne 6, 3) := by decide +kernel
theorem dX7_daemon_14 : decode cX7_daemon 14 = .ok (.bipush (-2), 2) := by decide +kernel
theorem dX7_daemon_16 : decode cX7_daemon 16 = .ok (.ireturn, 1) := by decide +kernel
theorem dX7_daemon_17 : decode cX7_daemon 17 = .ok (.iload_n 2, 1) := by decide +kernel
theorem dX7_daemon_18 : decode cX7_daemon 18 = .ok (.iconst 0, 1) := by decide +kernel
theorem dX7_daemon_19 : decode cX7_daemon 19 = .ok (.bipush 9, 2) := by decide +kernel
theorem dX7_daemon_21 : decode cX7_daemon 21 = .ok (.invokestatic 95, 3) := by decide +kernel
theorem dX7_daemon_24 : decode cX7_daemon 24 = .ok (.ifCond .ne 6, 3) := by decide +kernel
theorem dX7_daemon_27 : decode cX7_daemon 27 = .ok (.bipush (-3), 2) := by decide +kernel
theorem dX7_daemon_29 : decode cX7_daemon 29 = .ok (.ireturn, 1) := by decide +kernel
theorem dX7_daemon_30 : decode cX7_daemon 30 = .ok (.aload_n 0, 1) := by decide +kernel
theorem dX7_daemon_31 : decode cX7_daemon 31 = .ok (.aload_n 0, 1) := by decide +kernel
theorem dX7_daemon_32 : decode cX7_daemon 32 = .ok (.getfield 40, 3) := by decide +kernel
theorem dX7_daemon_35 : decode cX7_daemon 35 = .ok (.iload_n 1, 1) := by decide +kernel
theorem dX7_daemon_36 : decode cX7_daemon 36 = .ok (.iload_n 2, 1) := by decide +kernel
theorem dX7_daemon_37 : decode cX7_daemon 37 = .ok (.invokevirtual 126, 3) := by decide +kernel
theorem dX7_daemon_40 : decode cX7_daemon 40 = .ok (.invokevirtual 66, 3) := by decide +kernel
theorem dX7_daemon_43 : decode cX7_daemon 43 = .ok (.ireturn, 1) := by decide +kernel
theorem dX7_act_0 : decode cX7_act 0 = .ok (.iload_n 1, 1) := by decide +kernel
theorem dX7_act_1 : decode cX7_act 1 = .ok (.aload_n 0, 1) := by decide +kernel
theorem dX7_act_2 : decode cX7_act 2 = .ok (.getfield 19, 3) := by decide +kernel
theorem dX7_act_5 : decode cX7_act 5 = .ok (.getfield 110, 3) := by decide +kernel
theorem dX7_act_8 : decode cX7_act 8 = .ok (.invokestatic 74, 3) := by decide +kernel
theorem dX7_act_11 : decode cX7_act 11 = .ok (.ifCond .ne 6, 3) := by decide +kernel
theorem dX7_act_14 : decode cX7_act 14 = .ok (.bipush (-2), 2) := by decide +kernel
theorem dX7_act_16 : decode cX7_act 16 = .ok (.ireturn, 1) := by decide +kernel
theorem dX7_act_17 : decode cX7_act 17 = .ok (.aload_n 0, 1) := by decide +kernel
theorem dX7_act_18 : decode cX7_act 18 = .ok (.aload_n 0, 1) := by decide +kernel
theorem dX7_act_19 : decode cX7_act 19 = .ok (.iload_n 1, 1) := by decide +kernel
theorem dX7_act_20 : decode cX7_act 20 = .ok (.invokevirtual 129, 3) := by decide +kernel
theorem dX7_act_23 : decode cX7_act 23 = .ok (.ifCond .eq 7, 3) := by decide +kernel
theorem dX7_act_26 : decode cX7_act 26 = .ok (.iconst 1, 1) := by decide +kernel
theorem dX7_act_27 : decode cX7_act 27 = .ok (.goto 4, 3) := by decide +kernel
theorem dX7_act_30 : decode cX7_act 30 = .ok (.iconst 0, 1) := by decide +kernel
theorem dX7_act_31 : decode cX7_act 31 = .ok (.invokevirtual 66, 3) := by decide +kernel
theorem dX7_act_34 : decode cX7_act 34 = .ok (.ireturn, 1) := by decide +kernel
theorem dX7_pace_0 : decode cX7_pace 0 = .ok (.iload_n 1, 1) := by decide +kernel
theorem dX7_pace_1 : decode cX7_pace 1 = .ok (.iconst 1, 1) := by decide +kernel
theorem dX7_pace_2 : decode cX7_pace 2 = .ok (.bipush 60, 2) := by decide +kernel
theorem dX7_pace_4 : decode cX7_pace 4 = .ok (.invokestatic 95, 3) := by decide +kernel
theorem dX7_pace_7 : decode cX7_pace 7 = .ok (.ifCond .ne 6, 3) := by decide +kernel
theorem dX7_pace_10 : decode cX7_pace 10 = .ok (.bipush (-3), 2) := by decide +kernel
theorem dX7_pace_12 : decode cX7_pace 12 = .ok (.ireturn, 1) := by decide +kernel
theorem dX7_pace_13 : decode cX7_pace 13 = .ok (.aload_n 0, 1) := by decide +kernel
theorem dX7_pace_14 : decode cX7_pace 14 = .ok (.getfield 47, 3) := by decide +kernel
theorem dX7_pace_17 : decode cX7_pace 17 = .ok (.getfield 132, 3) := by decide +kernel
theorem dX7_pace_20 : decode cX7_pace 20 = .ok (.istore_n 2, 1) := by decide +kernel
theorem dX7_pace_21 : decode cX7_pace 21 = .ok (.aload_n 0, 1) := by decide +kernel
theorem dX7_pace_22 : decode cX7_pace 22 = .ok (.getfield 47, 3) := by decide +kernel
theorem dX7_pace_25 : decode cX7_pace 25 = .ok (.iload_n 1, 1) := by decide +kernel
theorem dX7_pace_26 : decode cX7_pace 26 = .ok (.putfield 132, 3) := by decide +kernel
theorem dX7_pace_29 : decode cX7_pace 29 = .ok (.aload_n 0, 1) := by decide +kernel
theorem dX7_pace_30 : decode cX7_pace 30 = .ok (.iload_n 2, 1) := by decide +kernel
theorem dX7_pace_31 : decode cX7_pace 31 = .ok (.invokevirtual 66, 3) := by decide +kernel
theorem dX7_pace_34 : decode cX7_pace 34 = .ok (.ireturn, 1) := by decide +kernel
theorem dX7_turn_0 : decode cX7_turn 0 = .ok (.aload_n 0, 1) := by decide +kernel
theorem dX7_turn_1 : decode cX7_turn 1 = .ok (.getfield 54, 3) := by decide +kernel
theorem dX7_turn_4 : decode cX7_turn 4 = .ok (.aload_n 0, 1) := by decide +kernel
theorem dX7_turn_5 : decode cX7_turn 5 = .ok (.getfield 47, 3) := by decide +kernel
theorem dX7_turn_8 : decode cX7_turn 8 = .ok (.invokevirtual 135, 3) := by decide +kernel
theorem dX7_turn_11 : decode cX7_turn 11 = .ok (.aload_n 0, 1) := by decide +kernel
theorem dX7_turn_12 : decode cX7_turn 12 = .ok (.getfield 47, 3) := by decide +kernel
theorem dX7_turn_15 : decode cX7_turn 15 = .ok (.dup, 1) := by decide +kernel
theorem dX7_turn_16 : decode cX7_turn 16 = .ok (.getfield 139, 3) := by decide +kernel
theorem dX7_turn_19 : decode cX7_turn 19 = .ok (.iconst 1, 1) := by decide +kernel
theorem dX7_turn_20 : decode cX7_turn 20 = .ok (.iadd, 1) := by decide +kernel
theorem dX7_turn_21 : decode cX7_turn 21 = .ok (.putfield 139, 3) := by decide +kernel
theorem dX7_turn_24 : decode cX7_turn 24 = .ok (.aload_n 0, 1) := by decide +kernel
theorem dX7_turn_25 : decode cX7_turn 25 = .ok (.getfield 47, 3) := by decide +kernel
theorem dX7_turn_28 : decode cX7_turn 28 = .ok (.iconst 0, 1) := by decide +kernel
theorem dX7_turn_29 : decode cX7_turn 29 = .ok (.putfield 142, 3) := by decide +kernel
theorem dX7_turn_32 : decode cX7_turn 32 = .ok (.aload_n 0, 1) := by decide +kernel
theorem dX7_turn_33 : decode cX7_turn 33 = .ok (.iconst 0, 1) := by decide +kernel
theorem dX7_turn_34 : decode cX7_turn 34 = .ok (.putfield 145, 3) := by decide +kernel
theorem dX7_turn_37 : decode cX7_turn 37 = .ok (.aload_n 0, 1) := by decide +kernel
theorem dX7_turn_38 : decode cX7_turn 38 = .ok (.invokevirtual 149, 3) := by decide +kernel
theorem dX7_turn_41 : decode cX7_turn 41 = .ok (.aload_n 0, 1) := by decide +kernel
theorem dX7_turn_42 : decode cX7_turn 42 = .ok (.invokevirtual 152, 3) := by decide +kernel
theorem dX7_turn_45 : decode cX7_turn 45 = .ok (.aload_n 0, 1) := by decide +kernel
theorem dX7_turn_46 : decode cX7_turn 46 = .ok (.invokevirtual 155, 3) := by decide +kernel
theorem dX7_turn_49 : decode cX7_turn 49 = .ok (.aload_n 0, 1) := by decide +kernel
theorem dX7_turn_50 : decode cX7_turn 50 = .ok (.invokevirtual 158, 3) := by decide +kernel
theorem dX7_turn_53 : decode cX7_turn 53 = .ok (.aload_n 0, 1) := by decide +kernel
theorem dX7_turn_54 : decode cX7_turn 54 = .ok (.getfield 47, 3) := by decide +kernel
theorem dX7_turn_57 : decode cX7_turn 57 = .ok (.getfield 142, 3) := by decide +kernel
theorem dX7_turn_60 : decode cX7_turn 60 = .ok (.ireturn, 1) := by decide +kernel
theorem dX7_back_0 : decode cX7_back 0 = .ok (.aload_n 0, 1) := by decide +kernel
theorem dX7_back_1 : decode cX7_back 1 = .ok (.getfield 54, 3) := by decide +kernel
theorem dX7_back_4 : decode cX7_back 4 = .ok (.getfield 161, 3) := by decide +kernel
theorem dX7_back_7 : decode cX7_back 7 = .ok (.ifCond .ne 6, 3) := by decide +kernel
theorem dX7_back_10 : decode cX7_back 10 = .ok (.bipush (-4), 2) := by decide +kernel
theorem dX7_back_12 : decode cX7_back 12 = .ok (.ireturn, 1) := by decide +kernel
theorem dX7_back_13 : decode cX7_back 13 = .ok (.aload_n 0, 1) := by decide +kernel
theorem dX7_back_14 : decode cX7_back 14 = .ok (.getfield 54, 3) := by decide +kernel
theorem dX7_back_17 : decode cX7_back 17 = .ok (.aload_n 0, 1) := by decide +kernel
theorem dX7_back_18 : decode cX7_back 18 = .ok (.getfield 47, 3) := by decide +kernel
theorem dX7_back_21 : decode cX7_back 21 = .ok (.invokevirtual 162, 3) := by decide +kernel
theorem dX7_back_24 : decode cX7_back 24 = .ok (.aload_n 0, 1) := by decide +kernel
theorem dX7_back_25 : decode cX7_back 25 = .ok (.getfield 54, 3) := by decide +kernel
theorem dX7_back_28 : decode cX7_back 28 = .ok (.getfield 161, 3) := by decide +kernel
theorem dX7_back_31 : decode cX7_back 31 = .ok (.ireturn, 1) := by decide +kernel
theorem dX7_told_0 : decode cX7_told 0 = .ok (.iload_n 1, 1) := by decide +kernel
theorem dX7_told_1 : decode cX7_told 1 = .ok (.tableswitch 99 0 6 #[43, 51, 59, 67, 75, 83, 91], 43) := by decide +kernel
theorem dX7_told_44 : decode cX7_told 44 = .ok (.aload_n 0, 1) := by decide +kernel
theorem dX7_told_45 : decode cX7_told 45 = .ok (.getfield 47, 3) := by decide +kernel
theorem dX7_told_48 : decode cX7_told 48 = .ok (.getfield 165, 3) := by decide +kernel
theorem dX7_told_51 : decode cX7_told 51 = .ok (.ireturn, 1) := by decide +kernel
theorem dX7_told_52 : decode cX7_told 52 = .ok (.aload_n 0, 1) := by decide +kernel
theorem dX7_told_53 : decode cX7_told 53 = .ok (.getfield 47, 3) := by decide +kernel
theorem dX7_told_56 : decode cX7_told 56 = .ok (.getfield 168, 3) := by decide +kernel
theorem dX7_told_59 : decode cX7_told 59 = .ok (.ireturn, 1) := by decide +kernel
theorem dX7_told_60 : decode cX7_told 60 = .ok (.aload_n 0, 1) := by decide +kernel
theorem dX7_told_61 : decode cX7_told 61 = .ok (.getfield 47, 3) := by decide +kernel
theorem dX7_told_64 : decode cX7_told 64 = .ok (.getfield 139, 3) := by decide +kernel
theorem dX7_told_67 : decode cX7_told 67 = .ok (.ireturn, 1) := by decide +kernel
theorem dX7_told_68 : decode cX7_told 68 = .ok (.aload_n 0, 1) := by decide +kernel
theorem dX7_told_69 : decode cX7_told 69 = .ok (.getfield 47, 3) := by decide +kernel
theorem dX7_told_72 : decode cX7_told 72 = .ok (.getfield 132, 3) := by decide +kernel
theorem dX7_told_75 : decode cX7_told 75 = .ok (.ireturn, 1) := by decide +kernel
theorem dX7_told_76 : decode cX7_told 76 = .ok (.aload_n 0, 1) := by decide +kernel
theorem dX7_told_77 : decode cX7_told 77 = .ok (.getfield 47, 3) := by decide +kernel
theorem dX7_told_80 : decode cX7_told 80 = .ok (.getfield 171, 3) := by decide +kernel
theorem dX7_told_83 : decode cX7_told 83 = .ok (.ireturn, 1) := by decide +kernel
theorem dX7_told_84 : decode cX7_told 84 = .ok (.aload_n 0, 1) := by decide +kernel
theorem dX7_told_85 : decode cX7_told 85 = .ok (.getfield 54, 3) := by decide +kernel
theorem dX7_told_88 : decode cX7_told 88 = .ok (.getfield 161, 3) := by decide +kernel
theorem dX7_told_91 : decode cX7_told 91 = .ok (.ireturn, 1) := by decide +kernel
theorem dX7_told_92 : decode cX7_told 92 = .ok (.aload_n 0, 1) := by decide +kernel
theorem dX7_told_93 : decode cX7_told 93 = .ok (.getfield 47, 3) := by decide +kernel
theorem dX7_told_96 : decode cX7_told 96 = .ok (.getfield 142, 3) := by decide +kernel
theorem dX7_told_99 : decode cX7_told 99 = .ok (.ireturn, 1) := by decide +kernel
theorem dX7_told_100 : decode cX7_told 100 = .ok (.bipush (-3), 2) := by decide +kernel
theorem dX7_told_102 : decode cX7_told 102 = .ok (.ireturn, 1) := by decide +kernel
theorem dX7_count_0 : decode cX7_count 0 = .ok (.iload_n 1, 1) := by decide +kernel
theorem dX7_count_1 : decode cX7_count 1 = .ok (.tableswitch 99 0 6 #[43, 51, 59, 67, 75, 83, 91], 43) := by decide +kernel
theorem dX7_count_44 : decode cX7_count 44 = .ok (.aload_n 0, 1) := by decide +kernel
theorem dX7_count_45 : decode cX7_count 45 = .ok (.getfield 12, 3) := by decide +kernel
theorem dX7_count_48 : decode cX7_count 48 = .ok (.getfield 70, 3) := by decide +kernel
theorem dX7_count_51 : decode cX7_count 51 = .ok (.ireturn, 1) := by decide +kernel
theorem dX7_count_52 : decode cX7_count 52 = .ok (.aload_n 0, 1) := by decide +kernel
theorem dX7_count_53 : decode cX7_count 53 = .ok (.getfield 12, 3) := by decide +kernel
theorem dX7_count_56 : decode cX7_count 56 = .ok (.getfield 174, 3) := by decide +kernel
theorem dX7_count_59 : decode cX7_count 59 = .ok (.ireturn, 1) := by decide +kernel
theorem dX7_count_60 : decode cX7_count 60 = .ok (.aload_n 0, 1) := by decide +kernel
theorem dX7_count_61 : decode cX7_count 61 = .ok (.getfield 12, 3) := by decide +kernel
theorem dX7_count_64 : decode cX7_count 64 = .ok (.getfield 85, 3) := by decide +kernel
theorem dX7_count_67 : decode cX7_count 67 = .ok (.ireturn, 1) := by decide +kernel
theorem dX7_count_68 : decode cX7_count 68 = .ok (.aload_n 0, 1) := by decide +kernel
theorem dX7_count_69 : decode cX7_count 69 = .ok (.getfield 19, 3) := by decide +kernel
theorem dX7_count_72 : decode cX7_count 72 = .ok (.getfield 110, 3) := by decide +kernel
theorem dX7_count_75 : decode cX7_count 75 = .ok (.ireturn, 1) := by decide +kernel
theorem dX7_count_76 : decode cX7_count 76 = .ok (.aload_n 0, 1) := by decide +kernel
theorem dX7_count_77 : decode cX7_count 77 = .ok (.getfield 26, 3) := by decide +kernel
theorem dX7_count_80 : decode cX7_count 80 = .ok (.getfield 177, 3) := by decide +kernel
theorem dX7_count_83 : decode cX7_count 83 = .ok (.ireturn, 1) := by decide +kernel
theorem dX7_count_84 : decode cX7_count 84 = .ok (.aload_n 0, 1) := by decide +kernel
theorem dX7_count_85 : decode cX7_count 85 = .ok (.getfield 33, 3) := by decide +kernel
theorem dX7_count_88 : decode cX7_count 88 = .ok (.getfield 178, 3) := by decide +kernel
theorem dX7_count_91 : decode cX7_count 91 = .ok (.ireturn, 1) := by decide +kernel
theorem dX7_count_92 : decode cX7_count 92 = .ok (.aload_n 0, 1) := by decide +kernel
theorem dX7_count_93 : decode cX7_count 93 = .ok (.getfield 40, 3) := by decide +kernel
theorem dX7_count_96 : decode cX7_count 96 = .ok (.getfield 179, 3) := by decide +kernel
theorem dX7_count_99 : decode cX7_count 99 = .ok (.ireturn, 1) := by decide +kernel
theorem dX7_count_100 : decode cX7_count 100 = .ok (.bipush (-3), 2) := by decide +kernel
theorem dX7_count_102 : decode cX7_count 102 = .ok (.ireturn, 1) := by decide +kernel
theorem dX7_counter_0 : decode cX7_counter 0 = .ok (.iload_n 1, 1) := by decide +kernel
theorem dX7_counter_1 : decode cX7_counter 1 = .ok (.invokestatic 99, 3) := by decide +kernel
theorem dX7_counter_4 : decode cX7_counter 4 = .ok (.ifCond .eq 15, 3) := by decide +kernel
theorem dX7_counter_7 : decode cX7_counter 7 = .ok (.aload_n 0, 1) := by decide +kernel
theorem dX7_counter_8 : decode cX7_counter 8 = .ok (.getfield 47, 3) := by decide +kernel
theorem dX7_counter_11 : decode cX7_counter 11 = .ok (.getfield 180, 3) := by decide +kernel
theorem dX7_counter_14 : decode cX7_counter 14 = .ok (.iload_n 1, 1) := by decide +kernel
theorem dX7_counter_15 : decode cX7_counter 15 = .ok (.iaload, 1) := by decide +kernel
theorem dX7_counter_16 : decode cX7_counter 16 = .ok (.goto 5, 3) := by decide +kernel
theorem dX7_counter_19 : decode cX7_counter 19 = .ok (.bipush (-3), 2) := by decide +kernel
theorem dX7_counter_21 : decode cX7_counter 21 = .ok (.ireturn, 1) := by decide +kernel
theorem dX7_left_0 : decode cX7_left 0 = .ok (.iload_n 1, 1) := by decide +kernel
theorem dX7_left_1 : decode cX7_left 1 = .ok (.aload_n 0, 1) := by decide +kernel
theorem dX7_left_2 : decode cX7_left 2 = .ok (.getfield 33, 3) := by decide +kernel
theorem dX7_left_5 : decode cX7_left 5 = .ok (.getfield 178, 3) := by decide +kernel
theorem dX7_left_8 : decode cX7_left 8 = .ok (.invokestatic 74, 3) := by decide +kernel
theorem dX7_left_11 : decode cX7_left 11 = .ok (.ifCond .eq 15, 3) := by decide +kernel
theorem dX7_left_14 : decode cX7_left 14 = .ok (.aload_n 0, 1) := by decide +kernel
theorem dX7_left_15 : decode cX7_left 15 = .ok (.getfield 47, 3) := by decide +kernel
theorem dX7_left_18 : decode cX7_left 18 = .ok (.getfield 183, 3) := by decide +kernel
theorem dX7_left_21 : decode cX7_left 21 = .ok (.iload_n 1, 1) := by decide +kernel
theorem dX7_left_22 : decode cX7_left 22 = .ok (.iaload, 1) := by decide +kernel
theorem dX7_left_23 : decode cX7_left 23 = .ok (.goto 5, 3) := by decide +kernel
theorem dX7_left_26 : decode cX7_left 26 = .ok (.bipush (-2), 2) := by decide +kernel
theorem dX7_left_28 : decode cX7_left 28 = .ok (.ireturn, 1) := by decide +kernel
theorem dX7_is_0 : decode cX7_is 0 = .ok (.iload_n 1, 1) := by decide +kernel
theorem dX7_is_1 : decode cX7_is 1 = .ok (.tableswitch 139 0 2 #[27, 59, 99], 27) := by decide +kernel
theorem dX7_is_28 : decode cX7_is 28 = .ok (.iload_n 2, 1) := by decide +kernel
theorem dX7_is_29 : decode cX7_is 29 = .ok (.aload_n 0, 1) := by decide +kernel
theorem dX7_is_30 : decode cX7_is 30 = .ok (.getfield 40, 3) := by decide +kernel
theorem dX7_is_33 : decode cX7_is 33 = .ok (.getfield 179, 3) := by decide +kernel
theorem dX7_is_36 : decode cX7_is 36 = .ok (.invokestatic 74, 3) := by decide +kernel
theorem dX7_is_39 : decode cX7_is 39 = .ok (.ifCond .eq 18, 3) := by decide +kernel
theorem dX7_is_42 : decode cX7_is 42 = .ok (.aload_n 0, 1) := by decide +kernel
theorem dX7_is_43 : decode cX7_is 43 = .ok (.getfield 47, 3) := by decide +kernel
theorem dX7_is_46 : decode cX7_is 46 = .ok (.getfield 186, 3) := by decide +kernel
theorem dX7_is_49 : decode cX7_is 49 = .ok (.iload_n 2, 1) := by decide +kernel
theorem dX7_is_50 : decode cX7_is 50 = .ok (.baload, 1) := by decide +kernel
theorem dX7_is_51 : decode cX7_is 51 = .ok (.invokestatic 189, 3) := by decide +kernel
theorem dX7_is_54 : decode cX7_is 54 = .ok (.goto 5, 3) := by decide +kernel
theorem dX7_is_57 : decode cX7_is 57 = .ok (.bipush (-2), 2) := by decide +kernel
theorem dX7_is_59 : decode cX7_is 59 = .ok (.ireturn, 1) := by decide +kernel
theorem dX7_is_60 : decode cX7_is 60 = .ok (.iload_n 2, 1) := by decide +kernel
theorem dX7_is_61 : decode cX7_is 61 = .ok (.aload_n 0, 1) := by decide +kernel
theorem dX7_is_62 : decode cX7_is 62 = .ok (.getfield 12, 3) := by decide +kernel
theorem dX7_is_65 : decode cX7_is 65 = .ok (.getfield 174, 3) := by decide +kernel
theorem dX7_is_68 : decode cX7_is 68 = .ok (.invokestatic 74, 3) := by decide +kernel
theorem dX7_is_71 : decode cX7_is 71 = .ok (.ifCond .eq 26, 3) := by decide +kernel
theorem dX7_is_74 : decode cX7_is 74 = .ok (.aload_n 0, 1) := by decide +kernel
theorem dX7_is_75 : decode cX7_is 75 = .ok (.getfield 47, 3) := by decide +kernel
theorem dX7_is_78 : decode cX7_is 78 = .ok (.getfield 193, 3) := by decide +kernel
theorem dX7_is_81 : decode cX7_is 81 = .ok (.iload_n 2, 1) := by decide +kernel
theorem dX7_is_82 : decode cX7_is 82 = .ok (.baload, 1) := by decide +kernel
theorem dX7_is_83 : decode cX7_is 83 = .ok (.ifCond .ne 7, 3) := by decide +kernel
theorem dX7_is_86 : decode cX7_is 86 = .ok (.iconst 1, 1) := by decide +kernel
theorem dX7_is_87 : decode cX7_is 87 = .ok (.goto 4, 3) := by decide +kernel
theorem dX7_is_90 : decode cX7_is 90 = .ok (.iconst 0, 1) := by decide +kernel
theorem dX7_is_91 : decode cX7_is 91 = .ok (.invokestatic 189, 3) := by decide +kernel
theorem dX7_is_94 : decode cX7_is 94 = .ok (.goto 5, 3) := by decide +kernel
theorem dX7_is_97 : decode cX7_is 97 = .ok (.bipush (-2), 2) := by decide +kernel
theorem dX7_is_99 : decode cX7_is 99 = .ok (.ireturn, 1) := by decide +kernel
theorem dX7_is_100 : decode cX7_is 100 = .ok (.iload_n 2, 1) := by decide +kernel
theorem dX7_is_101 : decode cX7_is 101 = .ok (.aload_n 0, 1) := by decide +kernel
theorem dX7_is_102 : decode cX7_is 102 = .ok (.getfield 26, 3) := by decide +kernel
theorem dX7_is_105 : decode cX7_is 105 = .ok (.getfield 177, 3) := by decide +kernel
theorem dX7_is_108 : decode cX7_is 108 = .ok (.invokestatic 74, 3) := by decide +kernel
theorem dX7_is_111 : decode cX7_is 111 = .ok (.ifCond .eq 26, 3) := by decide +kernel
theorem dX7_is_114 : decode cX7_is 114 = .ok (.aload_n 0, 1) := by decide +kernel
theorem dX7_is_115 : decode cX7_is 115 = .ok (.getfield 47, 3) := by decide +kernel
theorem dX7_is_118 : decode cX7_is 118 = .ok (.getfield 196, 3) := by decide +kernel
theorem dX7_is_121 : decode cX7_is 121 = .ok (.iload_n 2, 1) := by decide +kernel
theorem dX7_is_122 : decode cX7_is 122 = .ok (.baload, 1) := by decide +kernel
theorem dX7_is_123 : decode cX7_is 123 = .ok (.ifCond .ne 7, 3) := by decide +kernel
theorem dX7_is_126 : decode cX7_is 126 = .ok (.iconst 1, 1) := by decide +kernel
theorem dX7_is_127 : decode cX7_is 127 = .ok (.goto 4, 3) := by decide +kernel
theorem dX7_is_130 : decode cX7_is 130 = .ok (.iconst 0, 1) := by decide +kernel
theorem dX7_is_131 : decode cX7_is 131 = .ok (.invokestatic 189, 3) := by decide +kernel
theorem dX7_is_134 : decode cX7_is 134 = .ok (.goto 5, 3) := by decide +kernel
theorem dX7_is_137 : decode cX7_is 137 = .ok (.bipush (-2), 2) := by decide +kernel
theorem dX7_is_139 : decode cX7_is 139 = .ok (.ireturn, 1) := by decide +kernel
theorem dX7_is_140 : decode cX7_is 140 = .ok (.bipush (-3), 2) := by decide +kernel
theorem dX7_is_142 : decode cX7_is 142 = .ok (.ireturn, 1) := by decide +kernel
theorem dX7_walks_0 : decode cX7_walks 0 = .ok (.iload_n 1, 1) := by decide +kernel
theorem dX7_walks_1 : decode cX7_walks 1 = .ok (.aload_n 0, 1) := by decide +kernel
theorem dX7_walks_2 : decode cX7_walks 2 = .ok (.getfield 12, 3) := by decide +kernel
theorem dX7_walks_5 : decode cX7_walks 5 = .ok (.getfield 85, 3) := by decide +kernel
theorem dX7_walks_8 : decode cX7_walks 8 = .ok (.invokestatic 74, 3) := by decide +kernel
theorem dX7_walks_11 : decode cX7_walks 11 = .ok (.ifCond .ne 6, 3) := by decide +kernel
theorem dX7_walks_14 : decode cX7_walks 14 = .ok (.bipush (-2), 2) := by decide +kernel
theorem dX7_walks_16 : decode cX7_walks 16 = .ok (.ireturn, 1) := by decide +kernel
theorem dX7_walks_17 : decode cX7_walks 17 = .ok (.iload_n 2, 1) := by decide +kernel
theorem dX7_walks_18 : decode cX7_walks 18 = .ok (.lookupswitch 46 #[(0, 26), (1, 36)], 26) := by decide +kernel
theorem dX7_walks_44 : decode cX7_walks 44 = .ok (.aload_n 0, 1) := by decide +kernel
theorem dX7_walks_45 : decode cX7_walks 45 = .ok (.getfield 47, 3) := by decide +kernel
theorem dX7_walks_48 : decode cX7_walks 48 = .ok (.getfield 88, 3) := by decide +kernel
theorem dX7_walks_51 : decode cX7_walks 51 = .ok (.iload_n 1, 1) := by decide +kernel
theorem dX7_walks_52 : decode cX7_walks 52 = .ok (.iaload, 1) := by decide +kernel
theorem dX7_walks_53 : decode cX7_walks 53 = .ok (.ireturn, 1) := by decide +kernel
theorem dX7_walks_54 : decode cX7_walks 54 = .ok (.aload_n 0, 1) := by decide +kernel
theorem dX7_walks_55 : decode cX7_walks 55 = .ok (.getfield 47, 3) := by decide +kernel
theorem dX7_walks_58 : decode cX7_walks 58 = .ok (.getfield 92, 3) := by decide +kernel
theorem dX7_walks_61 : decode cX7_walks 61 = .ok (.iload_n 1, 1) := by decide +kernel
theorem dX7_walks_62 : decode cX7_walks 62 = .ok (.iaload, 1) := by decide +kernel
theorem dX7_walks_63 : decode cX7_walks 63 = .ok (.ireturn, 1) := by decide +kernel
theorem dX7_walks_64 : decode cX7_walks 64 = .ok (.bipush (-3), 2) := by decide +kernel
theorem dX7_walks_66 : decode cX7_walks 66 = .ok (.ireturn, 1) := by decide +kernel
theorem dX7_way_0 : decode cX7_way 0 = .ok (.iload_n 1, 1) := by decide +kernel
theorem dX7_way_1 : decode cX7_way 1 = .ok (.aload_n 0, 1) := by decide +kernel
theorem dX7_way_2 : decode cX7_way 2 = .ok (.getfield 12, 3) := by decide +kernel
theorem dX7_way_5 : decode cX7_way 5 = .ok (.getfield 70, 3) := by decide +kernel
theorem dX7_way_8 : decode cX7_way 8 = .ok (.invokestatic 74, 3) := by decide +kernel
theorem dX7_way_11 : decode cX7_way 11 = .ok (.ifCond .eq 17, 3) := by decide +kernel
theorem dX7_way_14 : decode cX7_way 14 = .ok (.iload_n 2, 1) := by decide +kernel
theorem dX7_way_15 : decode cX7_way 15 = .ok (.aload_n 0, 1) := by decide +kernel
theorem dX7_way_16 : decode cX7_way 16 = .ok (.getfield 12, 3) := by decide +kernel
theorem dX7_way_19 : decode cX7_way 19 = .ok (.getfield 70, 3) := by decide +kernel
theorem dX7_way_22 : decode cX7_way 22 = .ok (.invokestatic 74, 3) := by decide +kernel
theorem dX7_way_25 : decode cX7_way 25 = .ok (.ifCond .ne 6, 3) := by decide +kernel
theorem dX7_way_28 : decode cX7_way 28 = .ok (.bipush (-2), 2) := by decide +kernel
theorem dX7_way_30 : decode cX7_way 30 = .ok (.ireturn, 1) := by decide +kernel
theorem dX7_way_31 : decode cX7_way 31 = .ok (.aload_n 0, 1) := by decide +kernel
theorem dX7_way_32 : decode cX7_way 32 = .ok (.getfield 12, 3) := by decide +kernel
theorem dX7_way_35 : decode cX7_way 35 = .ok (.iload_n 2, 1) := by decide +kernel
theorem dX7_way_36 : decode cX7_way 36 = .ok (.aload_n 0, 1) := by decide +kernel
theorem dX7_way_37 : decode cX7_way 37 = .ok (.getfield 47, 3) := by decide +kernel
theorem dX7_way_40 : decode cX7_way 40 = .ok (.getfield 193, 3) := by decide +kernel
theorem dX7_way_43 : decode cX7_way 43 = .ok (.invokevirtual 199, 3) := by decide +kernel
theorem dX7_way_46 : decode cX7_way 46 = .ok (.aload_n 0, 1) := by decide +kernel
theorem dX7_way_47 : decode cX7_way 47 = .ok (.getfield 12, 3) := by decide +kernel
theorem dX7_way_50 : decode cX7_way 50 = .ok (.getfield 203, 3) := by decide +kernel
theorem dX7_way_53 : decode cX7_way 53 = .ok (.iload_n 1, 1) := by decide +kernel
theorem dX7_way_54 : decode cX7_way 54 = .ok (.iaload, 1) := by decide +kernel
theorem dX7_way_55 : decode cX7_way 55 = .ok (.ireturn, 1) := by decide +kernel
theorem dX7_row_0 : decode cX7_row 0 = .ok (.iload_n 2, 1) := by decide +kernel
theorem dX7_row_1 : decode cX7_row 1 = .ok (.iconst 0, 1) := by decide +kernel
theorem dX7_row_2 : decode cX7_row 2 = .ok (.iconst 1, 1) := by decide +kernel
theorem dX7_row_3 : decode cX7_row 3 = .ok (.invokestatic 95, 3) := by decide +kernel
theorem dX7_row_6 : decode cX7_row 6 = .ok (.ifCond .ne 6, 3) := by decide +kernel
theorem dX7_row_9 : decode cX7_row 9 = .ok (.bipush (-3), 2) := by decide +kernel
theorem dX7_row_11 : decode cX7_row 11 = .ok (.ireturn, 1) := by decide +kernel
theorem dX7_row_12 : decode cX7_row 12 = .ok (.iload_n 1, 1) := by decide +kernel
theorem dX7_row_13 : decode cX7_row 13 = .ok (.aload_n 0, 1) := by decide +kernel
theorem dX7_row_14 : decode cX7_row 14 = .ok (.getfield 47, 3) := by decide +kernel
theorem dX7_row_17 : decode cX7_row 17 = .ok (.getfield 142, 3) := by decide +kernel
theorem dX7_row_20 : decode cX7_row 20 = .ok (.invokestatic 74, 3) := by decide +kernel
theorem dX7_row_23 : decode cX7_row 23 = .ok (.ifCond .ne 5, 3) := by decide +kernel
theorem dX7_row_26 : decode cX7_row 26 = .ok (.iconst (-1), 1) := by decide +kernel
theorem dX7_row_27 : decode cX7_row 27 = .ok (.ireturn, 1) := by decide +kernel
theorem dX7_row_28 : decode cX7_row 28 = .ok (.iload_n 2, 1) := by decide +kernel
theorem dX7_row_29 : decode cX7_row 29 = .ok (.ifCond .ne 15, 3) := by decide +kernel
theorem dX7_row_32 : decode cX7_row 32 = .ok (.aload_n 0, 1) := by decide +kernel
theorem dX7_row_33 : decode cX7_row 33 = .ok (.getfield 47, 3) := by decide +kernel
theorem dX7_row_36 : decode cX7_row 36 = .ok (.getfield 206, 3) := by decide +kernel
theorem dX7_row_39 : decode cX7_row 39 = .ok (.iload_n 1, 1) := by decide +kernel
theorem dX7_row_40 : decode cX7_row 40 = .ok (.iaload, 1) := by decide +kernel
theorem dX7_row_41 : decode cX7_row 41 = .ok (.goto 12, 3) := by decide +kernel
theorem dX7_row_44 : decode cX7_row 44 = .ok (.aload_n 0, 1) := by decide +kernel
theorem dX7_row_45 : decode cX7_row 45 = .ok (.getfield 47, 3) := by decide +kernel
theorem dX7_row_48 : decode cX7_row 48 = .ok (.getfield 209, 3) := by decide +kernel
theorem dX7_row_51 : decode cX7_row 51 = .ok (.iload_n 1, 1) := by decide +kernel
theorem dX7_row_52 : decode cX7_row 52 = .ok (.iaload, 1) := by decide +kernel
theorem dX7_row_53 : decode cX7_row 53 = .ok (.ireturn, 1) := by decide +kernel
theorem dX7_minutes_0 : decode cX7_minutes 0 = .ok (.iload_n 1, 1) := by decide +kernel
theorem dX7_minutes_1 : decode cX7_minutes 1 = .ok (.aload_n 0, 1) := by decide +kernel
theorem dX7_minutes_2 : decode cX7_minutes 2 = .ok (.getfield 26, 3) := by decide +kernel
theorem dX7_minutes_5 : decode cX7_minutes 5 = .ok (.getfield 177, 3) := by decide +kernel
theorem dX7_minutes_8 : decode cX7_minutes 8 = .ok (.invokestatic 74, 3) := by decide +kernel
theorem dX7_minutes_11 : decode cX7_minutes 11 = .ok (.ifCond .ne 6, 3) := by decide +kernel
theorem dX7_minutes_14 : decode cX7_minutes 14 = .ok (.bipush (-2), 2) := by decide +kernel
theorem dX7_minutes_16 : decode cX7_minutes 16 = .ok (.ireturn, 1) := by decide +kernel
theorem dX7_minutes_17 : decode cX7_minutes 17 = .ok (.aload_n 0, 1) := by decide +kernel
theorem dX7_minutes_18 : decode cX7_minutes 18 = .ok (.getfield 47, 3) := by decide +kernel
theorem dX7_minutes_21 : decode cX7_minutes 21 = .ok (.getfield 196, 3) := by decide +kernel
theorem dX7_minutes_24 : decode cX7_minutes 24 = .ok (.iload_n 1, 1) := by decide +kernel
theorem dX7_minutes_25 : decode cX7_minutes 25 = .ok (.baload, 1) := by decide +kernel
theorem dX7_minutes_26 : decode cX7_minutes 26 = .ok (.ifCond .eq 7, 3) := by decide +kernel
theorem dX7_minutes_29 : decode cX7_minutes 29 = .ok (.iconst (-1), 1) := by decide +kernel
theorem dX7_minutes_30 : decode cX7_minutes 30 = .ok (.goto 16, 3) := by decide +kernel
theorem dX7_minutes_33 : decode cX7_minutes 33 = .ok (.aload_n 0, 1) := by decide +kernel
theorem dX7_minutes_34 : decode cX7_minutes 34 = .ok (.aload_n 0, 1) := by decide +kernel
theorem dX7_minutes_35 : decode cX7_minutes 35 = .ok (.getfield 26, 3) := by decide +kernel
theorem dX7_minutes_38 : decode cX7_minutes 38 = .ok (.getfield 212, 3) := by decide +kernel
theorem dX7_minutes_41 : decode cX7_minutes 41 = .ok (.iload_n 1, 1) := by decide +kernel
theorem dX7_minutes_42 : decode cX7_minutes 42 = .ok (.iaload, 1) := by decide +kernel
theorem dX7_minutes_43 : decode cX7_minutes 43 = .ok (.invokevirtual 215, 3) := by decide +kernel
theorem dX7_minutes_46 : decode cX7_minutes 46 = .ok (.ireturn, 1) := by decide +kernel
theorem dX7_isThere_0 : decode cX7_isThere 0 = .ok (.iload_n 0, 1) := by decide +kernel
theorem dX7_isThere_1 : decode cX7_isThere 1 = .ok (.ifCond .lt 12, 3) := by decide +kernel
theorem dX7_isThere_4 : decode cX7_isThere 4 = .ok (.iload_n 0, 1) := by decide +kernel
theorem dX7_isThere_5 : decode cX7_isThere 5 = .ok (.iload_n 1, 1) := by decide +kernel
theorem dX7_isThere_6 : decode cX7_isThere 6 = .ok (.if_icmp .ge 7, 3) := by decide +kernel
theorem dX7_isThere_9 : decode cX7_isThere 9 = .ok (.iconst 1, 1) := by decide +kernel
theorem dX7_isThere_10 : decode cX7_isThere 10 = .ok (.goto 4, 3) := by decide +kernel
theorem dX7_isThere_13 : decode cX7_isThere 13 = .ok (.iconst 0, 1) := by decide +kernel
theorem dX7_isThere_14 : decode cX7_isThere 14 = .ok (.ireturn, 1) := by decide +kernel
theorem dX7_isWithin_0 : decode cX7_isWithin 0 = .ok (.iload_n 0, 1) := by decide +kernel
theorem dX7_isWithin_1 : decode cX7_isWithin 1 = .ok (.iload_n 1, 1) := by decide +kernel
theorem dX7_isWithin_2 : decode cX7_isWithin 2 = .ok (.if_icmp .lt 12, 3) := by decide +kernel
theorem dX7_isWithin_5 : decode cX7_isWithin 5 = .ok (.iload_n 0, 1) := by decide +kernel
theorem dX7_isWithin_6 : decode cX7_isWithin 6 = .ok (.iload_n 2, 1) := by decide +kernel
theorem dX7_isWithin_7 : decode cX7_isWithin 7 = .ok (.if_icmp .gt 7, 3) := by decide +kernel
theorem dX7_isWithin_10 : decode cX7_isWithin 10 = .ok (.iconst 1, 1) := by decide +kernel
theorem dX7_isWithin_11 : decode cX7_isWithin 11 = .ok (.goto 4, 3) := by decide +kernel
theorem dX7_isWithin_14 : decode cX7_isWithin 14 = .ok (.iconst 0, 1) := by decide +kernel
theorem dX7_isWithin_15 : decode cX7_isWithin 15 = .ok (.ireturn, 1) := by decide +kernel
theorem dX7_isCounter_0 : decode cX7_isCounter 0 = .ok (.iload_n 0, 1) := by decide +kernel
theorem dX7_isCounter_1 : decode cX7_isCounter 1 = .ok (.bipush 8, 2) := by decide +kernel
theorem dX7_isCounter_3 : decode cX7_isCounter 3 = .ok (.invokestatic 74, 3) := by decide +kernel
theorem dX7_isCounter_6 : decode cX7_isCounter 6 = .ok (.ireturn, 1) := by decide +kernel
theorem dX7_isCounterValue_0 : decode cX7_isCounterValue 0 = .ok (.iload_n 0, 1) := by decide +kernel
theorem dX7_isCounterValue_1 : decode cX7_isCounterValue 1 = .ok (.sipush (-1000), 3) := by decide +kernel
theorem dX7_isCounterValue_4 : decode cX7_isCounterValue 4 = .ok (.sipush 1000, 3) := by decide +kernel
theorem dX7_isCounterValue_7 : decode cX7_isCounterValue 7 = .ok (.invokestatic 95, 3) := by decide +kernel
theorem dX7_isCounterValue_10 : decode cX7_isCounterValue 10 = .ok (.ireturn, 1) := by decide +kernel
theorem dX7_asNumber_0 : decode cX7_asNumber 0 = .ok (.iload_n 0, 1) := by decide +kernel
theorem dX7_asNumber_1 : decode cX7_asNumber 1 = .ok (.ifCond .eq 7, 3) := by decide +kernel
theorem dX7_asNumber_4 : decode cX7_asNumber 4 = .ok (.iconst 1, 1) := by decide +kernel
theorem dX7_asNumber_5 : decode cX7_asNumber 5 = .ok (.goto 4, 3) := by decide +kernel
theorem dX7_asNumber_8 : decode cX7_asNumber 8 = .ok (.iconst 0, 1) := by decide +kernel
theorem dX7_asNumber_9 : decode cX7_asNumber 9 = .ok (.ireturn, 1) := by decide +kernel
theorem dX7_closePast_0 : decode cX7_closePast 0 = .ok (.iload_n 1, 1) := by decide +kernel
theorem dX7_closePast_1 : decode cX7_closePast 1 = .ok (.ifCond .lt 11, 3) := by decide +kernel
theorem dX7_closePast_4 : decode cX7_closePast 4 = .ok (.aload_n 0, 1) := by decide +kernel
theorem dX7_closePast_5 : decode cX7_closePast 5 = .ok (.getfield 54, 3) := by decide +kernel
theorem dX7_closePast_8 : decode cX7_closePast 8 = .ok (.iconst 0, 1) := by decide +kernel
theorem dX7_closePast_9 : decode cX7_closePast 9 = .ok (.putfield 161, 3) := by decide +kernel
theorem dX7_closePast_12 : decode cX7_closePast 12 = .ok (.iload_n 1, 1) := by decide +kernel
theorem dX7_closePast_13 : decode cX7_closePast 13 = .ok (.ireturn, 1) := by decide +kernel
theorem dX7_minutesUntil_0 : decode cX7_minutesUntil 0 = .ok (.iload_n 1, 1) := by decide +kernel
theorem dX7_minutesUntil_1 : decode cX7_minutesUntil 1 = .ok (.aload_n 0, 1) := by decide +kernel
theorem dX7_minutesUntil_2 : decode cX7_minutesUntil 2 = .ok (.getfield 47, 3) := by decide +kernel
theorem dX7_minutesUntil_5 : decode cX7_minutesUntil 5 = .ok (.getfield 165, 3) := by decide +kernel
theorem dX7_minutesUntil_8 : decode cX7_minutesUntil 8 = .ok (.isub, 1) := by decide +kernel
theorem dX7_minutesUntil_9 : decode cX7_minutesUntil 9 = .ok (.istore_n 2, 1) := by decide +kernel
theorem dX7_minutesUntil_10 : decode cX7_minutesUntil 10 = .ok (.iload_n 2, 1) := by decide +kernel
theorem dX7_minutesUntil_11 : decode cX7_minutesUntil 11 = .ok (.ifCond .le 7, 3) := by decide +kernel
theorem dX7_minutesUntil_14 : decode cX7_minutesUntil 14 = .ok (.iload_n 2, 1) := by decide +kernel
theorem dX7_minutesUntil_15 : decode cX7_minutesUntil 15 = .ok (.goto 8, 3) := by decide +kernel
theorem dX7_minutesUntil_18 : decode cX7_minutesUntil 18 = .ok (.iload_n 2, 1) := by decide +kernel
theorem dX7_minutesUntil_19 : decode cX7_minutesUntil 19 = .ok (.sipush 1440, 3) := by decide +kernel
theorem dX7_minutesUntil_22 : decode cX7_minutesUntil 22 = .ok (.iadd, 1) := by decide +kernel
theorem dX7_minutesUntil_23 : decode cX7_minutesUntil 23 = .ok (.ireturn, 1) := by decide +kernel
theorem dX7_bringEvents_0 : decode cX7_bringEvents 0 = .ok (.aload_n 0, 1) := by decide +kernel
theorem dX7_bringEvents_1 : decode cX7_bringEvents 1 = .ok (.getfield 47, 3) := by decide +kernel
theorem dX7_bringEvents_4 : decode cX7_bringEvents 4 = .ok (.getfield 132, 3) := by decide +kernel
theorem dX7_bringEvents_7 : decode cX7_bringEvents 7 = .ok (.aload_n 0, 1) := by decide +kernel
theorem dX7_bringEvents_8 : decode cX7_bringEvents 8 = .ok (.getfield 47, 3) := by decide +kernel
theorem dX7_bringEvents_11 : decode cX7_bringEvents 11 = .ok (.getfield 171, 3) := by decide +kernel
theorem dX7_bringEvents_14 : decode cX7_bringEvents 14 = .ok (.iadd, 1) := by decide +kernel
theorem dX7_bringEvents_15 : decode cX7_bringEvents 15 = .ok (.istore_n 1, 1) := by decide +kernel
theorem dX7_bringEvents_16 : decode cX7_bringEvents 16 = .ok (.aload_n 0, 1) := by decide +kernel
theorem dX7_bringEvents_17 : decode cX7_bringEvents 17 = .ok (.getfield 47, 3) := by decide +kernel
theorem dX7_bringEvents_20 : decode cX7_bringEvents 20 = .ok (.iconst 0, 1) := by decide +kernel
theorem dX7_bringEvents_21 : decode cX7_bringEvents 21 = .ok (.putfield 171, 3) := by decide +kernel
theorem dX7_bringEvents_24 : decode cX7_bringEvents 24 = .ok (.aload_n 0, 1) := by decide +kernel
theorem dX7_bringEvents_25 : decode cX7_bringEvents 25 = .ok (.iload_n 1, 1) := by decide +kernel
theorem dX7_bringEvents_26 : decode cX7_bringEvents 26 = .ok (.invokevirtual 218, 3) := by decide +kernel
theorem dX7_bringEvents_29 : decode cX7_bringEvents 29 = .ok (.istore_n 2, 1) := by decide +kernel
theorem dX7_bringEvents_30 : decode cX7_bringEvents 30 = .ok (.aload_n 0, 1) := by decide +kernel
theorem dX7_bringEvents_31 : decode cX7_bringEvents 31 = .ok (.getfield 47, 3) := by decide +kernel
theorem dX7_bringEvents_34 : decode cX7_bringEvents 34 = .ok (.iload_n 1, 1) := by decide +kernel
theorem dX7_bringEvents_35 : decode cX7_bringEvents 35 = .ok (.invokevirtual 221, 3) := by decide +kernel
theorem dX7_bringEvents_38 : decode cX7_bringEvents 38 = .ok (.iconst 0, 1) := by decide +kernel
theorem dX7_bringEvents_39 : decode cX7_bringEvents 39 = .ok (.istore_n 3, 1) := by decide +kernel
theorem dX7_bringEvents_40 : decode cX7_bringEvents 40 = .ok (.iload_n 3, 1) := by decide +kernel
theorem dX7_bringEvents_41 : decode cX7_bringEvents 41 = .ok (.iload_n 2, 1) := by decide +kernel
theorem dX7_bringEvents_42 : decode cX7_bringEvents 42 = .ok (.if_icmp .ge 29, 3) := by decide +kernel
theorem dX7_bringEvents_45 : decode cX7_bringEvents 45 = .ok (.aload_n 0, 1) := by decide +kernel
theorem dX7_bringEvents_46 : decode cX7_bringEvents 46 = .ok (.getfield 145, 3) := by decide +kernel
theorem dX7_bringEvents_49 : decode cX7_bringEvents 49 = .ok (.ifCond .ne 22, 3) := by decide +kernel
theorem dX7_bringEvents_52 : decode cX7_bringEvents 52 = .ok (.aload_n 0, 1) := by decide +kernel
theorem dX7_bringEvents_53 : decode cX7_bringEvents 53 = .ok (.aload_n 0, 1) := by decide +kernel
theorem dX7_bringEvents_54 : decode cX7_bringEvents 54 = .ok (.getfield 26, 3) := by decide +kernel
theorem dX7_bringEvents_57 : decode cX7_bringEvents 57 = .ok (.getfield 225, 3) := by decide +kernel
theorem dX7_bringEvents_60 : decode cX7_bringEvents 60 = .ok (.iload_n 3, 1) := by decide +kernel
theorem dX7_bringEvents_61 : decode cX7_bringEvents 61 = .ok (.iaload, 1) := by decide +kernel
theorem dX7_bringEvents_62 : decode cX7_bringEvents 62 = .ok (.invokevirtual 228, 3) := by decide +kernel
theorem dX7_bringEvents_65 : decode cX7_bringEvents 65 = .ok (.iinc 3 1, 3) := by decide +kernel
theorem dX7_bringEvents_68 : decode cX7_bringEvents 68 = .ok (.goto (-28), 3) := by decide +kernel
theorem dX7_bringEvents_71 : decode cX7_bringEvents 71 = .ok (.return_, 1) := by decide +kernel
theorem dX7_lineUpEvents_0 : decode cX7_lineUpEvents 0 = .ok (.iconst 0, 1) := by decide +kernel
theorem dX7_lineUpEvents_1 : decode cX7_lineUpEvents 1 = .ok (.istore_n 2, 1) := by decide +kernel
theorem dX7_lineUpEvents_2 : decode cX7_lineUpEvents 2 = .ok (.iconst 0, 1) := by decide +kernel
theorem dX7_lineUpEvents_3 : decode cX7_lineUpEvents 3 = .ok (.istore_n 3, 1) := by decide +kernel
theorem dX7_lineUpEvents_4 : decode cX7_lineUpEvents 4 = .ok (.iload_n 3, 1) := by decide +kernel
theorem dX7_lineUpEvents_5 : decode cX7_lineUpEvents 5 = .ok (.aload_n 0, 1) := by decide +kernel
theorem dX7_lineUpEvents_6 : decode cX7_lineUpEvents 6 = .ok (.getfield 26, 3) := by decide +kernel
theorem dX7_lineUpEvents_9 : decode cX7_lineUpEvents 9 = .ok (.getfield 177, 3) := by decide +kernel
theorem dX7_lineUpEvents_12 : decode cX7_lineUpEvents 12 = .ok (.if_icmp .ge 56, 3) := by decide +kernel
theorem dX7_lineUpEvents_15 : decode cX7_lineUpEvents 15 = .ok (.aload_n 0, 1) := by decide +kernel
theorem dX7_lineUpEvents_16 : decode cX7_lineUpEvents 16 = .ok (.aload_n 0, 1) := by decide +kernel
theorem dX7_lineUpEvents_17 : decode cX7_lineUpEvents 17 = .ok (.getfield 26, 3) := by decide +kernel
theorem dX7_lineUpEvents_20 : decode cX7_lineUpEvents 20 = .ok (.getfield 212, 3) := by decide +kernel
theorem dX7_lineUpEvents_23 : decode cX7_lineUpEvents 23 = .ok (.iload_n 3, 1) := by decide +kernel
theorem dX7_lineUpEvents_24 : decode cX7_lineUpEvents 24 = .ok (.iaload, 1) := by decide +kernel
theorem dX7_lineUpEvents_25 : decode cX7_lineUpEvents 25 = .ok (.invokevirtual 215, 3) := by decide +kernel
theorem dX7_lineUpEvents_28 : decode cX7_lineUpEvents 28 = .ok (.istore 4, 2) := by decide +kernel
theorem dX7_lineUpEvents_30 : decode cX7_lineUpEvents 30 = .ok (.aload_n 0, 1) := by decide +kernel
theorem dX7_lineUpEvents_31 : decode cX7_lineUpEvents 31 = .ok (.getfield 47, 3) := by decide +kernel
theorem dX7_lineUpEvents_34 : decode cX7_lineUpEvents 34 = .ok (.getfield 196, 3) := by decide +kernel
theorem dX7_lineUpEvents_37 : decode cX7_lineUpEvents 37 = .ok (.iload_n 3, 1) := by decide +kernel
theorem dX7_lineUpEvents_38 : decode cX7_lineUpEvents 38 = .ok (.baload, 1) := by decide +kernel
theorem dX7_lineUpEvents_39 : decode cX7_lineUpEvents 39 = .ok (.ifCond .ne 23, 3) := by decide +kernel
theorem dX7_lineUpEvents_42 : decode cX7_lineUpEvents 42 = .ok (.iload 4, 2) := by decide +kernel
theorem dX7_lineUpEvents_44 : decode cX7_lineUpEvents 44 = .ok (.iload_n 1, 1) := by decide +kernel
theorem dX7_lineUpEvents_45 : decode cX7_lineUpEvents 45 = .ok (.if_icmp .gt 17, 3) := by decide +kernel
theorem dX7_lineUpEvents_48 : decode cX7_lineUpEvents 48 = .ok (.aload_n 0, 1) := by decide +kernel
theorem dX7_lineUpEvents_49 : decode cX7_lineUpEvents 49 = .ok (.getfield 26, 3) := by decide +kernel
theorem dX7_lineUpEvents_52 : decode cX7_lineUpEvents 52 = .ok (.iload_n 3, 1) := by decide +kernel
theorem dX7_lineUpEvents_53 : decode cX7_lineUpEvents 53 = .ok (.iload 4, 2) := by decide +kernel
theorem dX7_lineUpEvents_55 : decode cX7_lineUpEvents 55 = .ok (.iload_n 2, 1) := by decide +kernel
theorem dX7_lineUpEvents_56 : decode cX7_lineUpEvents 56 = .ok (.invokevirtual 231, 3) := by decide +kernel
theorem dX7_lineUpEvents_59 : decode cX7_lineUpEvents 59 = .ok (.iinc 2 1, 3) := by decide +kernel
theorem dX7_lineUpEvents_62 : decode cX7_lineUpEvents 62 = .ok (.iinc 3 1, 3) := by decide +kernel
theorem dX7_lineUpEvents_65 : decode cX7_lineUpEvents 65 = .ok (.goto (-61), 3) := by decide +kernel
theorem dX7_lineUpEvents_68 : decode cX7_lineUpEvents 68 = .ok (.iload_n 2, 1) := by decide +kernel
theorem dX7_lineUpEvents_69 : decode cX7_lineUpEvents 69 = .ok (.ireturn, 1) := by decide +kernel
theorem dX7_bringEvent_0 : decode cX7_bringEvent 0 = .ok (.aload_n 0, 1) := by decide +kernel
theorem dX7_bringEvent_1 : decode cX7_bringEvent 1 = .ok (.getfield 47, 3) := by decide +kernel
theorem dX7_bringEvent_4 : decode cX7_bringEvent 4 = .ok (.getfield 196, 3) := by decide +kernel
theorem dX7_bringEvent_7 : decode cX7_bringEvent 7 = .ok (.iload_n 1, 1) := by decide +kernel
theorem dX7_bringEvent_8 : decode cX7_bringEvent 8 = .ok (.aload_n 0, 1) := by decide +kernel
theorem dX7_bringEvent_9 : decode cX7_bringEvent 9 = .ok (.getfield 26, 3) := by decide +kernel
theorem dX7_bringEvent_12 : decode cX7_bringEvent 12 = .ok (.getfield 235, 3) := by decide +kernel
theorem dX7_bringEvent_15 : decode cX7_bringEvent 15 = .ok (.iload_n 1, 1) := by decide +kernel
theorem dX7_bringEvent_16 : decode cX7_bringEvent 16 = .ok (.baload, 1) := by decide +kernel
theorem dX7_bringEvent_17 : decode cX7_bringEvent 17 = .ok (.ifCond .ne 7, 3) := by decide +kernel
theorem dX7_bringEvent_20 : decode cX7_bringEvent 20 = .ok (.iconst 1, 1) := by decide +kernel
theorem dX7_bringEvent_21 : decode cX7_bringEvent 21 = .ok (.goto 4, 3) := by decide +kernel
theorem dX7_bringEvent_24 : decode cX7_bringEvent 24 = .ok (.iconst 0, 1) := by decide +kernel
theorem dX7_bringEvent_25 : decode cX7_bringEvent 25 = .ok (.bastore, 1) := by decide +kernel
theorem dX7_bringEvent_26 : decode cX7_bringEvent 26 = .ok (.aload_n 0, 1) := by decide +kernel
theorem dX7_bringEvent_27 : decode cX7_bringEvent 27 = .ok (.getfield 47, 3) := by decide +kernel
theorem dX7_bringEvent_30 : decode cX7_bringEvent 30 = .ok (.iconst 0, 1) := by decide +kernel
theorem dX7_bringEvent_31 : decode cX7_bringEvent 31 = .ok (.iload_n 1, 1) := by decide +kernel
theorem dX7_bringEvent_32 : decode cX7_bringEvent 32 = .ok (.invokevirtual 238, 3) := by decide +kernel
theorem dX7_bringEvent_35 : decode cX7_bringEvent 35 = .ok (.aload_n 0, 1) := by decide +kernel
theorem dX7_bringEvent_36 : decode cX7_bringEvent 36 = .ok (.aload_n 0, 1) := by decide +kernel
theorem dX7_bringEvent_37 : decode cX7_bringEvent 37 = .ok (.getfield 26, 3) := by decide +kernel
theorem dX7_bringEvent_40 : decode cX7_bringEvent 40 = .ok (.getfield 242, 3) := by decide +kernel
theorem dX7_bringEvent_43 : decode cX7_bringEvent 43 = .ok (.iload_n 1, 1) := by decide +kernel
theorem dX7_bringEvent_44 : decode cX7_bringEvent 44 = .ok (.iaload, 1) := by decide +kernel
theorem dX7_bringEvent_45 : decode cX7_bringEvent 45 = .ok (.invokevirtual 129, 3) := by decide +kernel
theorem dX7_bringEvent_48 : decode cX7_bringEvent 48 = .ok (.pop, 1) := by decide +kernel
theorem dX7_bringEvent_49 : decode cX7_bringEvent 49 = .ok (.return_, 1) := by decide +kernel
theorem dX7_runTimers_0 : decode cX7_runTimers 0 = .ok (.iconst 0, 1) := by decide +kernel
theorem dX7_runTimers_1 : decode cX7_runTimers 1 = .ok (.istore_n 1, 1) := by decide +kernel
theorem dX7_runTimers_2 : decode cX7_runTimers 2 = .ok (.iload_n 1, 1) := by decide +kernel
theorem dX7_runTimers_3 : decode cX7_runTimers 3 = .ok (.aload_n 0, 1) := by decide +kernel
theorem dX7_runTimers_4 : decode cX7_runTimers 4 = .ok (.getfield 33, 3) := by decide +kernel
theorem dX7_runTimers_7 : decode cX7_runTimers 7 = .ok (.getfield 178, 3) := by decide +kernel
theorem dX7_runTimers_10 : decode cX7_runTimers 10 = .ok (.if_icmp .ge 16, 3) := by decide +kernel
theorem dX7_runTimers_13 : decode cX7_runTimers 13 = .ok (.aload_n 0, 1) := by decide +kernel
theorem dX7_runTimers_14 : decode cX7_runTimers 14 = .ok (.getfield 58, 3) := by decide +kernel
theorem dX7_runTimers_17 : decode cX7_runTimers 17 = .ok (.iload_n 1, 1) := by decide +kernel
theorem dX7_runTimers_18 : decode cX7_runTimers 18 = .ok (.iconst 0, 1) := by decide +kernel
theorem dX7_runTimers_19 : decode cX7_runTimers 19 = .ok (.bastore, 1) := by decide +kernel
theorem dX7_runTimers_20 : decode cX7_runTimers 20 = .ok (.iinc 1 1, 3) := by decide +kernel
theorem dX7_runTimers_23 : decode cX7_runTimers 23 = .ok (.goto (-21), 3) := by decide +kernel
theorem dX7_runTimers_26 : decode cX7_runTimers 26 = .ok (.iconst 0, 1) := by decide +kernel
theorem dX7_runTimers_27 : decode cX7_runTimers 27 = .ok (.istore_n 1, 1) := by decide +kernel
theorem dX7_runTimers_28 : decode cX7_runTimers 28 = .ok (.iload_n 1, 1) := by decide +kernel
theorem dX7_runTimers_29 : decode cX7_runTimers 29 = .ok (.aload_n 0, 1) := by decide +kernel
theorem dX7_runTimers_30 : decode cX7_runTimers 30 = .ok (.getfield 33, 3) := by decide +kernel
theorem dX7_runTimers_33 : decode cX7_runTimers 33 = .ok (.getfield 178, 3) := by decide +kernel
theorem dX7_runTimers_36 : decode cX7_runTimers 36 = .ok (.if_icmp .ge 42, 3) := by decide +kernel
theorem dX7_runTimers_39 : decode cX7_runTimers 39 = .ok (.aload_n 0, 1) := by decide +kernel
theorem dX7_runTimers_40 : decode cX7_runTimers 40 = .ok (.getfield 145, 3) := by decide +kernel
theorem dX7_runTimers_43 : decode cX7_runTimers 43 = .ok (.ifCond .ne 35, 3) := by decide +kernel
theorem dX7_runTimers_46 : decode cX7_runTimers 46 = .ok (.aload_n 0, 1) := by decide +kernel
theorem dX7_runTimers_47 : decode cX7_runTimers 47 = .ok (.getfield 47, 3) := by decide +kernel
theorem dX7_runTimers_50 : decode cX7_runTimers 50 = .ok (.getfield 183, 3) := by decide +kernel
theorem dX7_runTimers_53 : decode cX7_runTimers 53 = .ok (.iload_n 1, 1) := by decide +kernel
theorem dX7_runTimers_54 : decode cX7_runTimers 54 = .ok (.iaload, 1) := by decide +kernel
theorem dX7_runTimers_55 : decode cX7_runTimers 55 = .ok (.ifCond .le 17, 3) := by decide +kernel
theorem dX7_runTimers_58 : decode cX7_runTimers 58 = .ok (.aload_n 0, 1) := by decide +kernel
theorem dX7_runTimers_59 : decode cX7_runTimers 59 = .ok (.getfield 58, 3) := by decide +kernel
theorem dX7_runTimers_62 : decode cX7_runTimers 62 = .ok (.iload_n 1, 1) := by decide +kernel
theorem dX7_runTimers_63 : decode cX7_runTimers 63 = .ok (.baload, 1) := by decide +kernel
theorem dX7_runTimers_64 : decode cX7_runTimers 64 = .ok (.ifCond .ne 8, 3) := by decide +kernel
theorem dX7_runTimers_67 : decode cX7_runTimers 67 = .ok (.aload_n 0, 1) := by decide +kernel
theorem dX7_runTimers_68 : decode cX7_runTimers 68 = .ok (.iload_n 1, 1) := by decide +kernel
theorem dX7_runTimers_69 : decode cX7_runTimers 69 = .ok (.invokevirtual 245, 3) := by decide +kernel
theorem dX7_runTimers_72 : decode cX7_runTimers 72 = .ok (.iinc 1 1, 3) := by decide +kernel
theorem dX7_runTimers_75 : decode cX7_runTimers 75 = .ok (.goto (-47), 3) := by decide +kernel
theorem dX7_runTimers_78 : decode cX7_runTimers 78 = .ok (.return_, 1) := by decide +kernel
theorem dX7_runTimer_0 : decode cX7_runTimer 0 = .ok (.aload_n 0, 1) := by decide +kernel
theorem dX7_runTimer_1 : decode cX7_runTimer 1 = .ok (.getfield 47, 3) := by decide +kernel
theorem dX7_runTimer_4 : decode cX7_runTimer 4 = .ok (.getfield 183, 3) := by decide +kernel
theorem dX7_runTimer_7 : decode cX7_runTimer 7 = .ok (.iload_n 1, 1) := by decide +kernel
theorem dX7_runTimer_8 : decode cX7_runTimer 8 = .ok (.dup2, 1) := by decide +kernel
theorem dX7_runTimer_9 : decode cX7_runTimer 9 = .ok (.iaload, 1) := by decide +kernel
theorem dX7_runTimer_10 : decode cX7_runTimer 10 = .ok (.iconst 1, 1) := by decide +kernel
theorem dX7_runTimer_11 : decode cX7_runTimer 11 = .ok (.isub, 1) := by decide +kernel
theorem dX7_runTimer_12 : decode cX7_runTimer 12 = .ok (.iastore, 1) := by decide +kernel
theorem dX7_runTimer_13 : decode cX7_runTimer 13 = .ok (.aload_n 0, 1) := by decide +kernel
theorem dX7_runTimer_14 : decode cX7_runTimer 14 = .ok (.getfield 47, 3) := by decide +kernel
theorem dX7_runTimer_17 : decode cX7_runTimer 17 = .ok (.getfield 183, 3) := by decide +kernel
theorem dX7_runTimer_20 : decode cX7_runTimer 20 = .ok (.iload_n 1, 1) := by decide +kernel
theorem dX7_runTimer_21 : decode cX7_runTimer 21 = .ok (.iaload, 1) := by decide +kernel
theorem dX7_runTimer_22 : decode cX7_runTimer 22 = .ok (.ifCond .le 4, 3) := by decide +kernel
theorem dX7_runTimer_25 : decode cX7_runTimer 25 = .ok (.return_, 1) := by decide +kernel
theorem dX7_runTimer_26 : decode cX7_runTimer 26 = .ok (.aload_n 0, 1) := by decide +kernel
theorem dX7_runTimer_27 : decode cX7_runTimer 27 = .ok (.getfield 33, 3) := by decide +kernel
theorem dX7_runTimer_30 : decode cX7_runTimer 30 = .ok (.getfield 248, 3) := by decide +kernel
theorem dX7_runTimer_33 : decode cX7_runTimer 33 = .ok (.iload_n 1, 1) := by decide +kernel
theorem dX7_runTimer_34 : decode cX7_runTimer 34 = .ok (.baload, 1) := by decide +kernel
theorem dX7_runTimer_35 : decode cX7_runTimer 35 = .ok (.ifCond .eq 21, 3) := by decide +kernel
theorem dX7_runTimer_38 : decode cX7_runTimer 38 = .ok (.aload_n 0, 1) := by decide +kernel
theorem dX7_runTimer_39 : decode cX7_runTimer 39 = .ok (.getfield 47, 3) := by decide +kernel
theorem dX7_runTimer_42 : decode cX7_runTimer 42 = .ok (.getfield 183, 3) := by decide +kernel
theorem dX7_runTimer_45 : decode cX7_runTimer 45 = .ok (.iload_n 1, 1) := by decide +kernel
theorem dX7_runTimer_46 : decode cX7_runTimer 46 = .ok (.aload_n 0, 1) := by decide +kernel
theorem dX7_runTimer_47 : decode cX7_runTimer 47 = .ok (.getfield 33, 3) := by decide +kernel
theorem dX7_runTimer_50 : decode cX7_runTimer 50 = .ok (.getfield 251, 3) := by decide +kernel
theorem dX7_runTimer_53 : decode cX7_runTimer 53 = .ok (.iload_n 1, 1) := by decide +kernel
theorem dX7_runTimer_54 : decode cX7_runTimer 54 = .ok (.iaload, 1) := by decide +kernel
theorem dX7_runTimer_55 : decode cX7_runTimer 55 = .ok (.iastore, 1) := by decide +kernel
theorem dX7_runTimer_56 : decode cX7_runTimer 56 = .ok (.aload_n 0, 1) := by decide +kernel
theorem dX7_runTimer_57 : decode cX7_runTimer 57 = .ok (.getfield 47, 3) := by decide +kernel
theorem dX7_runTimer_60 : decode cX7_runTimer 60 = .ok (.iconst 1, 1) := by decide +kernel
theorem dX7_runTimer_61 : decode cX7_runTimer 61 = .ok (.iload_n 1, 1) := by decide +kernel
theorem dX7_runTimer_62 : decode cX7_runTimer 62 = .ok (.invokevirtual 238, 3) := by decide +kernel
theorem dX7_runTimer_65 : decode cX7_runTimer 65 = .ok (.aload_n 0, 1) := by decide +kernel
theorem dX7_runTimer_66 : decode cX7_runTimer 66 = .ok (.aload_n 0, 1) := by decide +kernel
theorem dX7_runTimer_67 : decode cX7_runTimer 67 = .ok (.getfield 33, 3) := by decide +kernel
theorem dX7_runTimer_70 : decode cX7_runTimer 70 = .ok (.getfield 254, 3) := by decide +kernel
theorem dX7_runTimer_73 : decode cX7_runTimer 73 = .ok (.iload_n 1, 1) := by decide +kernel
theorem dX7_runTimer_74 : decode cX7_runTimer 74 = .ok (.iaload, 1) := by decide +kernel
theorem dX7_runTimer_75 : decode cX7_runTimer 75 = .ok (.invokevirtual 129, 3) := by decide +kernel
theorem dX7_runTimer_78 : decode cX7_runTimer 78 = .ok (.pop, 1) := by decide +kernel
theorem dX7_runTimer_79 : decode cX7_runTimer 79 = .ok (.return_, 1) := by decide +kernel
theorem dX7_runDaemons_0 : decode cX7_runDaemons 0 = .ok (.iconst 0, 1) := by decide +kernel
theorem dX7_runDaemons_1 : decode cX7_runDaemons 1 = .ok (.istore_n 1, 1) := by decide +kernel
theorem dX7_runDaemons_2 : decode cX7_runDaemons 2 = .ok (.iload_n 1, 1) := by decide +kernel
theorem dX7_runDaemons_3 : decode cX7_runDaemons 3 = .ok (.bipush 9, 2) := by decide +kernel
theorem dX7_runDaemons_5 : decode cX7_runDaemons 5 = .ok (.if_icmp .gt 14, 3) := by decide +kernel
theorem dX7_runDaemons_8 : decode cX7_runDaemons 8 = .ok (.aload_n 0, 1) := by decide +kernel
theorem dX7_runDaemons_9 : decode cX7_runDaemons 9 = .ok (.iload_n 1, 1) := by decide +kernel
theorem dX7_runDaemons_10 : decode cX7_runDaemons 10 = .ok (.invokevirtual 255, 3) := by decide +kernel
theorem dX7_runDaemons_13 : decode cX7_runDaemons 13 = .ok (.iinc 1 1, 3) := by decide +kernel
theorem dX7_runDaemons_16 : decode cX7_runDaemons 16 = .ok (.goto (-14), 3) := by decide +kernel
theorem dX7_runDaemons_19 : decode cX7_runDaemons 19 = .ok (.return_, 1) := by decide +kernel
theorem dX7_runDaemonsOf_0 : decode cX7_runDaemonsOf 0 = .ok (.iconst 0, 1) := by decide +kernel
theorem dX7_runDaemonsOf_1 : decode cX7_runDaemonsOf 1 = .ok (.istore_n 2, 1) := by decide +kernel
theorem dX7_runDaemonsOf_2 : decode cX7_runDaemonsOf 2 = .ok (.iload_n 2, 1) := by decide +kernel
theorem dX7_runDaemonsOf_3 : decode cX7_runDaemonsOf 3 = .ok (.aload_n 0, 1) := by decide +kernel
theorem dX7_runDaemonsOf_4 : decode cX7_runDaemonsOf 4 = .ok (.getfield 40, 3) := by decide +kernel
theorem dX7_runDaemonsOf_7 : decode cX7_runDaemonsOf 7 = .ok (.getfield 179, 3) := by decide +kernel
theorem dX7_runDaemonsOf_10 : decode cX7_runDaemonsOf 10 = .ok (.if_icmp .ge 64, 3) := by decide +kernel
theorem dX7_runDaemonsOf_13 : decode cX7_runDaemonsOf 13 = .ok (.aload_n 0, 1) := by decide +kernel
theorem dX7_runDaemonsOf_14 : decode cX7_runDaemonsOf 14 = .ok (.getfield 145, 3) := by decide +kernel
theorem dX7_runDaemonsOf_17 : decode cX7_runDaemonsOf 17 = .ok (.ifCond .ne 57, 3) := by decide +kernel
theorem dX7_runDaemonsOf_20 : decode cX7_runDaemonsOf 20 = .ok (.aload_n 0, 1) := by decide +kernel
theorem dX7_runDaemonsOf_21 : decode cX7_runDaemonsOf 21 = .ok (.getfield 40, 3) := by decide +kernel
theorem dX7_runDaemonsOf_24 : decode cX7_runDaemonsOf 24 = .ok (.getfield 258, 3) := by decide +kernel
theorem dX7_runDaemonsOf_27 : decode cX7_runDaemonsOf 27 = .ok (.iload_n 2, 1) := by decide +kernel
theorem dX7_runDaemonsOf_28 : decode cX7_runDaemonsOf 28 = .ok (.iaload, 1) := by decide +kernel
theorem dX7_runDaemonsOf_29 : decode cX7_runDaemonsOf 29 = .ok (.iload_n 1, 1) := by decide +kernel
theorem dX7_runDaemonsOf_30 : decode cX7_runDaemonsOf 30 = .ok (.if_icmp .ne 38, 3) := by decide +kernel
theorem dX7_runDaemonsOf_33 : decode cX7_runDaemonsOf 33 = .ok (.aload_n 0, 1) := by decide +kernel
theorem dX7_runDaemonsOf_34 : decode cX7_runDaemonsOf 34 = .ok (.getfield 47, 3) := by decide +kernel
theorem dX7_runDaemonsOf_37 : decode cX7_runDaemonsOf 37 = .ok (.getfield 186, 3) := by decide +kernel
theorem dX7_runDaemonsOf_40 : decode cX7_runDaemonsOf 40 = .ok (.iload_n 2, 1) := by decide +kernel
theorem dX7_runDaemonsOf_41 : decode cX7_runDaemonsOf 41 = .ok (.baload, 1) := by decide +kernel
theorem dX7_runDaemonsOf_42 : decode cX7_runDaemonsOf 42 = .ok (.ifCond .eq 26, 3) := by decide +kernel
theorem dX7_runDaemonsOf_45 : decode cX7_runDaemonsOf 45 = .ok (.aload_n 0, 1) := by decide +kernel
theorem dX7_runDaemonsOf_46 : decode cX7_runDaemonsOf 46 = .ok (.getfield 47, 3) := by decide +kernel
theorem dX7_runDaemonsOf_49 : decode cX7_runDaemonsOf 49 = .ok (.iconst 2, 1) := by decide +kernel
theorem dX7_runDaemonsOf_50 : decode cX7_runDaemonsOf 50 = .ok (.iload_n 2, 1) := by decide +kernel
theorem dX7_runDaemonsOf_51 : decode cX7_runDaemonsOf 51 = .ok (.invokevirtual 238, 3) := by decide +kernel
theorem dX7_runDaemonsOf_54 : decode cX7_runDaemonsOf 54 = .ok (.aload_n 0, 1) := by decide +kernel
theorem dX7_runDaemonsOf_55 : decode cX7_runDaemonsOf 55 = .ok (.aload_n 0, 1) := by decide +kernel
theorem dX7_runDaemonsOf_56 : decode cX7_runDaemonsOf 56 = .ok (.getfield 40, 3) := by decide +kernel
theorem dX7_runDaemonsOf_59 : decode cX7_runDaemonsOf 59 = .ok (.getfield 261, 3) := by decide +kernel
theorem dX7_runDaemonsOf_62 : decode cX7_runDaemonsOf 62 = .ok (.iload_n 2, 1) := by decide +kernel
theorem dX7_runDaemonsOf_63 : decode cX7_runDaemonsOf 63 = .ok (.iaload, 1) := by decide +kernel
theorem dX7_runDaemonsOf_64 : decode cX7_runDaemonsOf 64 = .ok (.invokevirtual 129, 3) := by decide +kernel
theorem dX7_runDaemonsOf_67 : decode cX7_runDaemonsOf 67 = .ok (.pop, 1) := by decide +kernel
theorem dX7_runDaemonsOf_68 : decode cX7_runDaemonsOf 68 = .ok (.iinc 2 1, 3) := by decide +kernel
theorem dX7_runDaemonsOf_71 : decode cX7_runDaemonsOf 71 = .ok (.goto (-69), 3) := by decide +kernel
theorem dX7_runDaemonsOf_74 : decode cX7_runDaemonsOf 74 = .ok (.return_, 1) := by decide +kernel
theorem dX7_moveWalkers_0 : decode cX7_moveWalkers 0 = .ok (.iconst 0, 1) := by decide +kernel
theorem dX7_moveWalkers_1 : decode cX7_moveWalkers 1 = .ok (.istore_n 1, 1) := by decide +kernel
theorem dX7_moveWalkers_2 : decode cX7_moveWalkers 2 = .ok (.iload_n 1, 1) := by decide +kernel
theorem dX7_moveWalkers_3 : decode cX7_moveWalkers 3 = .ok (.aload_n 0, 1) := by decide +kernel
theorem dX7_moveWalkers_4 : decode cX7_moveWalkers 4 = .ok (.getfield 12, 3) := by decide +kernel
theorem dX7_moveWalkers_7 : decode cX7_moveWalkers 7 = .ok (.getfield 85, 3) := by decide +kernel
theorem dX7_moveWalkers_10 : decode cX7_moveWalkers 10 = .ok (.if_icmp .ge 34, 3) := by decide +kernel
theorem dX7_moveWalkers_13 : decode cX7_moveWalkers 13 = .ok (.aload_n 0, 1) := by decide +kernel
theorem dX7_moveWalkers_14 : decode cX7_moveWalkers 14 = .ok (.getfield 145, 3) := by decide +kernel
theorem dX7_moveWalkers_17 : decode cX7_moveWalkers 17 = .ok (.ifCond .ne 27, 3) := by decide +kernel
theorem dX7_moveWalkers_20 : decode cX7_moveWalkers 20 = .ok (.aload_n 0, 1) := by decide +kernel
theorem dX7_moveWalkers_21 : decode cX7_moveWalkers 21 = .ok (.getfield 47, 3) := by decide +kernel
theorem dX7_moveWalkers_24 : decode cX7_moveWalkers 24 = .ok (.getfield 92, 3) := by decide +kernel
theorem dX7_moveWalkers_27 : decode cX7_moveWalkers 27 = .ok (.iload_n 1, 1) := by decide +kernel
theorem dX7_moveWalkers_28 : decode cX7_moveWalkers 28 = .ok (.iaload, 1) := by decide +kernel
theorem dX7_moveWalkers_29 : decode cX7_moveWalkers 29 = .ok (.iconst (-1), 1) := by decide +kernel
theorem dX7_moveWalkers_30 : decode cX7_moveWalkers 30 = .ok (.if_icmp .eq 8, 3) := by decide +kernel
theorem dX7_moveWalkers_33 : decode cX7_moveWalkers 33 = .ok (.aload_n 0, 1) := by decide +kernel
theorem dX7_moveWalkers_34 : decode cX7_moveWalkers 34 = .ok (.iload_n 1, 1) := by decide +kernel
theorem dX7_moveWalkers_35 : decode cX7_moveWalkers 35 = .ok (.invokevirtual 262, 3) := by decide +kernel
theorem dX7_moveWalkers_38 : decode cX7_moveWalkers 38 = .ok (.iinc 1 1, 3) := by decide +kernel
theorem dX7_moveWalkers_41 : decode cX7_moveWalkers 41 = .ok (.goto (-39), 3) := by decide +kernel
theorem dX7_moveWalkers_44 : decode cX7_moveWalkers 44 = .ok (.return_, 1) := by decide +kernel
theorem dX7_moveWalker_0 : decode cX7_moveWalker 0 = .ok (.aload_n 0, 1) := by decide +kernel
theorem dX7_moveWalker_1 : decode cX7_moveWalker 1 = .ok (.getfield 12, 3) := by decide +kernel
theorem dX7_moveWalker_4 : decode cX7_moveWalker 4 = .ok (.aload_n 0, 1) := by decide +kernel
theorem dX7_moveWalker_5 : decode cX7_moveWalker 5 = .ok (.getfield 47, 3) := by decide +kernel
theorem dX7_moveWalker_8 : decode cX7_moveWalker 8 = .ok (.getfield 88, 3) := by decide +kernel
theorem dX7_moveWalker_11 : decode cX7_moveWalker 11 = .ok (.iload_n 1, 1) := by decide +kernel
theorem dX7_moveWalker_12 : decode cX7_moveWalker 12 = .ok (.iaload, 1) := by decide +kernel
theorem dX7_moveWalker_13 : decode cX7_moveWalker 13 = .ok (.aload_n 0, 1) := by decide +kernel
theorem dX7_moveWalker_14 : decode cX7_moveWalker 14 = .ok (.getfield 47, 3) := by decide +kernel
theorem dX7_moveWalker_17 : decode cX7_moveWalker 17 = .ok (.getfield 92, 3) := by decide +kernel
theorem dX7_moveWalker_20 : decode cX7_moveWalker 20 = .ok (.iload_n 1, 1) := by decide +kernel
theorem dX7_moveWalker_21 : decode cX7_moveWalker 21 = .ok (.iaload, 1) := by decide +kernel
theorem dX7_moveWalker_22 : decode cX7_moveWalker 22 = .ok (.aload_n 0, 1) := by decide +kernel
theorem dX7_moveWalker_23 : decode cX7_moveWalker 23 = .ok (.getfield 47, 3) := by decide +kernel
theorem dX7_moveWalker_26 : decode cX7_moveWalker 26 = .ok (.getfield 193, 3) := by decide +kernel
theorem dX7_moveWalker_29 : decode cX7_moveWalker 29 = .ok (.invokevirtual 265, 3) := by decide +kernel
theorem dX7_moveWalker_32 : decode cX7_moveWalker 32 = .ok (.istore_n 2, 1) := by decide +kernel
theorem dX7_moveWalker_33 : decode cX7_moveWalker 33 = .ok (.iload_n 2, 1) := by decide +kernel
theorem dX7_moveWalker_34 : decode cX7_moveWalker 34 = .ok (.iconst (-1), 1) := by decide +kernel
theorem dX7_moveWalker_35 : decode cX7_moveWalker 35 = .ok (.if_icmp .ne 4, 3) := by decide +kernel
theorem dX7_moveWalker_38 : decode cX7_moveWalker 38 = .ok (.return_, 1) := by decide +kernel
theorem dX7_moveWalker_39 : decode cX7_moveWalker 39 = .ok (.aload_n 0, 1) := by decide +kernel
theorem dX7_moveWalker_40 : decode cX7_moveWalker 40 = .ok (.getfield 47, 3) := by decide +kernel
theorem dX7_moveWalker_43 : decode cX7_moveWalker 43 = .ok (.getfield 88, 3) := by decide +kernel
theorem dX7_moveWalker_46 : decode cX7_moveWalker 46 = .ok (.iload_n 1, 1) := by decide +kernel
theorem dX7_moveWalker_47 : decode cX7_moveWalker 47 = .ok (.iload_n 2, 1) := by decide +kernel
theorem dX7_moveWalker_48 : decode cX7_moveWalker 48 = .ok (.iastore, 1) := by decide +kernel
theorem dX7_moveWalker_49 : decode cX7_moveWalker 49 = .ok (.iload_n 2, 1) := by decide +kernel
theorem dX7_moveWalker_50 : decode cX7_moveWalker 50 = .ok (.aload_n 0, 1) := by decide +kernel
theorem dX7_moveWalker_51 : decode cX7_moveWalker 51 = .ok (.getfield 47, 3) := by decide +kernel
theorem dX7_moveWalker_54 : decode cX7_moveWalker 54 = .ok (.getfield 92, 3) := by decide +kernel
theorem dX7_moveWalker_57 : decode cX7_moveWalker 57 = .ok (.iload_n 1, 1) := by decide +kernel
theorem dX7_moveWalker_58 : decode cX7_moveWalker 58 = .ok (.iaload, 1) := by decide +kernel
theorem dX7_moveWalker_59 : decode cX7_moveWalker 59 = .ok (.if_icmp .ne 13, 3) := by decide +kernel
theorem dX7_moveWalker_62 : decode cX7_moveWalker 62 = .ok (.aload_n 0, 1) := by decide +kernel
theorem dX7_moveWalker_63 : decode cX7_moveWalker 63 = .ok (.getfield 47, 3) := by decide +kernel
theorem dX7_moveWalker_66 : decode cX7_moveWalker 66 = .ok (.getfield 92, 3) := by decide +kernel
theorem dX7_moveWalker_69 : decode cX7_moveWalker 69 = .ok (.iload_n 1, 1) := by decide +kernel
theorem dX7_moveWalker_70 : decode cX7_moveWalker 70 = .ok (.iconst (-1), 1) := by decide +kernel
theorem dX7_moveWalker_71 : decode cX7_moveWalker 71 = .ok (.iastore, 1) := by decide +kernel
theorem dX7_moveWalker_72 : decode cX7_moveWalker 72 = .ok (.aload_n 0, 1) := by decide +kernel
theorem dX7_moveWalker_73 : decode cX7_moveWalker 73 = .ok (.getfield 47, 3) := by decide +kernel
theorem dX7_moveWalker_76 : decode cX7_moveWalker 76 = .ok (.iconst 3, 1) := by decide +kernel
theorem dX7_moveWalker_77 : decode cX7_moveWalker 77 = .ok (.iload_n 1, 1) := by decide +kernel
theorem dX7_moveWalker_78 : decode cX7_moveWalker 78 = .ok (.invokevirtual 238, 3) := by decide +kernel
theorem dX7_moveWalker_81 : decode cX7_moveWalker 81 = .ok (.return_, 1) := by decide +kernel
theorem dX7_doDeed_0 : decode cX7_doDeed 0 = .ok (.aload_n 0, 1) := by decide +kernel
theorem dX7_doDeed_1 : decode cX7_doDeed 1 = .ok (.getfield 19, 3) := by decide +kernel
theorem dX7_doDeed_4 : decode cX7_doDeed 4 = .ok (.getfield 113, 3) := by decide +kernel
theorem dX7_doDeed_7 : decode cX7_doDeed 7 = .ok (.iload_n 1, 1) := by decide +kernel
theorem dX7_doDeed_8 : decode cX7_doDeed 8 = .ok (.iaload, 1) := by decide +kernel
theorem dX7_doDeed_9 : decode cX7_doDeed 9 = .ok (.istore_n 2, 1) := by decide +kernel
theorem dX7_doDeed_10 : decode cX7_doDeed 10 = .ok (.iload_n 2, 1) := by decide +kernel
theorem dX7_doDeed_11 : decode cX7_doDeed 11 = .ok (.iconst (-1), 1) := by decide +kernel
theorem dX7_doDeed_12 : decode cX7_doDeed 12 = .ok (.if_icmp .eq 26, 3) := by decide +kernel
theorem dX7_doDeed_15 : decode cX7_doDeed 15 = .ok (.aload_n 0, 1) := by decide +kernel
theorem dX7_doDeed_16 : decode cX7_doDeed 16 = .ok (.getfield 47, 3) := by decide +kernel
theorem dX7_doDeed_19 : decode cX7_doDeed 19 = .ok (.getfield 180, 3) := by decide +kernel
theorem dX7_doDeed_22 : decode cX7_doDeed 22 = .ok (.iload_n 2, 1) := by decide +kernel
theorem dX7_doDeed_23 : decode cX7_doDeed 23 = .ok (.iaload, 1) := by decide +kernel
theorem dX7_doDeed_24 : decode cX7_doDeed 24 = .ok (.aload_n 0, 1) := by decide +kernel
theorem dX7_doDeed_25 : decode cX7_doDeed 25 = .ok (.getfield 19, 3) := by decide +kernel
theorem dX7_doDeed_28 : decode cX7_doDeed 28 = .ok (.getfield 116, 3) := by decide +kernel
theorem dX7_doDeed_31 : decode cX7_doDeed 31 = .ok (.iload_n 1, 1) := by decide +kernel
theorem dX7_doDeed_32 : decode cX7_doDeed 32 = .ok (.iaload, 1) := by decide +kernel
theorem dX7_doDeed_33 : decode cX7_doDeed 33 = .ok (.if_icmp .ge 5, 3) := by decide +kernel
theorem dX7_doDeed_36 : decode cX7_doDeed 36 = .ok (.iconst 0, 1) := by decide +kernel
theorem dX7_doDeed_37 : decode cX7_doDeed 37 = .ok (.ireturn, 1) := by decide +kernel
theorem dX7_doDeed_38 : decode cX7_doDeed 38 = .ok (.aload_n 0, 1) := by decide +kernel
theorem dX7_doDeed_39 : decode cX7_doDeed 39 = .ok (.aload_n 0, 1) := by decide +kernel
theorem dX7_doDeed_40 : decode cX7_doDeed 40 = .ok (.getfield 19, 3) := by decide +kernel
theorem dX7_doDeed_43 : decode cX7_doDeed 43 = .ok (.getfield 269, 3) := by decide +kernel
theorem dX7_doDeed_46 : decode cX7_doDeed 46 = .ok (.iload_n 1, 1) := by decide +kernel
theorem dX7_doDeed_47 : decode cX7_doDeed 47 = .ok (.iaload, 1) := by decide +kernel
theorem dX7_doDeed_48 : decode cX7_doDeed 48 = .ok (.aload_n 0, 1) := by decide +kernel
theorem dX7_doDeed_49 : decode cX7_doDeed 49 = .ok (.getfield 19, 3) := by decide +kernel
theorem dX7_doDeed_52 : decode cX7_doDeed 52 = .ok (.getfield 272, 3) := by decide +kernel
theorem dX7_doDeed_55 : decode cX7_doDeed 55 = .ok (.iload_n 1, 1) := by decide +kernel
theorem dX7_doDeed_56 : decode cX7_doDeed 56 = .ok (.iaload, 1) := by decide +kernel
theorem dX7_doDeed_57 : decode cX7_doDeed 57 = .ok (.aload_n 0, 1) := by decide +kernel
theorem dX7_doDeed_58 : decode cX7_doDeed 58 = .ok (.getfield 19, 3) := by decide +kernel
theorem dX7_doDeed_61 : decode cX7_doDeed 61 = .ok (.getfield 275, 3) := by decide +kernel
theorem dX7_doDeed_64 : decode cX7_doDeed 64 = .ok (.iload_n 1, 1) := by decide +kernel
theorem dX7_doDeed_65 : decode cX7_doDeed 65 = .ok (.iaload, 1) := by decide +kernel
theorem dX7_doDeed_66 : decode cX7_doDeed 66 = .ok (.invokevirtual 278, 3) := by decide +kernel
theorem dX7_doDeed_69 : decode cX7_doDeed 69 = .ok (.iconst 1, 1) := by decide +kernel
theorem dX7_doDeed_70 : decode cX7_doDeed 70 = .ok (.ireturn, 1) := by decide +kernel
theorem dX7_carryOut_0 : decode cX7_carryOut 0 = .ok (.iload_n 1, 1) := by decide +kernel
theorem dX7_carryOut_1 : decode cX7_carryOut 1 = .ok (.tableswitch 147 0 8 #[51, 63, 71, 79, 88, 97, 105, 114, 122], 51) := by decide +kernel
theorem dX7_carryOut_52 : decode cX7_carryOut 52 = .ok (.aload_n 0, 1) := by decide +kernel
theorem dX7_carryOut_53 : decode cX7_carryOut 53 = .ok (.getfield 47, 3) := by decide +kernel
theorem dX7_carryOut_56 : decode cX7_carryOut 56 = .ok (.iload_n 2, 1) := by decide +kernel
theorem dX7_carryOut_57 : decode cX7_carryOut 57 = .ok (.iload_n 3, 1) := by decide +kernel
theorem dX7_carryOut_58 : decode cX7_carryOut 58 = .ok (.invokevirtual 281, 3) := by decide +kernel
theorem dX7_carryOut_61 : decode cX7_carryOut 61 = .ok (.goto 87, 3) := by decide +kernel
theorem dX7_carryOut_64 : decode cX7_carryOut 64 = .ok (.aload_n 0, 1) := by decide +kernel
theorem dX7_carryOut_65 : decode cX7_carryOut 65 = .ok (.iload_n 2, 1) := by decide +kernel
theorem dX7_carryOut_66 : decode cX7_carryOut 66 = .ok (.invokevirtual 284, 3) := by decide +kernel
theorem dX7_carryOut_69 : decode cX7_carryOut 69 = .ok (.goto 79, 3) := by decide +kernel
theorem dX7_carryOut_72 : decode cX7_carryOut 72 = .ok (.aload_n 0, 1) := by decide +kernel
theorem dX7_carryOut_73 : decode cX7_carryOut 73 = .ok (.iload_n 2, 1) := by decide +kernel
theorem dX7_carryOut_74 : decode cX7_carryOut 74 = .ok (.invokevirtual 287, 3) := by decide +kernel
theorem dX7_carryOut_77 : decode cX7_carryOut 77 = .ok (.goto 71, 3) := by decide +kernel
theorem dX7_carryOut_80 : decode cX7_carryOut 80 = .ok (.aload_n 0, 1) := by decide +kernel
theorem dX7_carryOut_81 : decode cX7_carryOut 81 = .ok (.iload_n 2, 1) := by decide +kernel
theorem dX7_carryOut_82 : decode cX7_carryOut 82 = .ok (.iconst 1, 1) := by decide +kernel
theorem dX7_carryOut_83 : decode cX7_carryOut 83 = .ok (.invokevirtual 290, 3) := by decide +kernel
theorem dX7_carryOut_86 : decode cX7_carryOut 86 = .ok (.goto 62, 3) := by decide +kernel
theorem dX7_carryOut_89 : decode cX7_carryOut 89 = .ok (.aload_n 0, 1) := by decide +kernel
theorem dX7_carryOut_90 : decode cX7_carryOut 90 = .ok (.iload_n 2, 1) := by decide +kernel
theorem dX7_carryOut_91 : decode cX7_carryOut 91 = .ok (.iconst 0, 1) := by decide +kernel
theorem dX7_carryOut_92 : decode cX7_carryOut 92 = .ok (.invokevirtual 290, 3) := by decide +kernel
theorem dX7_carryOut_95 : decode cX7_carryOut 95 = .ok (.goto 53, 3) := by decide +kernel
theorem dX7_carryOut_98 : decode cX7_carryOut 98 = .ok (.aload_n 0, 1) := by decide +kernel
theorem dX7_carryOut_99 : decode cX7_carryOut 99 = .ok (.iload_n 2, 1) := by decide +kernel
theorem dX7_carryOut_100 : decode cX7_carryOut 100 = .ok (.invokevirtual 294, 3) := by decide +kernel
theorem dX7_carryOut_103 : decode cX7_carryOut 103 = .ok (.goto 45, 3) := by decide +kernel
theorem dX7_carryOut_106 : decode cX7_carryOut 106 = .ok (.aload_n 0, 1) := by decide +kernel
theorem dX7_carryOut_107 : decode cX7_carryOut 107 = .ok (.iload_n 2, 1) := by decide +kernel
theorem dX7_carryOut_108 : decode cX7_carryOut 108 = .ok (.iload_n 3, 1) := by decide +kernel
theorem dX7_carryOut_109 : decode cX7_carryOut 109 = .ok (.invokevirtual 297, 3) := by decide +kernel
theorem dX7_carryOut_112 : decode cX7_carryOut 112 = .ok (.goto 36, 3) := by decide +kernel
theorem dX7_carryOut_115 : decode cX7_carryOut 115 = .ok (.aload_n 0, 1) := by decide +kernel
theorem dX7_carryOut_116 : decode cX7_carryOut 116 = .ok (.iconst 1, 1) := by decide +kernel
theorem dX7_carryOut_117 : decode cX7_carryOut 117 = .ok (.putfield 145, 3) := by decide +kernel
theorem dX7_carryOut_120 : decode cX7_carryOut 120 = .ok (.goto 28, 3) := by decide +kernel
theorem dX7_carryOut_123 : decode cX7_carryOut 123 = .ok (.aload_n 0, 1) := by decide +kernel
theorem dX7_carryOut_124 : decode cX7_carryOut 124 = .ok (.getfield 47, 3) := by decide +kernel
theorem dX7_carryOut_127 : decode cX7_carryOut 127 = .ok (.aload_n 0, 1) := by decide +kernel
theorem dX7_carryOut_128 : decode cX7_carryOut 128 = .ok (.getfield 47, 3) := by decide +kernel
theorem dX7_carryOut_131 : decode cX7_carryOut 131 = .ok (.getfield 171, 3) := by decide +kernel
theorem dX7_carryOut_134 : decode cX7_carryOut 134 = .ok (.iload_n 3, 1) := by decide +kernel
theorem dX7_carryOut_135 : decode cX7_carryOut 135 = .ok (.iadd, 1) := by decide +kernel
theorem dX7_carryOut_136 : decode cX7_carryOut 136 = .ok (.sipush 600, 3) := by decide +kernel
theorem dX7_carryOut_139 : decode cX7_carryOut 139 = .ok (.invokestatic 300, 3) := by decide +kernel
theorem dX7_carryOut_142 : decode cX7_carryOut 142 = .ok (.putfield 171, 3) := by decide +kernel
theorem dX7_carryOut_145 : decode cX7_carryOut 145 = .ok (.goto 3, 3) := by decide +kernel
theorem dX7_carryOut_148 : decode cX7_carryOut 148 = .ok (.return_, 1) := by decide +kernel
theorem dX7_startTimer_0 : decode cX7_startTimer 0 = .ok (.iload_n 1, 1) := by decide +kernel
theorem dX7_startTimer_1 : decode cX7_startTimer 1 = .ok (.aload_n 0, 1) := by decide +kernel
theorem dX7_startTimer_2 : decode cX7_startTimer 2 = .ok (.getfield 33, 3) := by decide +kernel
theorem dX7_startTimer_5 : decode cX7_startTimer 5 = .ok (.getfield 178, 3) := by decide +kernel
theorem dX7_startTimer_8 : decode cX7_startTimer 8 = .ok (.invokestatic 74, 3) := by decide +kernel
theorem dX7_startTimer_11 : decode cX7_startTimer 11 = .ok (.ifCond .eq 28, 3) := by decide +kernel
theorem dX7_startTimer_14 : decode cX7_startTimer 14 = .ok (.aload_n 0, 1) := by decide +kernel
theorem dX7_startTimer_15 : decode cX7_startTimer 15 = .ok (.getfield 47, 3) := by decide +kernel
theorem dX7_startTimer_18 : decode cX7_startTimer 18 = .ok (.getfield 183, 3) := by decide +kernel
theorem dX7_startTimer_21 : decode cX7_startTimer 21 = .ok (.iload_n 1, 1) := by decide +kernel
theorem dX7_startTimer_22 : decode cX7_startTimer 22 = .ok (.aload_n 0, 1) := by decide +kernel
theorem dX7_startTimer_23 : decode cX7_startTimer 23 = .ok (.getfield 33, 3) := by decide +kernel
theorem dX7_startTimer_26 : decode cX7_startTimer 26 = .ok (.getfield 251, 3) := by decide +kernel
theorem dX7_startTimer_29 : decode cX7_startTimer 29 = .ok (.iload_n 1, 1) := by decide +kernel
theorem dX7_startTimer_30 : decode cX7_startTimer 30 = .ok (.iaload, 1) := by decide +kernel
theorem dX7_startTimer_31 : decode cX7_startTimer 31 = .ok (.iastore, 1) := by decide +kernel
theorem dX7_startTimer_32 : decode cX7_startTimer 32 = .ok (.aload_n 0, 1) := by decide +kernel
theorem dX7_startTimer_33 : decode cX7_startTimer 33 = .ok (.getfield 58, 3) := by decide +kernel
theorem dX7_startTimer_36 : decode cX7_startTimer 36 = .ok (.iload_n 1, 1) := by decide +kernel
theorem dX7_startTimer_37 : decode cX7_startTimer 37 = .ok (.iconst 1, 1) := by decide +kernel
theorem dX7_startTimer_38 : decode cX7_startTimer 38 = .ok (.bastore, 1) := by decide +kernel
theorem dX7_startTimer_39 : decode cX7_startTimer 39 = .ok (.return_, 1) := by decide +kernel
theorem dX7_stopTimer_0 : decode cX7_stopTimer 0 = .ok (.iload_n 1, 1) := by decide +kernel
theorem dX7_stopTimer_1 : decode cX7_stopTimer 1 = .ok (.aload_n 0, 1) := by decide +kernel
theorem dX7_stopTimer_2 : decode cX7_stopTimer 2 = .ok (.getfield 33, 3) := by decide +kernel
theorem dX7_stopTimer_5 : decode cX7_stopTimer 5 = .ok (.getfield 178, 3) := by decide +kernel
theorem dX7_stopTimer_8 : decode cX7_stopTimer 8 = .ok (.invokestatic 74, 3) := by decide +kernel
theorem dX7_stopTimer_11 : decode cX7_stopTimer 11 = .ok (.ifCond .eq 13, 3) := by decide +kernel
theorem dX7_stopTimer_14 : decode cX7_stopTimer 14 = .ok (.aload_n 0, 1) := by decide +kernel
theorem dX7_stopTimer_15 : decode cX7_stopTimer 15 = .ok (.getfield 47, 3) := by decide +kernel
theorem dX7_stopTimer_18 : decode cX7_stopTimer 18 = .ok (.getfield 183, 3) := by decide +kernel
theorem dX7_stopTimer_21 : decode cX7_stopTimer 21 = .ok (.iload_n 1, 1) := by decide +kernel
theorem dX7_stopTimer_22 : decode cX7_stopTimer 22 = .ok (.iconst 0, 1) := by decide +kernel
theorem dX7_stopTimer_23 : decode cX7_stopTimer 23 = .ok (.iastore, 1) := by decide +kernel
theorem dX7_stopTimer_24 : decode cX7_stopTimer 24 = .ok (.return_, 1) := by decide +kernel
theorem dX7_switchDaemon_0 : decode cX7_switchDaemon 0 = .ok (.iload_n 1, 1) := by decide +kernel
theorem dX7_switchDaemon_1 : decode cX7_switchDaemon 1 = .ok (.aload_n 0, 1) := by decide +kernel
theorem dX7_switchDaemon_2 : decode cX7_switchDaemon 2 = .ok (.getfield 40, 3) := by decide +kernel
theorem dX7_switchDaemon_5 : decode cX7_switchDaemon 5 = .ok (.getfield 179, 3) := by decide +kernel
theorem dX7_switchDaemon_8 : decode cX7_switchDaemon 8 = .ok (.invokestatic 74, 3) := by decide +kernel
theorem dX7_switchDaemon_11 : decode cX7_switchDaemon 11 = .ok (.ifCond .eq 13, 3) := by decide +kernel
theorem dX7_switchDaemon_14 : decode cX7_switchDaemon 14 = .ok (.aload_n 0, 1) := by decide +kernel
theorem dX7_switchDaemon_15 : decode cX7_switchDaemon 15 = .ok (.getfield 47, 3) := by decide +kernel
theorem dX7_switchDaemon_18 : decode cX7_switchDaemon 18 = .ok (.getfield 186, 3) := by decide +kernel
theorem dX7_switchDaemon_21 : decode cX7_switchDaemon 21 = .ok (.iload_n 1, 1) := by decide +kernel
theorem dX7_switchDaemon_22 : decode cX7_switchDaemon 22 = .ok (.iload_n 2, 1) := by decide +kernel
theorem dX7_switchDaemon_23 : decode cX7_switchDaemon 23 = .ok (.bastore, 1) := by decide +kernel
theorem dX7_switchDaemon_24 : decode cX7_switchDaemon 24 = .ok (.return_, 1) := by decide +kernel
theorem dX7_turnDoor_0 : decode cX7_turnDoor 0 = .ok (.iload_n 1, 1) := by decide +kernel
theorem dX7_turnDoor_1 : decode cX7_turnDoor 1 = .ok (.aload_n 0, 1) := by decide +kernel
theorem dX7_turnDoor_2 : decode cX7_turnDoor 2 = .ok (.getfield 12, 3) := by decide +kernel
theorem dX7_turnDoor_5 : decode cX7_turnDoor 5 = .ok (.getfield 174, 3) := by decide +kernel
theorem dX7_turnDoor_8 : decode cX7_turnDoor 8 = .ok (.invokestatic 74, 3) := by decide +kernel
theorem dX7_turnDoor_11 : decode cX7_turnDoor 11 = .ok (.ifCond .eq 29, 3) := by decide +kernel
theorem dX7_turnDoor_14 : decode cX7_turnDoor 14 = .ok (.aload_n 0, 1) := by decide +kernel
theorem dX7_turnDoor_15 : decode cX7_turnDoor 15 = .ok (.getfield 47, 3) := by decide +kernel
theorem dX7_turnDoor_18 : decode cX7_turnDoor 18 = .ok (.getfield 193, 3) := by decide +kernel
theorem dX7_turnDoor_21 : decode cX7_turnDoor 21 = .ok (.iload_n 1, 1) := by decide +kernel
theorem dX7_turnDoor_22 : decode cX7_turnDoor 22 = .ok (.aload_n 0, 1) := by decide +kernel
theorem dX7_turnDoor_23 : decode cX7_turnDoor 23 = .ok (.getfield 47, 3) := by decide +kernel
theorem dX7_turnDoor_26 : decode cX7_turnDoor 26 = .ok (.getfield 193, 3) := by decide +kernel
theorem dX7_turnDoor_29 : decode cX7_turnDoor 29 = .ok (.iload_n 1, 1) := by decide +kernel
theorem dX7_turnDoor_30 : decode cX7_turnDoor 30 = .ok (.baload, 1) := by decide +kernel
theorem dX7_turnDoor_31 : decode cX7_turnDoor 31 = .ok (.ifCond .ne 7, 3) := by decide +kernel
theorem dX7_turnDoor_34 : decode cX7_turnDoor 34 = .ok (.iconst 1, 1) := by decide +kernel
theorem dX7_turnDoor_35 : decode cX7_turnDoor 35 = .ok (.goto 4, 3) := by decide +kernel
theorem dX7_turnDoor_38 : decode cX7_turnDoor 38 = .ok (.iconst 0, 1) := by decide +kernel
theorem dX7_turnDoor_39 : decode cX7_turnDoor 39 = .ok (.bastore, 1) := by decide +kernel
theorem dX7_turnDoor_40 : decode cX7_turnDoor 40 = .ok (.return_, 1) := by decide +kernel
theorem dX7_giveGoal_0 : decode cX7_giveGoal 0 = .ok (.iload_n 1, 1) := by decide +kernel
theorem dX7_giveGoal_1 : decode cX7_giveGoal 1 = .ok (.aload_n 0, 1) := by decide +kernel
theorem dX7_giveGoal_2 : decode cX7_giveGoal 2 = .ok (.getfield 12, 3) := by decide +kernel
theorem dX7_giveGoal_5 : decode cX7_giveGoal 5 = .ok (.getfield 85, 3) := by decide +kernel
theorem dX7_giveGoal_8 : decode cX7_giveGoal 8 = .ok (.invokestatic 74, 3) := by decide +kernel
theorem dX7_giveGoal_11 : decode cX7_giveGoal 11 = .ok (.ifCond .eq 44, 3) := by decide +kernel
theorem dX7_giveGoal_14 : decode cX7_giveGoal 14 = .ok (.iload_n 2, 1) := by decide +kernel
theorem dX7_giveGoal_15 : decode cX7_giveGoal 15 = .ok (.aload_n 0, 1) := by decide +kernel
theorem dX7_giveGoal_16 : decode cX7_giveGoal 16 = .ok (.getfield 12, 3) := by decide +kernel
theorem dX7_giveGoal_19 : decode cX7_giveGoal 19 = .ok (.getfield 70, 3) := by decide +kernel
theorem dX7_giveGoal_22 : decode cX7_giveGoal 22 = .ok (.invokestatic 74, 3) := by decide +kernel
theorem dX7_giveGoal_25 : decode cX7_giveGoal 25 = .ok (.ifCond .eq 30, 3) := by decide +kernel
theorem dX7_giveGoal_28 : decode cX7_giveGoal 28 = .ok (.aload_n 0, 1) := by decide +kernel
theorem dX7_giveGoal_29 : decode cX7_giveGoal 29 = .ok (.getfield 47, 3) := by decide +kernel
theorem dX7_giveGoal_32 : decode cX7_giveGoal 32 = .ok (.getfield 92, 3) := by decide +kernel
theorem dX7_giveGoal_35 : decode cX7_giveGoal 35 = .ok (.iload_n 1, 1) := by decide +kernel
theorem dX7_giveGoal_36 : decode cX7_giveGoal 36 = .ok (.aload_n 0, 1) := by decide +kernel
theorem dX7_giveGoal_37 : decode cX7_giveGoal 37 = .ok (.getfield 47, 3) := by decide +kernel
theorem dX7_giveGoal_40 : decode cX7_giveGoal 40 = .ok (.getfield 88, 3) := by decide +kernel
theorem dX7_giveGoal_43 : decode cX7_giveGoal 43 = .ok (.iload_n 1, 1) := by decide +kernel
theorem dX7_giveGoal_44 : decode cX7_giveGoal 44 = .ok (.iaload, 1) := by decide +kernel
theorem dX7_giveGoal_45 : decode cX7_giveGoal 45 = .ok (.iload_n 2, 1) := by decide +kernel
theorem dX7_giveGoal_46 : decode cX7_giveGoal 46 = .ok (.if_icmp .ne 7, 3) := by decide +kernel
theorem dX7_giveGoal_49 : decode cX7_giveGoal 49 = .ok (.iconst (-1), 1) := by decide +kernel
theorem dX7_giveGoal_50 : decode cX7_giveGoal 50 = .ok (.goto 4, 3) := by decide +kernel
theorem dX7_giveGoal_53 : decode cX7_giveGoal 53 = .ok (.iload_n 2, 1) := by decide +kernel
theorem dX7_giveGoal_54 : decode cX7_giveGoal 54 = .ok (.iastore, 1) := by decide +kernel
theorem dX7_giveGoal_55 : decode cX7_giveGoal 55 = .ok (.return_, 1) := by decide +kernel
end
section
theorem dX8_init_0 : decode cX8_init 0 = .ok (.aload_n 0, 1) := by decide +kernel
theorem dX8_init_1 : decode cX8_init 1 = .ok (.invokespecial 1, 3) := by decide +kernel
theorem dX8_init_4 : decode cX8_init 4 = .ok (.aload_n 0, 1) := by decide +kernel
theorem dX8_init_5 : decode cX8_init 5 = .ok (.sipush 192, 3) := by decide +kernel
theorem dX8_init_8 : decode cX8_init 8 = .ok (.newarray .int, 2) := by decide +kernel
theorem dX8_init_10 : decode cX8_init 10 = .ok (.putfield 7, 3) := by decide +kernel
theorem dX8_init_13 : decode cX8_init 13 = .ok (.aload_n 0, 1) := by decide +kernel
theorem dX8_init_14 : decode cX8_init 14 = .ok (.sipush 1536, 3) := by decide +kernel
theorem dX8_init_17 : decode cX8_init 17 = .ok (.newarray .int, 2) := by decide +kernel
theorem dX8_init_19 : decode cX8_init 19 = .ok (.putfield 13, 3) := by decide +kernel
theorem dX8_init_22 : decode cX8_init 22 = .ok (.aload_n 0, 1) := by decide +kernel
theorem dX8_init_23 : decode cX8_init 23 = .ok (.iconst 1, 1) := by decide +kernel
theorem dX8_init_24 : decode cX8_init 24 = .ok (.putfield 16, 3) := by decide +kernel
theorem dX8_init_27 : decode cX8_init 27 = .ok (.aload_n 0, 1) := by decide +kernel
theorem dX8_init_28 : decode cX8_init 28 = .ok (.bipush 15, 2) := by decide +kernel
theorem dX8_init_30 : decode cX8_init 30 = .ok (.newarray .int, 2) := by decide +kernel
theorem dX8_init_32 : decode cX8_init 32 = .ok (.putfield 20, 3) := by decide +kernel
theorem dX8_init_35 : decode cX8_init 35 = .ok (.aload_n 0, 1) := by decide +kernel
theorem dX8_init_36 : decode cX8_init 36 = .ok (.bipush 15, 2) := by decide +kernel
theorem dX8_init_38 : decode cX8_init 38 = .ok (.newarray .int, 2) := by decide +kernel
theorem dX8_init_40 : decode cX8_init 40 = .ok (.putfield 23, 3) := by decide +kernel
theorem dX8_init_43 : decode cX8_init 43 = .ok (.aload_n 0, 1) := by decide +kernel
theorem dX8_init_44 : decode cX8_init 44 = .ok (.bipush 40, 2) := by decide +kernel
theorem dX8_init_46 : decode cX8_init 46 = .ok (.newarray .int, 2) := by decide +kernel
theorem dX8_init_48 : decode cX8_init 48 = .ok (.putfield 26, 3) := by decide +kernel
theorem dX8_init_51 : decode cX8_init 51 = .ok (.aload_n 0, 1) := by decide +kernel
theorem dX8_init_52 : decode cX8_init 52 = .ok (.bipush 40, 2) := by decide +kernel
theorem dX8_init_54 : decode cX8_init 54 = .ok (.newarray .int, 2) := by decide +kernel
theorem dX8_init_56 : decode cX8_init 56 = .ok (.putfield 29, 3) := by decide +kernel
theorem dX8_init_59 : decode cX8_init 59 = .ok (.aload_n 0, 1) := by decide +kernel
theorem dX8_init_60 : decode cX8_init 60 = .ok (.bipush 40, 2) := by decide +kernel
theorem dX8_init_62 : decode cX8_init 62 = .ok (.newarray .int, 2) := by decide +kernel
theorem dX8_init_64 : decode cX8_init 64 = .ok (.putfield 32, 3) := by decide +kernel
theorem dX8_init_67 : decode cX8_init 67 = .ok (.aload_n 0, 1) := by decide +kernel
theorem dX8_init_68 : decode cX8_init 68 = .ok (.bipush 40, 2) := by decide +kernel
theorem dX8_init_70 : decode cX8_init 70 = .ok (.newarray .int, 2) := by decide +kernel
theorem dX8_init_72 : decode cX8_init 72 = .ok (.putfield 35, 3) := by decide +kernel
theorem dX8_init_75 : decode cX8_init 75 = .ok (.aload_n 0, 1) := by decide +kernel
theorem dX8_init_76 : decode cX8_init 76 = .ok (.bipush 40, 2) := by decide +kernel
theorem dX8_init_78 : decode cX8_init 78 = .ok (.newarray .int, 2) := by decide +kernel
theorem dX8_init_80 : decode cX8_init 80 = .ok (.putfield 38, 3) := by decide +kernel
theorem dX8_init_83 : decode cX8_init 83 = .ok (.aload_n 0, 1) := by decide +kernel
theorem dX8_init_84 : decode cX8_init 84 = .ok (.bipush 12, 2) := by decide +kernel
theorem dX8_init_86 : decode cX8_init 86 = .ok (.newarray .int, 2) := by decide +kernel
theorem dX8_init_88 : decode cX8_init 88 = .ok (.putfield 41, 3) := by decide +kernel
theorem dX8_init_91 : decode cX8_init 91 = .ok (.aload_n 0, 1) := by decide +kernel
theorem dX8_init_92 : decode cX8_init 92 = .ok (.bipush 12, 2) := by decide +kernel
theorem dX8_init_94 : decode cX8_init 94 = .ok (.newarray .int, 2) := by decide +kernel
theorem dX8_init_96 : decode cX8_init 96 = .ok (.putfield 44, 3) := by decide +kernel
theorem dX8_init_99 : decode cX8_init 99 = .ok (.aload_n 0, 1) := by decide +kernel
theorem dX8_init_100 : decode cX8_init 100 = .ok (.bipush 12, 2) := by decide +kernel
theorem dX8_init_102 : decode cX8_init 102 = .ok (.newarray .boolean, 2) := by decide +kernel
theorem dX8_init_104 : decode cX8_init 104 = .ok (.putfield 47, 3) := by decide +kernel
theorem dX8_init_107 : decode cX8_init 107 = .ok (.aload_n 0, 1) := by decide +kernel
theorem dX8_init_108 : decode cX8_init 108 = .ok (.bipush 12, 2) := by decide +kernel
theorem dX8_init_110 : decode cX8_init 110 = .ok (.newarray .int, 2) := by decide +kernel
theorem dX8_init_112 : decode cX8_init 112 = .ok (.putfield 51, 3) := by decide +kernel
theorem dX8_init_115 : decode cX8_init 115 = .ok (.aload_n 0, 1) := by decide +kernel
theorem dX8_init_116 : decode cX8_init 116 = .ok (.bipush 12, 2) := by decide +kernel
theorem dX8_init_118 : decode cX8_init 118 = .ok (.newarray .int, 2) := by decide +kernel
theorem dX8_init_120 : decode cX8_init 120 = .ok (.putfield 54, 3) := by decide +kernel
theorem dX8_init_123 : decode cX8_init 123 = .ok (.aload_n 0, 1) := by decide +kernel
theorem dX8_init_124 : decode cX8_init 124 = .ok (.bipush 12, 2) := by decide +kernel
theorem dX8_init_126 : decode cX8_init 126 = .ok (.newarray .boolean, 2) := by decide +kernel
theorem dX8_init_128 : decode cX8_init 128 = .ok (.putfield 57, 3) := by decide +kernel
theorem dX8_init_131 : decode cX8_init 131 = .ok (.aload_n 0, 1) := by decide +kernel
theorem dX8_init_132 : decode cX8_init 132 = .ok (.bipush 12, 2) := by decide +kernel
theorem dX8_init_134 : decode cX8_init 134 = .ok (.newarray .int, 2) := by decide +kernel
theorem dX8_init_136 : decode cX8_init 136 = .ok (.putfield 60, 3) := by decide +kernel
theorem dX8_init_139 : decode cX8_init 139 = .ok (.aload_n 0, 1) := by decide +kernel
theorem dX8_init_140 : decode cX8_init 140 = .ok (.bipush 12, 2) := by decide +kernel
theorem dX8_init_142 : decode cX8_init 142 = .ok (.newarray .int, 2) := by decide +kernel
theorem dX8_init_144 : decode cX8_init 144 = .ok (.putfield 63, 3) := by decide +kernel
theorem dX8_init_147 : decode cX8_init 147 = .ok (.aload_n 0, 1) := by decide +kernel
theorem dX8_init_148 : decode cX8_init 148 = .ok (.bipush 12, 2) := by decide +kernel
theorem dX8_init_150 : decode cX8_init 150 = .ok (.newarray .boolean, 2) := by decide +kernel
theorem dX8_init_152 : decode cX8_init 152 = .ok (.putfield 66, 3) := by decide +kernel
theorem dX8_init_155 : decode cX8_init 155 = .ok (.aload_n 0, 1) := by decide +kernel
theorem dX8_init_156 : decode cX8_init 156 = .ok (.bipush 12, 2) := by decide +kernel
theorem dX8_init_158 : decode cX8_init 158 = .ok (.newarray .boolean, 2) := by decide +kernel
theorem dX8_init_160 : decode cX8_init 160 = .ok (.putfield 69, 3) := by decide +kernel
theorem dX8_init_163 : decode cX8_init 163 = .ok (.aload_n 0, 1) := by decide +kernel
theorem dX8_init_164 : decode cX8_init 164 = .ok (.bipush 10, 2) := by decide +kernel
theorem dX8_init_166 : decode cX8_init 166 = .ok (.newarray .int, 2) := by decide +kernel
theorem dX8_init_168 : decode cX8_init 168 = .ok (.putfield 72, 3) := by decide +kernel
theorem dX8_init_171 : decode cX8_init 171 = .ok (.aload_n 0, 1) := by decide +kernel
theorem dX8_init_172 : decode cX8_init 172 = .ok (.iconst 0, 1) := by decide +kernel
theorem dX8_init_173 : decode cX8_init 173 = .ok (.putfield 75, 3) := by decide +kernel
theorem dX8_init_176 : decode cX8_init 176 = .ok (.return_, 1) := by decide +kernel
theorem dX8_in_0 : decode cX8_in 0 = .ok (.iload_n 0, 1) := by decide +kernel
theorem dX8_in_1 : decode cX8_in 1 = .ok (.iload_n 1, 1) := by decide +kernel
theorem dX8_in_2 : decode cX8_in 2 = .ok (.if_icmp .lt 12, 3) := by decide +kernel
theorem dX8_in_5 : decode cX8_in 5 = .ok (.iload_n 0, 1) := by decide +kernel
theorem dX8_in_6 : decode cX8_in 6 = .ok (.iload_n 2, 1) := by decide +kernel
theorem dX8_in_7 : decode cX8_in 7 = .ok (.if_icmp .gt 7, 3) := by decide +kernel
theorem dX8_in_10 : decode cX8_in 10 = .ok (.iconst 1, 1) := by decide +kernel
theorem dX8_in_11 : decode cX8_in 11 = .ok (.goto 4, 3) := by decide +kernel
theorem dX8_in_14 : decode cX8_in 14 = .ok (.iconst 0, 1) := by decide +kernel
theorem dX8_in_15 : decode cX8_in 15 = .ok (.ireturn, 1) := by decide +kernel
theorem dX8_isOf_0 : decode cX8_isOf 0 = .ok (.iload_n 0, 1) := by decide +kernel
theorem dX8_isOf_1 : decode cX8_isOf 1 = .ok (.iconst 0, 1) := by decide +kernel
theorem dX8_isOf_2 : decode cX8_isOf 2 = .ok (.iload_n 1, 1) := by decide +kernel
theorem dX8_isOf_3 : decode cX8_isOf 3 = .ok (.iconst 1, 1) := by decide +kernel
theorem dX8_isOf_4 : decode cX8_isOf 4 = .ok (.isub, 1) := by decide +kernel
theorem dX8_isOf_5 : decode cX8_isOf 5 = .ok (.invokestatic 78, 3) := by decide +kernel
theorem dX8_isOf_8 : decode cX8_isOf 8 = .ok (.ireturn, 1) := by decide +kernel
theorem dX8_changed_0 : decode cX8_changed 0 = .ok (.aload_n 0, 1) := by decide +kernel
theorem dX8_changed_1 : decode cX8_changed 1 = .ok (.iconst 0, 1) := by decide +kernel
theorem dX8_changed_2 : decode cX8_changed 2 = .ok (.putfield 75, 3) := by decide +kernel
theorem dX8_changed_5 : decode cX8_changed 5 = .ok (.iload_n 1, 1) := by decide +kernel
theorem dX8_changed_6 : decode cX8_changed 6 = .ok (.ireturn, 1) := by decide +kernel
theorem dX8_room_0 : decode cX8_room 0 = .ok (.aload_n 0, 1) := by decide +kernel
theorem dX8_room_1 : decode cX8_room 1 = .ok (.getfield 82, 3) := by decide +kernel
theorem dX8_room_4 : decode cX8_room 4 = .ok (.bipush 10, 2) := by decide +kernel
theorem dX8_room_6 : decode cX8_room 6 = .ok (.if_icmp .ne 6, 3) := by decide +kernel
theorem dX8_room_9 : decode cX8_room 9 = .ok (.bipush (-5), 2) := by decide +kernel
theorem dX8_room_11 : decode cX8_room 11 = .ok (.ireturn, 1) := by decide +kernel
theorem dX8_room_12 : decode cX8_room 12 = .ok (.aload_n 0, 1) := by decide +kernel
theorem dX8_room_13 : decode cX8_room 13 = .ok (.dup, 1) := by decide +kernel
theorem dX8_room_14 : decode cX8_room 14 = .ok (.getfield 82, 3) := by decide +kernel
theorem dX8_room_17 : decode cX8_room 17 = .ok (.iconst 1, 1) := by decide +kernel
theorem dX8_room_18 : decode cX8_room 18 = .ok (.iadd, 1) := by decide +kernel
theorem dX8_room_19 : decode cX8_room 19 = .ok (.putfield 82, 3) := by decide +kernel
theorem dX8_room_22 : decode cX8_room 22 = .ok (.aload_n 0, 1) := by decide +kernel
theorem dX8_room_23 : decode cX8_room 23 = .ok (.aload_n 0, 1) := by decide +kernel
theorem dX8_room_24 : decode cX8_room 24 = .ok (.getfield 82, 3) := by decide +kernel
theorem dX8_room_27 : decode cX8_room 27 = .ok (.iconst 1, 1) := by decide +kernel
theorem dX8_room_28 : decode cX8_room 28 = .ok (.isub, 1) := by decide +kernel
theorem dX8_room_29 : decode cX8_room 29 = .ok (.invokevirtual 85, 3) := by decide +kernel
theorem dX8_room_32 : decode cX8_room 32 = .ok (.ireturn, 1) := by decide +kernel
theorem dX8_door_0 : decode cX8_door 0 = .ok (.iload_n 1, 1) := by decide +kernel
theorem dX8_door_1 : decode cX8_door 1 = .ok (.aload_n 0, 1) := by decide +kernel
theorem dX8_door_2 : decode cX8_door 2 = .ok (.getfield 82, 3) := by decide +kernel
theorem dX8_door_5 : decode cX8_door 5 = .ok (.invokestatic 89, 3) := by decide +kernel
theorem dX8_door_8 : decode cX8_door 8 = .ok (.ifCond .eq 14, 3) := by decide +kernel
theorem dX8_door_11 : decode cX8_door 11 = .ok (.iload_n 2, 1) := by decide +kernel
theorem dX8_door_12 : decode cX8_door 12 = .ok (.aload_n 0, 1) := by decide +kernel
theorem dX8_door_13 : decode cX8_door 13 = .ok (.getfield 82, 3) := by decide +kernel
theorem dX8_door_16 : decode cX8_door 16 = .ok (.invokestatic 89, 3) := by decide +kernel
theorem dX8_door_19 : decode cX8_door 19 = .ok (.ifCond .ne 6, 3) := by decide +kernel
theorem dX8_door_22 : decode cX8_door 22 = .ok (.bipush (-2), 2) := by decide +kernel
theorem dX8_door_24 : decode cX8_door 24 = .ok (.ireturn, 1) := by decide +kernel
theorem dX8_door_25 : decode cX8_door 25 = .ok (.iload_n 1, 1) := by decide +kernel
theorem dX8_door_26 : decode cX8_door 26 = .ok (.iload_n 2, 1) := by decide +kernel
theorem dX8_door_27 : decode cX8_door 27 = .ok (.if_icmp .ne 6, 3) := by decide +kernel
theorem dX8_door_30 : decode cX8_door 30 = .ok (.bipush (-3), 2) := by decide +kernel
theorem dX8_door_32 : decode cX8_door 32 = .ok (.ireturn, 1) := by decide +kernel
theorem dX8_door_33 : decode cX8_door 33 = .ok (.aload_n 0, 1) := by decide +kernel
theorem dX8_door_34 : decode cX8_door 34 = .ok (.getfield 93, 3) := by decide +kernel
theorem dX8_door_37 : decode cX8_door 37 = .ok (.bipush 15, 2) := by decide +kernel
theorem dX8_door_39 : decode cX8_door 39 = .ok (.if_icmp .ne 6, 3) := by decide +kernel
theorem dX8_door_42 : decode cX8_door 42 = .ok (.bipush (-5), 2) := by decide +kernel
theorem dX8_door_44 : decode cX8_door 44 = .ok (.ireturn, 1) := by decide +kernel
theorem dX8_door_45 : decode cX8_door 45 = .ok (.aload_n 0, 1) := by decide +kernel
theorem dX8_door_46 : decode cX8_door 46 = .ok (.getfield 20, 3) := by decide +kernel
theorem dX8_door_49 : decode cX8_door 49 = .ok (.aload_n 0, 1) := by decide +kernel
theorem dX8_door_50 : decode cX8_door 50 = .ok (.getfield 93, 3) := by decide +kernel
theorem dX8_door_53 : decode cX8_door 53 = .ok (.iload_n 1, 1) := by decide +kernel
theorem dX8_door_54 : decode cX8_door 54 = .ok (.iastore, 1) := by decide +kernel
theorem dX8_door_55 : decode cX8_door 55 = .ok (.aload_n 0, 1) := by decide +kernel
theorem dX8_door_56 : decode cX8_door 56 = .ok (.getfield 23, 3) := by decide +kernel
theorem dX8_door_59 : decode cX8_door 59 = .ok (.aload_n 0, 1) := by decide +kernel
theorem dX8_door_60 : decode cX8_door 60 = .ok (.getfield 93, 3) := by decide +kernel
theorem dX8_door_63 : decode cX8_door 63 = .ok (.iload_n 2, 1) := by decide +kernel
theorem dX8_door_64 : decode cX8_door 64 = .ok (.iastore, 1) := by decide +kernel
theorem dX8_door_65 : decode cX8_door 65 = .ok (.aload_n 0, 1) := by decide +kernel
theorem dX8_door_66 : decode cX8_door 66 = .ok (.getfield 7, 3) := by decide +kernel
theorem dX8_door_69 : decode cX8_door 69 = .ok (.bipush 12, 2) := by decide +kernel
theorem dX8_door_71 : decode cX8_door 71 = .ok (.aload_n 0, 1) := by decide +kernel
theorem dX8_door_72 : decode cX8_door 72 = .ok (.getfield 93, 3) := by decide +kernel
theorem dX8_door_75 : decode cX8_door 75 = .ok (.iadd, 1) := by decide +kernel
theorem dX8_door_76 : decode cX8_door 76 = .ok (.iconst 1, 1) := by decide +kernel
theorem dX8_door_77 : decode cX8_door 77 = .ok (.iastore, 1) := by decide +kernel
theorem dX8_door_78 : decode cX8_door 78 = .ok (.aload_n 0, 1) := by decide +kernel
theorem dX8_door_79 : decode cX8_door 79 = .ok (.dup, 1) := by decide +kernel
theorem dX8_door_80 : decode cX8_door 80 = .ok (.getfield 93, 3) := by decide +kernel
theorem dX8_door_83 : decode cX8_door 83 = .ok (.iconst 1, 1) := by decide +kernel
theorem dX8_door_84 : decode cX8_door 84 = .ok (.iadd, 1) := by decide +kernel
theorem dX8_door_85 : decode cX8_door 85 = .ok (.putfield 93, 3) := by decide +kernel
theorem dX8_door_88 : decode cX8_door 88 = .ok (.aload_n 0, 1) := by decide +kernel
theorem dX8_door_89 : decode cX8_door 89 = .ok (.aload_n 0, 1) := by decide +kernel
theorem dX8_door_90 : decode cX8_door 90 = .ok (.getfield 93, 3) := by decide +kernel
theorem dX8_door_93 : decode cX8_door 93 = .ok (.iconst 1, 1) := by decide +kernel
theorem dX8_door_94 : decode cX8_door 94 = .ok (.isub, 1) := by decide +kernel
theorem dX8_door_95 : decode cX8_door 95 = .ok (.invokevirtual 85, 3) := by decide +kernel
theorem dX8_door_98 : decode cX8_door 98 = .ok (.ireturn, 1) := by decide +kernel
theorem dX8_walker_0 : decode cX8_walker 0 = .ok (.iload_n 1, 1) := by decide +kernel
theorem dX8_walker_1 : decode cX8_walker 1 = .ok (.aload_n 0, 1) := by decide +kernel
theorem dX8_walker_2 : decode cX8_walker 2 = .ok (.getfield 82, 3) := by decide +kernel
theorem dX8_walker_5 : decode cX8_walker 5 = .ok (.invokestatic 89, 3) := by decide +kernel
theorem dX8_walker_8 : decode cX8_walker 8 = .ok (.ifCond .ne 6, 3) := by decide +kernel
theorem dX8_walker_11 : decode cX8_walker 11 = .ok (.bipush (-2), 2) := by decide +kernel
theorem dX8_walker_13 : decode cX8_walker 13 = .ok (.ireturn, 1) := by decide +kernel
theorem dX8_walker_14 : decode cX8_walker 14 = .ok (.aload_n 0, 1) := by decide +kernel
theorem dX8_walker_15 : decode cX8_walker 15 = .ok (.getfield 96, 3) := by decide +kernel
theorem dX8_walker_18 : decode cX8_walker 18 = .ok (.iconst 4, 1) := by decide +kernel
theorem dX8_walker_19 : decode cX8_walker 19 = .ok (.if_icmp .ne 6, 3) := by decide +kernel
theorem dX8_walker_22 : decode cX8_walker 22 = .ok (.bipush (-5), 2) := by decide +kernel
theorem dX8_walker_24 : decode cX8_walker 24 = .ok (.ireturn, 1) := by decide +kernel
theorem dX8_walker_25 : decode cX8_walker 25 = .ok (.aload_n 0, 1) := by decide +kernel
theorem dX8_walker_26 : decode cX8_walker 26 = .ok (.getfield 7, 3) := by decide +kernel
theorem dX8_walker_29 : decode cX8_walker 29 = .ok (.bipush 27, 2) := by decide +kernel
theorem dX8_walker_31 : decode cX8_walker 31 = .ok (.aload_n 0, 1) := by decide +kernel
theorem dX8_walker_32 : decode cX8_walker 32 = .ok (.getfield 96, 3) := by decide +kernel
theorem dX8_walker_35 : decode cX8_walker 35 = .ok (.iadd, 1) := by decide +kernel
theorem dX8_walker_36 : decode cX8_walker 36 = .ok (.iload_n 1, 1) := by decide +kernel
theorem dX8_walker_37 : decode cX8_walker 37 = .ok (.iastore, 1) := by decide +kernel
theorem dX8_walker_38 : decode cX8_walker 38 = .ok (.aload_n 0, 1) := by decide +kernel
theorem dX8_walker_39 : decode cX8_walker 39 = .ok (.getfield 7, 3) := by decide +kernel
theorem dX8_walker_42 : decode cX8_walker 42 = .ok (.bipush 31, 2) := by decide +kernel
theorem dX8_walker_44 : decode cX8_walker 44 = .ok (.aload_n 0, 1) := by decide +kernel
theorem dX8_walker_45 : decode cX8_walker 45 = .ok (.getfield 96, 3) := by decide +kernel
theorem dX8_walker_48 : decode cX8_walker 48 = .ok (.iadd, 1) := by decide +kernel
theorem dX8_walker_49 : decode cX8_walker 49 = .ok (.iconst (-1), 1) := by decide +kernel
theorem dX8_walker_50 : decode cX8_walker 50 = .ok (.iastore, 1) := by decide +kernel
theorem dX8_walker_51 : decode cX8_walker 51 = .ok (.aload_n 0, 1) := by decide +kernel
theorem dX8_walker_52 : decode cX8_walker 52 = .ok (.dup, 1) := by decide +kernel
theorem dX8_walker_53 : decode cX8_walker 53 = .ok (.getfield 96, 3) := by decide +kernel
theorem dX8_walker_56 : decode cX8_walker 56 = .ok (.iconst 1, 1) := by decide +kernel
theorem dX8_walker_57 : decode cX8_walker 57 = .ok (.iadd, 1) := by decide +kernel
theorem dX8_walker_58 : decode cX8_walker 58 = .ok (.putfield 96, 3) := by decide +kernel
theorem dX8_walker_61 : decode cX8_walker 61 = .ok (.aload_n 0, 1) := by decide +kernel
theorem dX8_walker_62 : decode cX8_walker 62 = .ok (.aload_n 0, 1) := by decide +kernel
theorem dX8_walker_63 : decode cX8_walker 63 = .ok (.getfield 96, 3) := by decide +kernel
theorem dX8_walker_66 : decode cX8_walker 66 = .ok (.iconst 1, 1) := by decide +kernel
theorem dX8_walker_67 : decode cX8_walker 67 = .ok (.isub, 1) := by decide +kernel
theorem dX8_walker_68 : decode cX8_walker 68 = .ok (.invokevirtual 85, 3) := by decide +kernel
theorem dX8_walker_71 : decode cX8_walker 71 = .ok (.ireturn, 1) := by decide +kernel
theorem dX8_deed_0 : decode cX8_deed 0 = .ok (.iload_n 1, 1) := by decide +kernel
theorem dX8_deed_1 : decode cX8_deed 1 = .ok (.iconst 0, 1) := by decide +kernel
theorem dX8_deed_2 : decode cX8_deed 2 = .ok (.bipush 8, 2) := by decide +kernel
theorem dX8_deed_4 : decode cX8_deed 4 = .ok (.invokestatic 78, 3) := by decide +kernel
theorem dX8_deed_7 : decode cX8_deed 7 = .ok (.istore 4, 2) := by decide +kernel
theorem dX8_deed_9 : decode cX8_deed 9 = .ok (.iload_n 1, 1) := by decide +kernel
theorem dX8_deed_10 : decode cX8_deed 10 = .ok (.ifCond .ne 33, 3) := by decide +kernel
theorem dX8_deed_13 : decode cX8_deed 13 = .ok (.iload_n 2, 1) := by decide +kernel
theorem dX8_deed_14 : decode cX8_deed 14 = .ok (.iconst 0, 1) := by decide +kernel
theorem dX8_deed_15 : decode cX8_deed 15 = .ok (.bipush 7, 2) := by decide +kernel
theorem dX8_deed_17 : decode cX8_deed 17 = .ok (.invokestatic 78, 3) := by decide +kernel
theorem dX8_deed_20 : decode cX8_deed 20 = .ok (.ifCond .eq 20, 3) := by decide +kernel
theorem dX8_deed_23 : decode cX8_deed 23 = .ok (.iload_n 3, 1) := by decide +kernel
theorem dX8_deed_24 : decode cX8_deed 24 = .ok (.sipush (-1000), 3) := by decide +kernel
theorem dX8_deed_27 : decode cX8_deed 27 = .ok (.sipush 1000, 3) := by decide +kernel
theorem dX8_deed_30 : decode cX8_deed 30 = .ok (.invokestatic 78, 3) := by decide +kernel
theorem dX8_deed_33 : decode cX8_deed 33 = .ok (.ifCond .eq 7, 3) := by decide +kernel
theorem dX8_deed_36 : decode cX8_deed 36 = .ok (.iconst 1, 1) := by decide +kernel
theorem dX8_deed_37 : decode cX8_deed 37 = .ok (.goto 4, 3) := by decide +kernel
theorem dX8_deed_40 : decode cX8_deed 40 = .ok (.iconst 0, 1) := by decide +kernel
theorem dX8_deed_41 : decode cX8_deed 41 = .ok (.istore 4, 2) := by decide +kernel
theorem dX8_deed_43 : decode cX8_deed 43 = .ok (.iload_n 1, 1) := by decide +kernel
theorem dX8_deed_44 : decode cX8_deed 44 = .ok (.bipush 8, 2) := by decide +kernel
theorem dX8_deed_46 : decode cX8_deed 46 = .ok (.if_icmp .ne 13, 3) := by decide +kernel
theorem dX8_deed_49 : decode cX8_deed 49 = .ok (.iload_n 3, 1) := by decide +kernel
theorem dX8_deed_50 : decode cX8_deed 50 = .ok (.iconst 1, 1) := by decide +kernel
theorem dX8_deed_51 : decode cX8_deed 51 = .ok (.sipush 600, 3) := by decide +kernel
theorem dX8_deed_54 : decode cX8_deed 54 = .ok (.invokestatic 78, 3) := by decide +kernel
theorem dX8_deed_57 : decode cX8_deed 57 = .ok (.istore 4, 2) := by decide +kernel
theorem dX8_deed_59 : decode cX8_deed 59 = .ok (.iload 4, 2) := by decide +kernel
theorem dX8_deed_61 : decode cX8_deed 61 = .ok (.ifCond .ne 6, 3) := by decide +kernel
theorem dX8_deed_64 : decode cX8_deed 64 = .ok (.bipush (-3), 2) := by decide +kernel
theorem dX8_deed_66 : decode cX8_deed 66 = .ok (.ireturn, 1) := by decide +kernel
theorem dX8_deed_67 : decode cX8_deed 67 = .ok (.aload_n 0, 1) := by decide +kernel
theorem dX8_deed_68 : decode cX8_deed 68 = .ok (.getfield 99, 3) := by decide +kernel
theorem dX8_deed_71 : decode cX8_deed 71 = .ok (.bipush 40, 2) := by decide +kernel
theorem dX8_deed_73 : decode cX8_deed 73 = .ok (.if_icmp .ne 6, 3) := by decide +kernel
theorem dX8_deed_76 : decode cX8_deed 76 = .ok (.bipush (-5), 2) := by decide +kernel
theorem dX8_deed_78 : decode cX8_deed 78 = .ok (.ireturn, 1) := by decide +kernel
theorem dX8_deed_79 : decode cX8_deed 79 = .ok (.aload_n 0, 1) := by decide +kernel
theorem dX8_deed_80 : decode cX8_deed 80 = .ok (.getfield 26, 3) := by decide +kernel
theorem dX8_deed_83 : decode cX8_deed 83 = .ok (.aload_n 0, 1) := by decide +kernel
theorem dX8_deed_84 : decode cX8_deed 84 = .ok (.getfield 99, 3) := by decide +kernel
theorem dX8_deed_87 : decode cX8_deed 87 = .ok (.iload_n 1, 1) := by decide +kernel
theorem dX8_deed_88 : decode cX8_deed 88 = .ok (.iastore, 1) := by decide +kernel
theorem dX8_deed_89 : decode cX8_deed 89 = .ok (.aload_n 0, 1) := by decide +kernel
theorem dX8_deed_90 : decode cX8_deed 90 = .ok (.getfield 29, 3) := by decide +kernel
theorem dX8_deed_93 : decode cX8_deed 93 = .ok (.aload_n 0, 1) := by decide +kernel
theorem dX8_deed_94 : decode cX8_deed 94 = .ok (.getfield 99, 3) := by decide +kernel
theorem dX8_deed_97 : decode cX8_deed 97 = .ok (.iload_n 2, 1) := by decide +kernel
theorem dX8_deed_98 : decode cX8_deed 98 = .ok (.iastore, 1) := by decide +kernel
theorem dX8_deed_99 : decode cX8_deed 99 = .ok (.aload_n 0, 1) := by decide +kernel
theorem dX8_deed_100 : decode cX8_deed 100 = .ok (.getfield 32, 3) := by decide +kernel
theorem dX8_deed_103 : decode cX8_deed 103 = .ok (.aload_n 0, 1) := by decide +kernel
theorem dX8_deed_104 : decode cX8_deed 104 = .ok (.getfield 99, 3) := by decide +kernel
theorem dX8_deed_107 : decode cX8_deed 107 = .ok (.iload_n 3, 1) := by decide +kernel
theorem dX8_deed_108 : decode cX8_deed 108 = .ok (.iastore, 1) := by decide +kernel
theorem dX8_deed_109 : decode cX8_deed 109 = .ok (.aload_n 0, 1) := by decide +kernel
theorem dX8_deed_110 : decode cX8_deed 110 = .ok (.getfield 35, 3) := by decide +kernel
theorem dX8_deed_113 : decode cX8_deed 113 = .ok (.aload_n 0, 1) := by decide +kernel
theorem dX8_deed_114 : decode cX8_deed 114 = .ok (.getfield 99, 3) := by decide +kernel
theorem dX8_deed_117 : decode cX8_deed 117 = .ok (.iconst (-1), 1) := by decide +kernel
theorem dX8_deed_118 : decode cX8_deed 118 = .ok (.iastore, 1) := by decide +kernel
theorem dX8_deed_119 : decode cX8_deed 119 = .ok (.aload_n 0, 1) := by decide +kernel
theorem dX8_deed_120 : decode cX8_deed 120 = .ok (.dup, 1) := by decide +kernel
theorem dX8_deed_121 : decode cX8_deed 121 = .ok (.getfield 99, 3) := by decide +kernel
theorem dX8_deed_124 : decode cX8_deed 124 = .ok (.iconst 1, 1) := by decide +kernel
theorem dX8_deed_125 : decode cX8_deed 125 = .ok (.iadd, 1) := by decide +kernel
theorem dX8_deed_126 : decode cX8_deed 126 = .ok (.putfield 99, 3) := by decide +kernel
theorem dX8_deed_129 : decode cX8_deed 129 = .ok (.aload_n 0, 1) := by decide +kernel
theorem dX8_deed_130 : decode cX8_deed 130 = .ok (.aload_n 0, 1) := by decide +kernel
theorem dX8_deed_131 : decode cX8_deed 131 = .ok (.getfield 99, 3) := by decide +kernel
theorem dX8_deed_134 : decode cX8_deed 134 = .ok (.iconst 1, 1) := by decide +kernel
theorem dX8_deed_135 : decode cX8_deed 135 = .ok (.isub, 1) := by decide +kernel
theorem dX8_deed_136 : decode cX8_deed 136 = .ok (.invokevirtual 85, 3) := by decide +kernel
theorem dX8_deed_139 : decode cX8_deed 139 = .ok (.ireturn, 1) := by decide +kernel
theorem dX8_condition_0 : decode cX8_condition 0 = .ok (.iload_n 1, 1) := by decide +kernel
theorem dX8_condition_1 : decode cX8_condition 1 = .ok (.aload_n 0, 1) := by decide +kernel
theorem dX8_condition_2 : decode cX8_condition 2 = .ok (.getfield 99, 3) := by decide +kernel
theorem dX8_condition_5 : decode cX8_condition 5 = .ok (.invokestatic 89, 3) := by decide +kernel
theorem dX8_condition_8 : decode cX8_condition 8 = .ok (.ifCond .ne 6, 3) := by decide +kernel
theorem dX8_condition_11 : decode cX8_condition 11 = .ok (.bipush (-2), 2) := by decide +kernel
theorem dX8_condition_13 : decode cX8_condition 13 = .ok (.ireturn, 1) := by decide +kernel
theorem dX8_condition_14 : decode cX8_condition 14 = .ok (.iload_n 2, 1) := by decide +kernel
theorem dX8_condition_15 : decode cX8_condition 15 = .ok (.iconst (-1), 1) := by decide +kernel
theorem dX8_condition_16 : decode cX8_condition 16 = .ok (.bipush 7, 2) := by decide +kernel
theorem dX8_condition_18 : decode cX8_condition 18 = .ok (.invokestatic 78, 3) := by decide +kernel
theorem dX8_condition_21 : decode cX8_condition 21 = .ok (.ifCond .eq 16, 3) := by decide +kernel
theorem dX8_condition_24 : decode cX8_condition 24 = .ok (.iload_n 3, 1) := by decide +kernel
theorem dX8_condition_25 : decode cX8_condition 25 = .ok (.sipush (-1000), 3) := by decide +kernel
theorem dX8_condition_28 : decode cX8_condition 28 = .ok (.sipush 1000, 3) := by decide +kernel
theorem dX8_condition_31 : decode cX8_condition 31 = .ok (.invokestatic 78, 3) := by decide +kernel
theorem dX8_condition_34 : decode cX8_condition 34 = .ok (.ifCond .ne 6, 3) := by decide +kernel
theorem dX8_condition_37 : decode cX8_condition 37 = .ok (.bipush (-3), 2) := by decide +kernel
theorem dX8_condition_39 : decode cX8_condition 39 = .ok (.ireturn, 1) := by decide +kernel
theorem dX8_condition_40 : decode cX8_condition 40 = .ok (.aload_n 0, 1) := by decide +kernel
theorem dX8_condition_41 : decode cX8_condition 41 = .ok (.getfield 35, 3) := by decide +kernel
theorem dX8_condition_44 : decode cX8_condition 44 = .ok (.iload_n 1, 1) := by decide +kernel
theorem dX8_condition_45 : decode cX8_condition 45 = .ok (.iload_n 2, 1) := by decide +kernel
theorem dX8_condition_46 : decode cX8_condition 46 = .ok (.iastore, 1) := by decide +kernel
theorem dX8_condition_47 : decode cX8_condition 47 = .ok (.aload_n 0, 1) := by decide +kernel
theorem dX8_condition_48 : decode cX8_condition 48 = .ok (.getfield 38, 3) := by decide +kernel
theorem dX8_condition_51 : decode cX8_condition 51 = .ok (.iload_n 1, 1) := by decide +kernel
theorem dX8_condition_52 : decode cX8_condition 52 = .ok (.iload_n 3, 1) := by decide +kernel
theorem dX8_condition_53 : decode cX8_condition 53 = .ok (.iastore, 1) := by decide +kernel
theorem dX8_condition_54 : decode cX8_condition 54 = .ok (.aload_n 0, 1) := by decide +kernel
theorem dX8_condition_55 : decode cX8_condition 55 = .ok (.iconst 1, 1) := by decide +kernel
theorem dX8_condition_56 : decode cX8_condition 56 = .ok (.invokevirtual 85, 3) := by decide +kernel
theorem dX8_condition_59 : decode cX8_condition 59 = .ok (.ireturn, 1) := by decide +kernel
theorem dX8_event_0 : decode cX8_event 0 = .ok (.iload_n 1, 1) := by decide +kernel
theorem dX8_event_1 : decode cX8_event 1 = .ok (.aload_n 0, 1) := by decide +kernel
theorem dX8_event_2 : decode cX8_event 2 = .ok (.getfield 99, 3) := by decide +kernel
theorem dX8_event_5 : decode cX8_event 5 = .ok (.invokestatic 89, 3) := by decide +kernel
theorem dX8_event_8 : decode cX8_event 8 = .ok (.ifCond .ne 6, 3) := by decide +kernel
theorem dX8_event_11 : decode cX8_event 11 = .ok (.bipush (-2), 2) := by decide +kernel
theorem dX8_event_13 : decode cX8_event 13 = .ok (.ireturn, 1) := by decide +kernel
theorem dX8_event_14 : decode cX8_event 14 = .ok (.iload_n 2, 1) := by decide +kernel
theorem dX8_event_15 : decode cX8_event 15 = .ok (.iconst 0, 1) := by decide +kernel
theorem dX8_event_16 : decode cX8_event 16 = .ok (.sipush 1439, 3) := by decide +kernel
theorem dX8_event_19 : decode cX8_event 19 = .ok (.invokestatic 78, 3) := by decide +kernel
theorem dX8_event_22 : decode cX8_event 22 = .ok (.ifCond .ne 6, 3) := by decide +kernel
theorem dX8_event_25 : decode cX8_event 25 = .ok (.bipush (-3), 2) := by decide +kernel
theorem dX8_event_27 : decode cX8_event 27 = .ok (.ireturn, 1) := by decide +kernel
theorem dX8_event_28 : decode cX8_event 28 = .ok (.aload_n 0, 1) := by decide +kernel
theorem dX8_event_29 : decode cX8_event 29 = .ok (.getfield 102, 3) := by decide +kernel
theorem dX8_event_32 : decode cX8_event 32 = .ok (.bipush 12, 2) := by decide +kernel
theorem dX8_event_34 : decode cX8_event 34 = .ok (.if_icmp .ne 6, 3) := by decide +kernel
theorem dX8_event_37 : decode cX8_event 37 = .ok (.bipush (-5), 2) := by decide +kernel
theorem dX8_event_39 : decode cX8_event 39 = .ok (.ireturn, 1) := by decide +kernel
theorem dX8_event_40 : decode cX8_event 40 = .ok (.aload_n 0, 1) := by decide +kernel
theorem dX8_event_41 : decode cX8_event 41 = .ok (.getfield 41, 3) := by decide +kernel
theorem dX8_event_44 : decode cX8_event 44 = .ok (.aload_n 0, 1) := by decide +kernel
theorem dX8_event_45 : decode cX8_event 45 = .ok (.getfield 102, 3) := by decide +kernel
theorem dX8_event_48 : decode cX8_event 48 = .ok (.iload_n 1, 1) := by decide +kernel
theorem dX8_event_49 : decode cX8_event 49 = .ok (.iastore, 1) := by decide +kernel
theorem dX8_event_50 : decode cX8_event 50 = .ok (.aload_n 0, 1) := by decide +kernel
theorem dX8_event_51 : decode cX8_event 51 = .ok (.getfield 44, 3) := by decide +kernel
theorem dX8_event_54 : decode cX8_event 54 = .ok (.aload_n 0, 1) := by decide +kernel
theorem dX8_event_55 : decode cX8_event 55 = .ok (.getfield 102, 3) := by decide +kernel
theorem dX8_event_58 : decode cX8_event 58 = .ok (.iload_n 2, 1) := by decide +kernel
theorem dX8_event_59 : decode cX8_event 59 = .ok (.iastore, 1) := by decide +kernel
theorem dX8_event_60 : decode cX8_event 60 = .ok (.aload_n 0, 1) := by decide +kernel
theorem dX8_event_61 : decode cX8_event 61 = .ok (.getfield 47, 3) := by decide +kernel
theorem dX8_event_64 : decode cX8_event 64 = .ok (.aload_n 0, 1) := by decide +kernel
theorem dX8_event_65 : decode cX8_event 65 = .ok (.getfield 102, 3) := by decide +kernel
theorem dX8_event_68 : decode cX8_event 68 = .ok (.iload_n 3, 1) := by decide +kernel
theorem dX8_event_69 : decode cX8_event 69 = .ok (.bastore, 1) := by decide +kernel
theorem dX8_event_70 : decode cX8_event 70 = .ok (.aload_n 0, 1) := by decide +kernel
theorem dX8_event_71 : decode cX8_event 71 = .ok (.getfield 7, 3) := by decide +kernel
theorem dX8_event_74 : decode cX8_event 74 = .ok (.bipush 35, 2) := by decide +kernel
theorem dX8_event_76 : decode cX8_event 76 = .ok (.aload_n 0, 1) := by decide +kernel
theorem dX8_event_77 : decode cX8_event 77 = .ok (.getfield 102, 3) := by decide +kernel
theorem dX8_event_80 : decode cX8_event 80 = .ok (.iadd, 1) := by decide +kernel
theorem dX8_event_81 : decode cX8_event 81 = .ok (.iconst 0, 1) := by decide +kernel
theorem dX8_event_82 : decode cX8_event 82 = .ok (.iastore, 1) := by decide +kernel
theorem dX8_event_83 : decode cX8_event 83 = .ok (.aload_n 0, 1) := by decide +kernel
theorem dX8_event_84 : decode cX8_event 84 = .ok (.dup, 1) := by decide +kernel
theorem dX8_event_85 : decode cX8_event 85 = .ok (.getfield 102, 3) := by decide +kernel
theorem dX8_event_88 : decode cX8_event 88 = .ok (.iconst 1, 1) := by decide +kernel
theorem dX8_event_89 : decode cX8_event 89 = .ok (.iadd, 1) := by decide +kernel
theorem dX8_event_90 : decode cX8_event 90 = .ok (.putfield 102, 3) := by decide +kernel
theorem dX8_event_93 : decode cX8_event 93 = .ok (.aload_n 0, 1) := by decide +kernel
theorem dX8_event_94 : decode cX8_event 94 = .ok (.aload_n 0, 1) := by decide +kernel
theorem dX8_event_95 : decode cX8_event 95 = .ok (.getfield 102, 3) := by decide +kernel
theorem dX8_event_98 : decode cX8_event 98 = .ok (.iconst 1, 1) := by decide +kernel
theorem dX8_event_99 : decode cX8_event 99 = .ok (.isub, 1) := by decide +kernel
theorem dX8_event_100 : decode cX8_event 100 = .ok (.invokevirtual 85, 3) := by decide +kernel
theorem dX8_event_103 : decode cX8_event 103 = .ok (.ireturn, 1) := by decide +kernel
theorem dX8_timer_0 : decode cX8_timer 0 = .ok (.iload_n 1, 1) := by decide +kernel
theorem dX8_timer_1 : decode cX8_timer 1 = .ok (.aload_n 0, 1) := by decide +kernel
theorem dX8_timer_2 : decode cX8_timer 2 = .ok (.getfield 99, 3) := by decide +kernel
theorem dX8_timer_5 : decode cX8_timer 5 = .ok (.invokestatic 89, 3) := by decide +kernel
theorem dX8_timer_8 : decode cX8_timer 8 = .ok (.ifCond .ne 6, 3) := by decide +kernel
theorem dX8_timer_11 : decode cX8_timer 11 = .ok (.bipush (-2), 2) := by decide +kernel
theorem dX8_timer_13 : decode cX8_timer 13 = .ok (.ireturn, 1) := by decide +kernel
theorem dX8_timer_14 : decode cX8_timer 14 = .ok (.iload_n 2, 1) := by decide +kernel
theorem dX8_timer_15 : decode cX8_timer 15 = .ok (.iconst 1, 1) := by decide +kernel
theorem dX8_timer_16 : decode cX8_timer 16 = .ok (.bipush 50, 2) := by decide +kernel
theorem dX8_timer_18 : decode cX8_timer 18 = .ok (.invokestatic 78, 3) := by decide +kernel
theorem dX8_timer_21 : decode cX8_timer 21 = .ok (.ifCond .ne 6, 3) := by decide +kernel
theorem dX8_timer_24 : decode cX8_timer 24 = .ok (.bipush (-3), 2) := by decide +kernel
theorem dX8_timer_26 : decode cX8_timer 26 = .ok (.ireturn, 1) := by decide +kernel
theorem dX8_timer_27 : decode cX8_timer 27 = .ok (.aload_n 0, 1) := by decide +kernel
theorem dX8_timer_28 : decode cX8_timer 28 = .ok (.getfield 105, 3) := by decide +kernel
theorem dX8_timer_31 : decode cX8_timer 31 = .ok (.bipush 12, 2) := by decide +kernel
theorem dX8_timer_33 : decode cX8_timer 33 = .ok (.if_icmp .ne 6, 3) := by decide +kernel
theorem dX8_timer_36 : decode cX8_timer 36 = .ok (.bipush (-5), 2) := by decide +kernel
theorem dX8_timer_38 : decode cX8_timer 38 = .ok (.ireturn, 1) := by decide +kernel
theorem dX8_timer_39 : decode cX8_timer 39 = .ok (.aload_n 0, 1) := by decide +kernel
theorem dX8_timer_40 : decode cX8_timer 40 = .ok (.getfield 51, 3) := by decide +kernel
theorem dX8_timer_43 : decode cX8_timer 43 = .ok (.aload_n 0, 1) := by decide +kernel
theorem dX8_timer_44 : decode cX8_timer 44 = .ok (.getfield 105, 3) := by decide +kernel
theorem dX8_timer_47 : decode cX8_timer 47 = .ok (.iload_n 1, 1) := by decide +kernel
theorem dX8_timer_48 : decode cX8_timer 48 = .ok (.iastore, 1) := by decide +kernel
theorem dX8_timer_49 : decode cX8_timer 49 = .ok (.aload_n 0, 1) := by decide +kernel
theorem dX8_timer_50 : decode cX8_timer 50 = .ok (.getfield 54, 3) := by decide +kernel
theorem dX8_timer_53 : decode cX8_timer 53 = .ok (.aload_n 0, 1) := by decide +kernel
theorem dX8_timer_54 : decode cX8_timer 54 = .ok (.getfield 105, 3) := by decide +kernel
theorem dX8_timer_57 : decode cX8_timer 57 = .ok (.iload_n 2, 1) := by decide +kernel
theorem dX8_timer_58 : decode cX8_timer 58 = .ok (.iastore, 1) := by decide +kernel
theorem dX8_timer_59 : decode cX8_timer 59 = .ok (.aload_n 0, 1) := by decide +kernel
theorem dX8_timer_60 : decode cX8_timer 60 = .ok (.getfield 57, 3) := by decide +kernel
theorem dX8_timer_63 : decode cX8_timer 63 = .ok (.aload_n 0, 1) := by decide +kernel
theorem dX8_timer_64 : decode cX8_timer 64 = .ok (.getfield 105, 3) := by decide +kernel
theorem dX8_timer_67 : decode cX8_timer 67 = .ok (.iload_n 3, 1) := by decide +kernel
theorem dX8_timer_68 : decode cX8_timer 68 = .ok (.bastore, 1) := by decide +kernel
theorem dX8_timer_69 : decode cX8_timer 69 = .ok (.aload_n 0, 1) := by decide +kernel
theorem dX8_timer_70 : decode cX8_timer 70 = .ok (.getfield 7, 3) := by decide +kernel
theorem dX8_timer_73 : decode cX8_timer 73 = .ok (.bipush 47, 2) := by decide +kernel
theorem dX8_timer_75 : decode cX8_timer 75 = .ok (.aload_n 0, 1) := by decide +kernel
theorem dX8_timer_76 : decode cX8_timer 76 = .ok (.getfield 105, 3) := by decide +kernel
theorem dX8_timer_79 : decode cX8_timer 79 = .ok (.iadd, 1) := by decide +kernel
theorem dX8_timer_80 : decode cX8_timer 80 = .ok (.iconst 0, 1) := by decide +kernel
theorem dX8_timer_81 : decode cX8_timer 81 = .ok (.iastore, 1) := by decide +kernel
theorem dX8_timer_82 : decode cX8_timer 82 = .ok (.aload_n 0, 1) := by decide +kernel
theorem dX8_timer_83 : decode cX8_timer 83 = .ok (.dup, 1) := by decide +kernel
theorem dX8_timer_84 : decode cX8_timer 84 = .ok (.getfield 105, 3) := by decide +kernel
theorem dX8_timer_87 : decode cX8_timer 87 = .ok (.iconst 1, 1) := by decide +kernel
theorem dX8_timer_88 : decode cX8_timer 88 = .ok (.iadd, 1) := by decide +kernel
theorem dX8_timer_89 : decode cX8_timer 89 = .ok (.putfield 105, 3) := by decide +kernel
theorem dX8_timer_92 : decode cX8_timer 92 = .ok (.aload_n 0, 1) := by decide +kernel
theorem dX8_timer_93 : decode cX8_timer 93 = .ok (.aload_n 0, 1) := by decide +kernel
theorem dX8_timer_94 : decode cX8_timer 94 = .ok (.getfield 105, 3) := by decide +kernel
theorem dX8_timer_97 : decode cX8_timer 97 = .ok (.iconst 1, 1) := by decide +kernel
theorem dX8_timer_98 : decode cX8_timer 98 = .ok (.isub, 1) := by decide +kernel
theorem dX8_timer_99 : decode cX8_timer 99 = .ok (.invokevirtual 85, 3) := by decide +kernel
theorem dX8_timer_102 : decode cX8_timer 102 = .ok (.ireturn, 1) := by decide +kernel
theorem dX8_daemon_0 : decode cX8_daemon 0 = .ok (.iload_n 1, 1) := by decide +kernel
theorem dX8_daemon_1 : decode cX8_daemon 1 = .ok (.aload_n 0, 1) := by decide +kernel
theorem dX8_daemon_2 : decode cX8_daemon 2 = .ok (.getfield 99, 3) := by decide +kernel
theorem dX8_daemon_5 : decode cX8_daemon 5 = .ok (.invokestatic 89, 3) := by decide +kernel
theorem dX8_daemon_8 : decode cX8_daemon 8 = .ok (.ifCond .ne 6, 3) := by decide +kernel
theorem dX8_daemon_11 : decode cX8_daemon 11 = .ok (.bipush (-2), 2) := by decide +kernel
theorem dX8_daemon_13 : decode cX8_daemon 13 = .ok (.ireturn, 1) := by decide +kernel
theorem dX8_daemon_14 : decode cX8_daemon 14 = .ok (.iload_n 2, 1) := by decide +kernel
theorem dX8_daemon_15 : decode cX8_daemon 15 = .ok (.iconst 0, 1) := by decide +kernel
theorem dX8_daemon_16 : decode cX8_daemon 16 = .ok (.bipush 9, 2) := by decide +kernel
theorem dX8_daemon_18 : decode cX8_daemon 18 = .ok (.invokestatic 78, 3) := by decide +kernel
theorem dX8_daemon_21 : decode cX8_daemon 21 = .ok (.ifCond .ne 6, 3) := by decide +kernel
theorem dX8_daemon_24 : decode cX8_daemon 24 = .ok (.bipush (-3), 2) := by decide +kernel
theorem dX8_daemon_26 : decode cX8_daemon 26 = .ok (.ireturn, 1) := by decide +kernel
theorem dX8_daemon_27 : decode cX8_daemon 27 = .ok (.aload_n 0, 1) := by decide +kernel
theorem dX8_daemon_28 : decode cX8_daemon 28 = .ok (.getfield 108, 3) := by decide +kernel
theorem dX8_daemon_31 : decode cX8_daemon 31 = .ok (.bipush 12, 2) := by decide +kernel
theorem dX8_daemon_33 : decode cX8_daemon 33 = .ok (.if_icmp .ne 6, 3) := by decide +kernel
theorem dX8_daemon_36 : decode cX8_daemon 36 = .ok (.bipush (-5), 2) := by decide +kernel
theorem dX8_daemon_38 : decode cX8_daemon 38 = .ok (.ireturn, 1) := by decide +kernel
theorem dX8_daemon_39 : decode cX8_daemon 39 = .ok (.aload_n 0, 1) := by decide +kernel
theorem dX8_daemon_40 : decode cX8_daemon 40 = .ok (.getfield 60, 3) := by decide +kernel
theorem dX8_daemon_43 : decode cX8_daemon 43 = .ok (.aload_n 0, 1) := by decide +kernel
theorem dX8_daemon_44 : decode cX8_daemon 44 = .ok (.getfield 108, 3) := by decide +kernel
theorem dX8_daemon_47 : decode cX8_daemon 47 = .ok (.iload_n 1, 1) := by decide +kernel
theorem dX8_daemon_48 : decode cX8_daemon 48 = .ok (.iastore, 1) := by decide +kernel
theorem dX8_daemon_49 : decode cX8_daemon 49 = .ok (.aload_n 0, 1) := by decide +kernel
theorem dX8_daemon_50 : decode cX8_daemon 50 = .ok (.getfield 63, 3) := by decide +kernel
theorem dX8_daemon_53 : decode cX8_daemon 53 = .ok (.aload_n 0, 1) := by decide +kernel
theorem dX8_daemon_54 : decode cX8_daemon 54 = .ok (.getfield 108, 3) := by decide +kernel
theorem dX8_daemon_57 : decode cX8_daemon 57 = .ok (.iload_n 2, 1) := by decide +kernel
theorem dX8_daemon_58 : decode cX8_daemon 58 = .ok (.iastore, 1) := by decide +kernel
theorem dX8_daemon_59 : decode cX8_daemon 59 = .ok (.aload_n 0, 1) := by decide +kernel
theorem dX8_daemon_60 : decode cX8_daemon 60 = .ok (.getfield 7, 3) := by decide +kernel
theorem dX8_daemon_63 : decode cX8_daemon 63 = .ok (.bipush 59, 2) := by decide +kernel
theorem dX8_daemon_65 : decode cX8_daemon 65 = .ok (.aload_n 0, 1) := by decide +kernel
theorem dX8_daemon_66 : decode cX8_daemon 66 = .ok (.getfield 108, 3) := by decide +kernel
theorem dX8_daemon_69 : decode cX8_daemon 69 = .ok (.iadd, 1) := by decide +kernel
theorem dX8_daemon_70 : decode cX8_daemon 70 = .ok (.iconst 0, 1) := by decide +kernel
theorem dX8_daemon_71 : decode cX8_daemon 71 = .ok (.iastore, 1) := by decide +kernel
theorem dX8_daemon_72 : decode cX8_daemon 72 = .ok (.aload_n 0, 1) := by decide +kernel
theorem dX8_daemon_73 : decode cX8_daemon 73 = .ok (.dup, 1) := by decide +kernel
theorem dX8_daemon_74 : decode cX8_daemon 74 = .ok (.getfield 108, 3) := by decide +kernel
theorem dX8_daemon_77 : decode cX8_daemon 77 = .ok (.iconst 1, 1) := by decide +kernel
theorem dX8_daemon_78 : decode cX8_daemon 78 = .ok (.iadd, 1) := by decide +kernel
theorem dX8_daemon_79 : decode cX8_daemon 79 = .ok (.putfield 108, 3) := by decide +kernel
theorem dX8_daemon_82 : decode cX8_daemon 82 = .ok (.aload_n 0, 1) := by decide +kernel
theorem dX8_daemon_83 : decode cX8_daemon 83 = .ok (.aload_n 0, 1) := by decide +kernel
theorem dX8_daemon_84 : decode cX8_daemon 84 = .ok (.getfield 108, 3) := by decide +kernel
theorem dX8_daemon_87 : decode cX8_daemon 87 = .ok (.iconst 1, 1) := by decide +kernel
theorem dX8_daemon_88 : decode cX8_daemon 88 = .ok (.isub, 1) := by decide +kernel
theorem dX8_daemon_89 : decode cX8_daemon 89 = .ok (.invokevirtual 85, 3) := by decide +kernel
theorem dX8_daemon_92 : decode cX8_daemon 92 = .ok (.ireturn, 1) := by decide +kernel
theorem dX8_bound_0 : decode cX8_bound 0 = .ok (.iload_n 0, 1) := by decide +kernel
theorem dX8_bound_1 : decode cX8_bound 1 = .ok (.iload_n 1, 1) := by decide +kernel
theorem dX8_bound_2 : decode cX8_bound 2 = .ok (.if_icmp .ge 7, 3) := by decide +kernel
theorem dX8_bound_5 : decode cX8_bound 5 = .ok (.iload_n 1, 1) := by decide +kernel
theorem dX8_bound_6 : decode cX8_bound 6 = .ok (.goto 13, 3) := by decide +kernel
theorem dX8_bound_9 : decode cX8_bound 9 = .ok (.iload_n 0, 1) := by decide +kernel
theorem dX8_bound_10 : decode cX8_bound 10 = .ok (.iload_n 2, 1) := by decide +kernel
theorem dX8_bound_11 : decode cX8_bound 11 = .ok (.if_icmp .le 7, 3) := by decide +kernel
theorem dX8_bound_14 : decode cX8_bound 14 = .ok (.iload_n 2, 1) := by decide +kernel
theorem dX8_bound_15 : decode cX8_bound 15 = .ok (.goto 4, 3) := by decide +kernel
theorem dX8_bound_18 : decode cX8_bound 18 = .ok (.iload_n 0, 1) := by decide +kernel
theorem dX8_bound_19 : decode cX8_bound 19 = .ok (.ireturn, 1) := by decide +kernel
theorem dX8_holds_0 : decode cX8_holds 0 = .ok (.aload_n 0, 1) := by decide +kernel
theorem dX8_holds_1 : decode cX8_holds 1 = .ok (.getfield 35, 3) := by decide +kernel
theorem dX8_holds_4 : decode cX8_holds 4 = .ok (.iload_n 1, 1) := by decide +kernel
theorem dX8_holds_5 : decode cX8_holds 5 = .ok (.iaload, 1) := by decide +kernel
theorem dX8_holds_6 : decode cX8_holds 6 = .ok (.iconst (-1), 1) := by decide +kernel
theorem dX8_holds_7 : decode cX8_holds 7 = .ok (.if_icmp .eq 25, 3) := by decide +kernel
theorem dX8_holds_10 : decode cX8_holds 10 = .ok (.aload_n 0, 1) := by decide +kernel
theorem dX8_holds_11 : decode cX8_holds 11 = .ok (.getfield 7, 3) := by decide +kernel
theorem dX8_holds_14 : decode cX8_holds 14 = .ok (.iconst 4, 1) := by decide +kernel
theorem dX8_holds_15 : decode cX8_holds 15 = .ok (.aload_n 0, 1) := by decide +kernel
theorem dX8_holds_16 : decode cX8_holds 16 = .ok (.getfield 35, 3) := by decide +kernel
theorem dX8_holds_19 : decode cX8_holds 19 = .ok (.iload_n 1, 1) := by decide +kernel
theorem dX8_holds_20 : decode cX8_holds 20 = .ok (.iaload, 1) := by decide +kernel
theorem dX8_holds_21 : decode cX8_holds 21 = .ok (.iadd, 1) := by decide +kernel
theorem dX8_holds_22 : decode cX8_holds 22 = .ok (.iaload, 1) := by decide +kernel
theorem dX8_holds_23 : decode cX8_holds 23 = .ok (.aload_n 0, 1) := by decide +kernel
theorem dX8_holds_24 : decode cX8_holds 24 = .ok (.getfield 38, 3) := by decide +kernel
theorem dX8_holds_27 : decode cX8_holds 27 = .ok (.iload_n 1, 1) := by decide +kernel
theorem dX8_holds_28 : decode cX8_holds 28 = .ok (.iaload, 1) := by decide +kernel
theorem dX8_holds_29 : decode cX8_holds 29 = .ok (.if_icmp .lt 7, 3) := by decide +kernel
theorem dX8_holds_32 : decode cX8_holds 32 = .ok (.iconst 1, 1) := by decide +kernel
theorem dX8_holds_33 : decode cX8_holds 33 = .ok (.goto 4, 3) := by decide +kernel
theorem dX8_holds_36 : decode cX8_holds 36 = .ok (.iconst 0, 1) := by decide +kernel
theorem dX8_holds_37 : decode cX8_holds 37 = .ok (.ireturn, 1) := by decide +kernel
theorem dX8_perform_0 : decode cX8_perform 0 = .ok (.aload_n 0, 1) := by decide +kernel
theorem dX8_perform_1 : decode cX8_perform 1 = .ok (.iload_n 1, 1) := by decide +kernel
theorem dX8_perform_2 : decode cX8_perform 2 = .ok (.invokevirtual 111, 3) := by decide +kernel
theorem dX8_perform_5 : decode cX8_perform 5 = .ok (.ifCond .ne 4, 3) := by decide +kernel
theorem dX8_perform_8 : decode cX8_perform 8 = .ok (.return_, 1) := by decide +kernel
theorem dX8_perform_9 : decode cX8_perform 9 = .ok (.aload_n 0, 1) := by decide +kernel
theorem dX8_perform_10 : decode cX8_perform 10 = .ok (.getfield 29, 3) := by decide +kernel
theorem dX8_perform_13 : decode cX8_perform 13 = .ok (.iload_n 1, 1) := by decide +kernel
theorem dX8_perform_14 : decode cX8_perform 14 = .ok (.iaload, 1) := by decide +kernel
theorem dX8_perform_15 : decode cX8_perform 15 = .ok (.istore_n 2, 1) := by decide +kernel
theorem dX8_perform_16 : decode cX8_perform 16 = .ok (.aload_n 0, 1) := by decide +kernel
theorem dX8_perform_17 : decode cX8_perform 17 = .ok (.getfield 32, 3) := by decide +kernel
theorem dX8_perform_20 : decode cX8_perform 20 = .ok (.iload_n 1, 1) := by decide +kernel
theorem dX8_perform_21 : decode cX8_perform 21 = .ok (.iaload, 1) := by decide +kernel
theorem dX8_perform_22 : decode cX8_perform 22 = .ok (.istore_n 3, 1) := by decide +kernel
theorem dX8_perform_23 : decode cX8_perform 23 = .ok (.aload_n 0, 1) := by decide +kernel
theorem dX8_perform_24 : decode cX8_perform 24 = .ok (.getfield 26, 3) := by decide +kernel
theorem dX8_perform_27 : decode cX8_perform 27 = .ok (.iload_n 1, 1) := by decide +kernel
theorem dX8_perform_28 : decode cX8_perform 28 = .ok (.iaload, 1) := by decide +kernel
theorem dX8_perform_29 : decode cX8_perform 29 = .ok (.tableswitch 282 0 7 #[47, 77, 113, 137, 161, 185, 219, 271], 47) := by decide +kernel
theorem dX8_perform_76 : decode cX8_perform 76 = .ok (.aload_n 0, 1) := by decide +kernel
theorem dX8_perform_77 : decode cX8_perform 77 = .ok (.getfield 7, 3) := by decide +kernel
theorem dX8_perform_80 : decode cX8_perform 80 = .ok (.iconst 4, 1) := by decide +kernel
theorem dX8_perform_81 : decode cX8_perform 81 = .ok (.iload_n 2, 1) := by decide +kernel
theorem dX8_perform_82 : decode cX8_perform 82 = .ok (.iadd, 1) := by decide +kernel
theorem dX8_perform_83 : decode cX8_perform 83 = .ok (.aload_n 0, 1) := by decide +kernel
theorem dX8_perform_84 : decode cX8_perform 84 = .ok (.getfield 7, 3) := by decide +kernel
theorem dX8_perform_87 : decode cX8_perform 87 = .ok (.iconst 4, 1) := by decide +kernel
theorem dX8_perform_88 : decode cX8_perform 88 = .ok (.iload_n 2, 1) := by decide +kernel
theorem dX8_perform_89 : decode cX8_perform 89 = .ok (.iadd, 1) := by decide +kernel
theorem dX8_perform_90 : decode cX8_perform 90 = .ok (.iaload, 1) := by decide +kernel
theorem dX8_perform_91 : decode cX8_perform 91 = .ok (.iload_n 3, 1) := by decide +kernel
theorem dX8_perform_92 : decode cX8_perform 92 = .ok (.iadd, 1) := by decide +kernel
theorem dX8_perform_93 : decode cX8_perform 93 = .ok (.sipush (-1000), 3) := by decide +kernel
theorem dX8_perform_96 : decode cX8_perform 96 = .ok (.sipush 1000, 3) := by decide +kernel
theorem dX8_perform_99 : decode cX8_perform 99 = .ok (.invokestatic 115, 3) := by decide +kernel
theorem dX8_perform_102 : decode cX8_perform 102 = .ok (.iastore, 1) := by decide +kernel
theorem dX8_perform_103 : decode cX8_perform 103 = .ok (.goto 229, 3) := by decide +kernel
theorem dX8_perform_106 : decode cX8_perform 106 = .ok (.iload_n 2, 1) := by decide +kernel
theorem dX8_perform_107 : decode cX8_perform 107 = .ok (.aload_n 0, 1) := by decide +kernel
theorem dX8_perform_108 : decode cX8_perform 108 = .ok (.getfield 105, 3) := by decide +kernel
theorem dX8_perform_111 : decode cX8_perform 111 = .ok (.invokestatic 89, 3) := by decide +kernel
theorem dX8_perform_114 : decode cX8_perform 114 = .ok (.ifCond .eq 218, 3) := by decide +kernel
theorem dX8_perform_117 : decode cX8_perform 117 = .ok (.aload_n 0, 1) := by decide +kernel
theorem dX8_perform_118 : decode cX8_perform 118 = .ok (.getfield 7, 3) := by decide +kernel
theorem dX8_perform_121 : decode cX8_perform 121 = .ok (.bipush 47, 2) := by decide +kernel
theorem dX8_perform_123 : decode cX8_perform 123 = .ok (.iload_n 2, 1) := by decide +kernel
theorem dX8_perform_124 : decode cX8_perform 124 = .ok (.iadd, 1) := by decide +kernel
theorem dX8_perform_125 : decode cX8_perform 125 = .ok (.aload_n 0, 1) := by decide +kernel
theorem dX8_perform_126 : decode cX8_perform 126 = .ok (.getfield 54, 3) := by decide +kernel
theorem dX8_perform_129 : decode cX8_perform 129 = .ok (.iload_n 2, 1) := by decide +kernel
theorem dX8_perform_130 : decode cX8_perform 130 = .ok (.iaload, 1) := by decide +kernel
theorem dX8_perform_131 : decode cX8_perform 131 = .ok (.iastore, 1) := by decide +kernel
theorem dX8_perform_132 : decode cX8_perform 132 = .ok (.aload_n 0, 1) := by decide +kernel
theorem dX8_perform_133 : decode cX8_perform 133 = .ok (.getfield 66, 3) := by decide +kernel
theorem dX8_perform_136 : decode cX8_perform 136 = .ok (.iload_n 2, 1) := by decide +kernel
theorem dX8_perform_137 : decode cX8_perform 137 = .ok (.iconst 1, 1) := by decide +kernel
theorem dX8_perform_138 : decode cX8_perform 138 = .ok (.bastore, 1) := by decide +kernel
theorem dX8_perform_139 : decode cX8_perform 139 = .ok (.goto 193, 3) := by decide +kernel
theorem dX8_perform_142 : decode cX8_perform 142 = .ok (.iload_n 2, 1) := by decide +kernel
theorem dX8_perform_143 : decode cX8_perform 143 = .ok (.aload_n 0, 1) := by decide +kernel
theorem dX8_perform_144 : decode cX8_perform 144 = .ok (.getfield 105, 3) := by decide +kernel
theorem dX8_perform_147 : decode cX8_perform 147 = .ok (.invokestatic 89, 3) := by decide +kernel
theorem dX8_perform_150 : decode cX8_perform 150 = .ok (.ifCond .eq 182, 3) := by decide +kernel
theorem dX8_perform_153 : decode cX8_perform 153 = .ok (.aload_n 0, 1) := by decide +kernel
theorem dX8_perform_154 : decode cX8_perform 154 = .ok (.getfield 7, 3) := by decide +kernel
theorem dX8_perform_157 : decode cX8_perform 157 = .ok (.bipush 47, 2) := by decide +kernel
theorem dX8_perform_159 : decode cX8_perform 159 = .ok (.iload_n 2, 1) := by decide +kernel
theorem dX8_perform_160 : decode cX8_perform 160 = .ok (.iadd, 1) := by decide +kernel
theorem dX8_perform_161 : decode cX8_perform 161 = .ok (.iconst 0, 1) := by decide +kernel
theorem dX8_perform_162 : decode cX8_perform 162 = .ok (.iastore, 1) := by decide +kernel
theorem dX8_perform_163 : decode cX8_perform 163 = .ok (.goto 169, 3) := by decide +kernel
theorem dX8_perform_166 : decode cX8_perform 166 = .ok (.iload_n 2, 1) := by decide +kernel
theorem dX8_perform_167 : decode cX8_perform 167 = .ok (.aload_n 0, 1) := by decide +kernel
theorem dX8_perform_168 : decode cX8_perform 168 = .ok (.getfield 108, 3) := by decide +kernel
theorem dX8_perform_171 : decode cX8_perform 171 = .ok (.invokestatic 89, 3) := by decide +kernel
theorem dX8_perform_174 : decode cX8_perform 174 = .ok (.ifCond .eq 158, 3) := by decide +kernel
theorem dX8_perform_177 : decode cX8_perform 177 = .ok (.aload_n 0, 1) := by decide +kernel
theorem dX8_perform_178 : decode cX8_perform 178 = .ok (.getfield 7, 3) := by decide +kernel
theorem dX8_perform_181 : decode cX8_perform 181 = .ok (.bipush 59, 2) := by decide +kernel
theorem dX8_perform_183 : decode cX8_perform 183 = .ok (.iload_n 2, 1) := by decide +kernel
theorem dX8_perform_184 : decode cX8_perform 184 = .ok (.iadd, 1) := by decide +kernel
theorem dX8_perform_185 : decode cX8_perform 185 = .ok (.iconst 1, 1) := by decide +kernel
theorem dX8_perform_186 : decode cX8_perform 186 = .ok (.iastore, 1) := by decide +kernel
theorem dX8_perform_187 : decode cX8_perform 187 = .ok (.goto 145, 3) := by decide +kernel
theorem dX8_perform_190 : decode cX8_perform 190 = .ok (.iload_n 2, 1) := by decide +kernel
theorem dX8_perform_191 : decode cX8_perform 191 = .ok (.aload_n 0, 1) := by decide +kernel
theorem dX8_perform_192 : decode cX8_perform 192 = .ok (.getfield 108, 3) := by decide +kernel
theorem dX8_perform_195 : decode cX8_perform 195 = .ok (.invokestatic 89, 3) := by decide +kernel
theorem dX8_perform_198 : decode cX8_perform 198 = .ok (.ifCond .eq 134, 3) := by decide +kernel
theorem dX8_perform_201 : decode cX8_perform 201 = .ok (.aload_n 0, 1) := by decide +kernel
theorem dX8_perform_202 : decode cX8_perform 202 = .ok (.getfield 7, 3) := by decide +kernel
theorem dX8_perform_205 : decode cX8_perform 205 = .ok (.bipush 59, 2) := by decide +kernel
theorem dX8_perform_207 : decode cX8_perform 207 = .ok (.iload_n 2, 1) := by decide +kernel
theorem dX8_perform_208 : decode cX8_perform 208 = .ok (.iadd, 1) := by decide +kernel
theorem dX8_perform_209 : decode cX8_perform 209 = .ok (.iconst 0, 1) := by decide +kernel
theorem dX8_perform_210 : decode cX8_perform 210 = .ok (.iastore, 1) := by decide +kernel
theorem dX8_perform_211 : decode cX8_perform 211 = .ok (.goto 121, 3) := by decide +kernel
theorem dX8_perform_214 : decode cX8_perform 214 = .ok (.iload_n 2, 1) := by decide +kernel
theorem dX8_perform_215 : decode cX8_perform 215 = .ok (.aload_n 0, 1) := by decide +kernel
theorem dX8_perform_216 : decode cX8_perform 216 = .ok (.getfield 93, 3) := by decide +kernel
theorem dX8_perform_219 : decode cX8_perform 219 = .ok (.invokestatic 89, 3) := by decide +kernel
theorem dX8_perform_222 : decode cX8_perform 222 = .ok (.ifCond .eq 110, 3) := by decide +kernel
theorem dX8_perform_225 : decode cX8_perform 225 = .ok (.aload_n 0, 1) := by decide +kernel
theorem dX8_perform_226 : decode cX8_perform 226 = .ok (.getfield 7, 3) := by decide +kernel
theorem dX8_perform_229 : decode cX8_perform 229 = .ok (.bipush 12, 2) := by decide +kernel
theorem dX8_perform_231 : decode cX8_perform 231 = .ok (.iload_n 2, 1) := by decide +kernel
theorem dX8_perform_232 : decode cX8_perform 232 = .ok (.iadd, 1) := by decide +kernel
theorem dX8_perform_233 : decode cX8_perform 233 = .ok (.iconst 1, 1) := by decide +kernel
theorem dX8_perform_234 : decode cX8_perform 234 = .ok (.aload_n 0, 1) := by decide +kernel
theorem dX8_perform_235 : decode cX8_perform 235 = .ok (.getfield 7, 3) := by decide +kernel
theorem dX8_perform_238 : decode cX8_perform 238 = .ok (.bipush 12, 2) := by decide +kernel
theorem dX8_perform_240 : decode cX8_perform 240 = .ok (.iload_n 2, 1) := by decide +kernel
theorem dX8_perform_241 : decode cX8_perform 241 = .ok (.iadd, 1) := by decide +kernel
theorem dX8_perform_242 : decode cX8_perform 242 = .ok (.iaload, 1) := by decide +kernel
theorem dX8_perform_243 : decode cX8_perform 243 = .ok (.isub, 1) := by decide +kernel
theorem dX8_perform_244 : decode cX8_perform 244 = .ok (.iastore, 1) := by decide +kernel
theorem dX8_perform_245 : decode cX8_perform 245 = .ok (.goto 87, 3) := by decide +kernel
theorem dX8_perform_248 : decode cX8_perform 248 = .ok (.iload_n 2, 1) := by decide +kernel
theorem dX8_perform_249 : decode cX8_perform 249 = .ok (.aload_n 0, 1) := by decide +kernel
theorem dX8_perform_250 : decode cX8_perform 250 = .ok (.getfield 96, 3) := by decide +kernel
theorem dX8_perform_253 : decode cX8_perform 253 = .ok (.invokestatic 89, 3) := by decide +kernel
theorem dX8_perform_256 : decode cX8_perform 256 = .ok (.ifCond .eq 76, 3) := by decide +kernel
theorem dX8_perform_259 : decode cX8_perform 259 = .ok (.iload_n 3, 1) := by decide +kernel
theorem dX8_perform_260 : decode cX8_perform 260 = .ok (.aload_n 0, 1) := by decide +kernel
theorem dX8_perform_261 : decode cX8_perform 261 = .ok (.getfield 82, 3) := by decide +kernel
theorem dX8_perform_264 : decode cX8_perform 264 = .ok (.invokestatic 89, 3) := by decide +kernel
theorem dX8_perform_267 : decode cX8_perform 267 = .ok (.ifCond .eq 65, 3) := by decide +kernel
theorem dX8_perform_270 : decode cX8_perform 270 = .ok (.aload_n 0, 1) := by decide +kernel
theorem dX8_perform_271 : decode cX8_perform 271 = .ok (.getfield 7, 3) := by decide +kernel
theorem dX8_perform_274 : decode cX8_perform 274 = .ok (.bipush 31, 2) := by decide +kernel
theorem dX8_perform_276 : decode cX8_perform 276 = .ok (.iload_n 2, 1) := by decide +kernel
theorem dX8_perform_277 : decode cX8_perform 277 = .ok (.iadd, 1) := by decide +kernel
theorem dX8_perform_278 : decode cX8_perform 278 = .ok (.aload_n 0, 1) := by decide +kernel
theorem dX8_perform_279 : decode cX8_perform 279 = .ok (.getfield 7, 3) := by decide +kernel
theorem dX8_perform_282 : decode cX8_perform 282 = .ok (.bipush 27, 2) := by decide +kernel
theorem dX8_perform_284 : decode cX8_perform 284 = .ok (.iload_n 2, 1) := by decide +kernel
theorem dX8_perform_285 : decode cX8_perform 285 = .ok (.iadd, 1) := by decide +kernel
theorem dX8_perform_286 : decode cX8_perform 286 = .ok (.iaload, 1) := by decide +kernel
theorem dX8_perform_287 : decode cX8_perform 287 = .ok (.iload_n 3, 1) := by decide +kernel
theorem dX8_perform_288 : decode cX8_perform 288 = .ok (.if_icmp .ne 7, 3) := by decide +kernel
theorem dX8_perform_291 : decode cX8_perform 291 = .ok (.iconst (-1), 1) := by decide +kernel
theorem dX8_perform_292 : decode cX8_perform 292 = .ok (.goto 4, 3) := by decide +kernel
theorem dX8_perform_295 : decode cX8_perform 295 = .ok (.iload_n 3, 1) := by decide +kernel
theorem dX8_perform_296 : decode cX8_perform 296 = .ok (.iastore, 1) := by decide +kernel
theorem dX8_perform_297 : decode cX8_perform 297 = .ok (.goto 35, 3) := by decide +kernel
theorem dX8_perform_300 : decode cX8_perform 300 = .ok (.aload_n 0, 1) := by decide +kernel
theorem dX8_perform_301 : decode cX8_perform 301 = .ok (.aload_n 0, 1) := by decide +kernel
theorem dX8_perform_302 : decode cX8_perform 302 = .ok (.getfield 119, 3) := by decide +kernel
theorem dX8_perform_305 : decode cX8_perform 305 = .ok (.putfield 123, 3) := by decide +kernel
theorem dX8_perform_308 : decode cX8_perform 308 = .ok (.goto 24, 3) := by decide +kernel
theorem dX8_perform_311 : decode cX8_perform 311 = .ok (.aload_n 0, 1) := by decide +kernel
theorem dX8_perform_312 : decode cX8_perform 312 = .ok (.getfield 7, 3) := by decide +kernel
theorem dX8_perform_315 : decode cX8_perform 315 = .ok (.iconst 3, 1) := by decide +kernel
theorem dX8_perform_316 : decode cX8_perform 316 = .ok (.aload_n 0, 1) := by decide +kernel
theorem dX8_perform_317 : decode cX8_perform 317 = .ok (.getfield 7, 3) := by decide +kernel
theorem dX8_perform_320 : decode cX8_perform 320 = .ok (.iconst 3, 1) := by decide +kernel
theorem dX8_perform_321 : decode cX8_perform 321 = .ok (.iaload, 1) := by decide +kernel
theorem dX8_perform_322 : decode cX8_perform 322 = .ok (.iload_n 3, 1) := by decide +kernel
theorem dX8_perform_323 : decode cX8_perform 323 = .ok (.iadd, 1) := by decide +kernel
theorem dX8_perform_324 : decode cX8_perform 324 = .ok (.iconst 0, 1) := by decide +kernel
theorem dX8_perform_325 : decode cX8_perform 325 = .ok (.sipush 600, 3) := by decide +kernel
theorem dX8_perform_328 : decode cX8_perform 328 = .ok (.invokestatic 115, 3) := by decide +kernel
theorem dX8_perform_331 : decode cX8_perform 331 = .ok (.iastore, 1) := by decide +kernel
theorem dX8_perform_332 : decode cX8_perform 332 = .ok (.return_, 1) := by decide +kernel
theorem dX8_act_0 : decode cX8_act 0 = .ok (.iload_n 1, 1) := by decide +kernel
theorem dX8_act_1 : decode cX8_act 1 = .ok (.aload_n 0, 1) := by decide +kernel
theorem dX8_act_2 : decode cX8_act 2 = .ok (.getfield 99, 3) := by decide +kernel
theorem dX8_act_5 : decode cX8_act 5 = .ok (.invokestatic 89, 3) := by decide +kernel
theorem dX8_act_8 : decode cX8_act 8 = .ok (.ifCond .ne 6, 3) := by decide +kernel
theorem dX8_act_11 : decode cX8_act 11 = .ok (.bipush (-2), 2) := by decide +kernel
theorem dX8_act_13 : decode cX8_act 13 = .ok (.ireturn, 1) := by decide +kernel
theorem dX8_act_14 : decode cX8_act 14 = .ok (.aload_n 0, 1) := by decide +kernel
theorem dX8_act_15 : decode cX8_act 15 = .ok (.iload_n 1, 1) := by decide +kernel
theorem dX8_act_16 : decode cX8_act 16 = .ok (.invokevirtual 111, 3) := by decide +kernel
theorem dX8_act_19 : decode cX8_act 19 = .ok (.ifCond .eq 7, 3) := by decide +kernel
theorem dX8_act_22 : decode cX8_act 22 = .ok (.iconst 1, 1) := by decide +kernel
theorem dX8_act_23 : decode cX8_act 23 = .ok (.goto 4, 3) := by decide +kernel
theorem dX8_act_26 : decode cX8_act 26 = .ok (.iconst 0, 1) := by decide +kernel
theorem dX8_act_27 : decode cX8_act 27 = .ok (.istore_n 2, 1) := by decide +kernel
theorem dX8_act_28 : decode cX8_act 28 = .ok (.aload_n 0, 1) := by decide +kernel
theorem dX8_act_29 : decode cX8_act 29 = .ok (.iload_n 1, 1) := by decide +kernel
theorem dX8_act_30 : decode cX8_act 30 = .ok (.invokevirtual 126, 3) := by decide +kernel
theorem dX8_act_33 : decode cX8_act 33 = .ok (.aload_n 0, 1) := by decide +kernel
theorem dX8_act_34 : decode cX8_act 34 = .ok (.iload_n 2, 1) := by decide +kernel
theorem dX8_act_35 : decode cX8_act 35 = .ok (.invokevirtual 85, 3) := by decide +kernel
theorem dX8_act_38 : decode cX8_act 38 = .ok (.ireturn, 1) := by decide +kernel
theorem dX8_pace_0 : decode cX8_pace 0 = .ok (.iload_n 1, 1) := by decide +kernel
theorem dX8_pace_1 : decode cX8_pace 1 = .ok (.iconst 1, 1) := by decide +kernel
theorem dX8_pace_2 : decode cX8_pace 2 = .ok (.bipush 60, 2) := by decide +kernel
theorem dX8_pace_4 : decode cX8_pace 4 = .ok (.invokestatic 78, 3) := by decide +kernel
theorem dX8_pace_7 : decode cX8_pace 7 = .ok (.ifCond .ne 6, 3) := by decide +kernel
theorem dX8_pace_10 : decode cX8_pace 10 = .ok (.bipush (-3), 2) := by decide +kernel
theorem dX8_pace_12 : decode cX8_pace 12 = .ok (.ireturn, 1) := by decide +kernel
theorem dX8_pace_13 : decode cX8_pace 13 = .ok (.aload_n 0, 1) := by decide +kernel
theorem dX8_pace_14 : decode cX8_pace 14 = .ok (.getfield 16, 3) := by decide +kernel
theorem dX8_pace_17 : decode cX8_pace 17 = .ok (.istore_n 2, 1) := by decide +kernel
theorem dX8_pace_18 : decode cX8_pace 18 = .ok (.aload_n 0, 1) := by decide +kernel
theorem dX8_pace_19 : decode cX8_pace 19 = .ok (.iload_n 1, 1) := by decide +kernel
theorem dX8_pace_20 : decode cX8_pace 20 = .ok (.putfield 16, 3) := by decide +kernel
theorem dX8_pace_23 : decode cX8_pace 23 = .ok (.aload_n 0, 1) := by decide +kernel
theorem dX8_pace_24 : decode cX8_pace 24 = .ok (.iload_n 2, 1) := by decide +kernel
theorem dX8_pace_25 : decode cX8_pace 25 = .ok (.invokevirtual 85, 3) := by decide +kernel
theorem dX8_pace_28 : decode cX8_pace 28 = .ok (.ireturn, 1) := by decide +kernel
theorem dX8_tell_0 : decode cX8_tell 0 = .ok (.aload_n 0, 1) := by decide +kernel
theorem dX8_tell_1 : decode cX8_tell 1 = .ok (.dup, 1) := by decide +kernel
theorem dX8_tell_2 : decode cX8_tell 2 = .ok (.getfield 130, 3) := by decide +kernel
theorem dX8_tell_5 : decode cX8_tell 5 = .ok (.iconst 1, 1) := by decide +kernel
theorem dX8_tell_6 : decode cX8_tell 6 = .ok (.iadd, 1) := by decide +kernel
theorem dX8_tell_7 : decode cX8_tell 7 = .ok (.putfield 130, 3) := by decide +kernel
theorem dX8_tell_10 : decode cX8_tell 10 = .ok (.aload_n 0, 1) := by decide +kernel
theorem dX8_tell_11 : decode cX8_tell 11 = .ok (.getfield 7, 3) := by decide +kernel
theorem dX8_tell_14 : decode cX8_tell 14 = .ok (.bipush 71, 2) := by decide +kernel
theorem dX8_tell_16 : decode cX8_tell 16 = .ok (.iaload, 1) := by decide +kernel
theorem dX8_tell_17 : decode cX8_tell 17 = .ok (.bipush 60, 2) := by decide +kernel
theorem dX8_tell_19 : decode cX8_tell 19 = .ok (.if_icmp .ge 52, 3) := by decide +kernel
theorem dX8_tell_22 : decode cX8_tell 22 = .ok (.aload_n 0, 1) := by decide +kernel
theorem dX8_tell_23 : decode cX8_tell 23 = .ok (.getfield 7, 3) := by decide +kernel
theorem dX8_tell_26 : decode cX8_tell 26 = .ok (.bipush 72, 2) := by decide +kernel
theorem dX8_tell_28 : decode cX8_tell 28 = .ok (.iconst 2, 1) := by decide +kernel
theorem dX8_tell_29 : decode cX8_tell 29 = .ok (.aload_n 0, 1) := by decide +kernel
theorem dX8_tell_30 : decode cX8_tell 30 = .ok (.getfield 7, 3) := by decide +kernel
theorem dX8_tell_33 : decode cX8_tell 33 = .ok (.bipush 71, 2) := by decide +kernel
theorem dX8_tell_35 : decode cX8_tell 35 = .ok (.iaload, 1) := by decide +kernel
theorem dX8_tell_36 : decode cX8_tell 36 = .ok (.imul, 1) := by decide +kernel
theorem dX8_tell_37 : decode cX8_tell 37 = .ok (.iadd, 1) := by decide +kernel
theorem dX8_tell_38 : decode cX8_tell 38 = .ok (.iload_n 1, 1) := by decide +kernel
theorem dX8_tell_39 : decode cX8_tell 39 = .ok (.iastore, 1) := by decide +kernel
theorem dX8_tell_40 : decode cX8_tell 40 = .ok (.aload_n 0, 1) := by decide +kernel
theorem dX8_tell_41 : decode cX8_tell 41 = .ok (.getfield 7, 3) := by decide +kernel
theorem dX8_tell_44 : decode cX8_tell 44 = .ok (.bipush 72, 2) := by decide +kernel
theorem dX8_tell_46 : decode cX8_tell 46 = .ok (.iconst 2, 1) := by decide +kernel
theorem dX8_tell_47 : decode cX8_tell 47 = .ok (.aload_n 0, 1) := by decide +kernel
theorem dX8_tell_48 : decode cX8_tell 48 = .ok (.getfield 7, 3) := by decide +kernel
theorem dX8_tell_51 : decode cX8_tell 51 = .ok (.bipush 71, 2) := by decide +kernel
theorem dX8_tell_53 : decode cX8_tell 53 = .ok (.iaload, 1) := by decide +kernel
theorem dX8_tell_54 : decode cX8_tell 54 = .ok (.imul, 1) := by decide +kernel
theorem dX8_tell_55 : decode cX8_tell 55 = .ok (.iadd, 1) := by decide +kernel
theorem dX8_tell_56 : decode cX8_tell 56 = .ok (.iconst 1, 1) := by decide +kernel
theorem dX8_tell_57 : decode cX8_tell 57 = .ok (.iadd, 1) := by decide +kernel
theorem dX8_tell_58 : decode cX8_tell 58 = .ok (.iload_n 2, 1) := by decide +kernel
theorem dX8_tell_59 : decode cX8_tell 59 = .ok (.iastore, 1) := by decide +kernel
theorem dX8_tell_60 : decode cX8_tell 60 = .ok (.aload_n 0, 1) := by decide +kernel
theorem dX8_tell_61 : decode cX8_tell 61 = .ok (.getfield 7, 3) := by decide +kernel
theorem dX8_tell_64 : decode cX8_tell 64 = .ok (.bipush 71, 2) := by decide +kernel
theorem dX8_tell_66 : decode cX8_tell 66 = .ok (.dup2, 1) := by decide +kernel
theorem dX8_tell_67 : decode cX8_tell 67 = .ok (.iaload, 1) := by decide +kernel
theorem dX8_tell_68 : decode cX8_tell 68 = .ok (.iconst 1, 1) := by decide +kernel
theorem dX8_tell_69 : decode cX8_tell 69 = .ok (.iadd, 1) := by decide +kernel
theorem dX8_tell_70 : decode cX8_tell 70 = .ok (.iastore, 1) := by decide +kernel
theorem dX8_tell_71 : decode cX8_tell 71 = .ok (.return_, 1) := by decide +kernel
theorem dX8_goTime_0 : decode cX8_goTime 0 = .ok (.aload_n 0, 1) := by decide +kernel
theorem dX8_goTime_1 : decode cX8_goTime 1 = .ok (.getfield 16, 3) := by decide +kernel
theorem dX8_goTime_4 : decode cX8_goTime 4 = .ok (.aload_n 0, 1) := by decide +kernel
theorem dX8_goTime_5 : decode cX8_goTime 5 = .ok (.getfield 7, 3) := by decide +kernel
theorem dX8_goTime_8 : decode cX8_goTime 8 = .ok (.iconst 3, 1) := by decide +kernel
theorem dX8_goTime_9 : decode cX8_goTime 9 = .ok (.iaload, 1) := by decide +kernel
theorem dX8_goTime_10 : decode cX8_goTime 10 = .ok (.iadd, 1) := by decide +kernel
theorem dX8_goTime_11 : decode cX8_goTime 11 = .ok (.istore_n 1, 1) := by decide +kernel
theorem dX8_goTime_12 : decode cX8_goTime 12 = .ok (.aload_n 0, 1) := by decide +kernel
theorem dX8_goTime_13 : decode cX8_goTime 13 = .ok (.getfield 7, 3) := by decide +kernel
theorem dX8_goTime_16 : decode cX8_goTime 16 = .ok (.iconst 1, 1) := by decide +kernel
theorem dX8_goTime_17 : decode cX8_goTime 17 = .ok (.iaload, 1) := by decide +kernel
theorem dX8_goTime_18 : decode cX8_goTime 18 = .ok (.istore_n 2, 1) := by decide +kernel
theorem dX8_goTime_19 : decode cX8_goTime 19 = .ok (.aload_n 0, 1) := by decide +kernel
theorem dX8_goTime_20 : decode cX8_goTime 20 = .ok (.getfield 7, 3) := by decide +kernel
theorem dX8_goTime_23 : decode cX8_goTime 23 = .ok (.iconst 0, 1) := by decide +kernel
theorem dX8_goTime_24 : decode cX8_goTime 24 = .ok (.iaload, 1) := by decide +kernel
theorem dX8_goTime_25 : decode cX8_goTime 25 = .ok (.istore_n 3, 1) := by decide +kernel
theorem dX8_goTime_26 : decode cX8_goTime 26 = .ok (.aload_n 0, 1) := by decide +kernel
theorem dX8_goTime_27 : decode cX8_goTime 27 = .ok (.getfield 7, 3) := by decide +kernel
theorem dX8_goTime_30 : decode cX8_goTime 30 = .ok (.iconst 3, 1) := by decide +kernel
theorem dX8_goTime_31 : decode cX8_goTime 31 = .ok (.iconst 0, 1) := by decide +kernel
theorem dX8_goTime_32 : decode cX8_goTime 32 = .ok (.iastore, 1) := by decide +kernel
theorem dX8_goTime_33 : decode cX8_goTime 33 = .ok (.aload_n 0, 1) := by decide +kernel
theorem dX8_goTime_34 : decode cX8_goTime 34 = .ok (.getfield 7, 3) := by decide +kernel
theorem dX8_goTime_37 : decode cX8_goTime 37 = .ok (.iconst 0, 1) := by decide +kernel
theorem dX8_goTime_38 : decode cX8_goTime 38 = .ok (.iload_n 3, 1) := by decide +kernel
theorem dX8_goTime_39 : decode cX8_goTime 39 = .ok (.iload_n 1, 1) := by decide +kernel
theorem dX8_goTime_40 : decode cX8_goTime 40 = .ok (.iadd, 1) := by decide +kernel
theorem dX8_goTime_41 : decode cX8_goTime 41 = .ok (.sipush 1440, 3) := by decide +kernel
theorem dX8_goTime_44 : decode cX8_goTime 44 = .ok (.irem, 1) := by decide +kernel
theorem dX8_goTime_45 : decode cX8_goTime 45 = .ok (.iastore, 1) := by decide +kernel
theorem dX8_goTime_46 : decode cX8_goTime 46 = .ok (.aload_n 0, 1) := by decide +kernel
theorem dX8_goTime_47 : decode cX8_goTime 47 = .ok (.getfield 7, 3) := by decide +kernel
theorem dX8_goTime_50 : decode cX8_goTime 50 = .ok (.iconst 1, 1) := by decide +kernel
theorem dX8_goTime_51 : decode cX8_goTime 51 = .ok (.iload_n 2, 1) := by decide +kernel
theorem dX8_goTime_52 : decode cX8_goTime 52 = .ok (.iload_n 3, 1) := by decide +kernel
theorem dX8_goTime_53 : decode cX8_goTime 53 = .ok (.iload_n 1, 1) := by decide +kernel
theorem dX8_goTime_54 : decode cX8_goTime 54 = .ok (.iadd, 1) := by decide +kernel
theorem dX8_goTime_55 : decode cX8_goTime 55 = .ok (.sipush 1440, 3) := by decide +kernel
theorem dX8_goTime_58 : decode cX8_goTime 58 = .ok (.idiv, 1) := by decide +kernel
theorem dX8_goTime_59 : decode cX8_goTime 59 = .ok (.iadd, 1) := by decide +kernel
theorem dX8_goTime_60 : decode cX8_goTime 60 = .ok (.iastore, 1) := by decide +kernel
theorem dX8_goTime_61 : decode cX8_goTime 61 = .ok (.iconst 1, 1) := by decide +kernel
theorem dX8_goTime_62 : decode cX8_goTime 62 = .ok (.istore 4, 2) := by decide +kernel
theorem dX8_goTime_64 : decode cX8_goTime 64 = .ok (.iload 4, 2) := by decide +kernel
theorem dX8_goTime_66 : decode cX8_goTime 66 = .ok (.iload_n 1, 1) := by decide +kernel
theorem dX8_goTime_67 : decode cX8_goTime 67 = .ok (.if_icmp .gt 119, 3) := by decide +kernel
theorem dX8_goTime_70 : decode cX8_goTime 70 = .ok (.aload_n 0, 1) := by decide +kernel
theorem dX8_goTime_71 : decode cX8_goTime 71 = .ok (.getfield 123, 3) := by decide +kernel
theorem dX8_goTime_74 : decode cX8_goTime 74 = .ok (.ifCond .ne 112, 3) := by decide +kernel
theorem dX8_goTime_77 : decode cX8_goTime 77 = .ok (.iload_n 3, 1) := by decide +kernel
theorem dX8_goTime_78 : decode cX8_goTime 78 = .ok (.iload 4, 2) := by decide +kernel
theorem dX8_goTime_80 : decode cX8_goTime 80 = .ok (.iadd, 1) := by decide +kernel
theorem dX8_goTime_81 : decode cX8_goTime 81 = .ok (.sipush 1440, 3) := by decide +kernel
theorem dX8_goTime_84 : decode cX8_goTime 84 = .ok (.irem, 1) := by decide +kernel
theorem dX8_goTime_85 : decode cX8_goTime 85 = .ok (.istore 5, 2) := by decide +kernel
theorem dX8_goTime_87 : decode cX8_goTime 87 = .ok (.iconst 0, 1) := by decide +kernel
theorem dX8_goTime_88 : decode cX8_goTime 88 = .ok (.istore 6, 2) := by decide +kernel
theorem dX8_goTime_90 : decode cX8_goTime 90 = .ok (.iload 6, 2) := by decide +kernel
theorem dX8_goTime_92 : decode cX8_goTime 92 = .ok (.aload_n 0, 1) := by decide +kernel
theorem dX8_goTime_93 : decode cX8_goTime 93 = .ok (.getfield 102, 3) := by decide +kernel
theorem dX8_goTime_96 : decode cX8_goTime 96 = .ok (.if_icmp .ge 84, 3) := by decide +kernel
theorem dX8_goTime_99 : decode cX8_goTime 99 = .ok (.aload_n 0, 1) := by decide +kernel
theorem dX8_goTime_100 : decode cX8_goTime 100 = .ok (.getfield 123, 3) := by decide +kernel
theorem dX8_goTime_103 : decode cX8_goTime 103 = .ok (.ifCond .ne 77, 3) := by decide +kernel
theorem dX8_goTime_106 : decode cX8_goTime 106 = .ok (.aload_n 0, 1) := by decide +kernel
theorem dX8_goTime_107 : decode cX8_goTime 107 = .ok (.getfield 44, 3) := by decide +kernel
theorem dX8_goTime_110 : decode cX8_goTime 110 = .ok (.iload 6, 2) := by decide +kernel
theorem dX8_goTime_112 : decode cX8_goTime 112 = .ok (.iaload, 1) := by decide +kernel
theorem dX8_goTime_113 : decode cX8_goTime 113 = .ok (.iload 5, 2) := by decide +kernel
theorem dX8_goTime_115 : decode cX8_goTime 115 = .ok (.if_icmp .ne 59, 3) := by decide +kernel
theorem dX8_goTime_118 : decode cX8_goTime 118 = .ok (.aload_n 0, 1) := by decide +kernel
theorem dX8_goTime_119 : decode cX8_goTime 119 = .ok (.getfield 7, 3) := by decide +kernel
theorem dX8_goTime_122 : decode cX8_goTime 122 = .ok (.bipush 35, 2) := by decide +kernel
theorem dX8_goTime_124 : decode cX8_goTime 124 = .ok (.iload 6, 2) := by decide +kernel
theorem dX8_goTime_126 : decode cX8_goTime 126 = .ok (.iadd, 1) := by decide +kernel
theorem dX8_goTime_127 : decode cX8_goTime 127 = .ok (.iaload, 1) := by decide +kernel
theorem dX8_goTime_128 : decode cX8_goTime 128 = .ok (.ifCond .ne 46, 3) := by decide +kernel
theorem dX8_goTime_131 : decode cX8_goTime 131 = .ok (.aload_n 0, 1) := by decide +kernel
theorem dX8_goTime_132 : decode cX8_goTime 132 = .ok (.getfield 7, 3) := by decide +kernel
theorem dX8_goTime_135 : decode cX8_goTime 135 = .ok (.bipush 35, 2) := by decide +kernel
theorem dX8_goTime_137 : decode cX8_goTime 137 = .ok (.iload 6, 2) := by decide +kernel
theorem dX8_goTime_139 : decode cX8_goTime 139 = .ok (.iadd, 1) := by decide +kernel
theorem dX8_goTime_140 : decode cX8_goTime 140 = .ok (.aload_n 0, 1) := by decide +kernel
theorem dX8_goTime_141 : decode cX8_goTime 141 = .ok (.getfield 47, 3) := by decide +kernel
theorem dX8_goTime_144 : decode cX8_goTime 144 = .ok (.iload 6, 2) := by decide +kernel
theorem dX8_goTime_146 : decode cX8_goTime 146 = .ok (.baload, 1) := by decide +kernel
theorem dX8_goTime_147 : decode cX8_goTime 147 = .ok (.ifCond .eq 7, 3) := by decide +kernel
theorem dX8_goTime_150 : decode cX8_goTime 150 = .ok (.iconst 0, 1) := by decide +kernel
theorem dX8_goTime_151 : decode cX8_goTime 151 = .ok (.goto 4, 3) := by decide +kernel
theorem dX8_goTime_154 : decode cX8_goTime 154 = .ok (.iconst 1, 1) := by decide +kernel
theorem dX8_goTime_155 : decode cX8_goTime 155 = .ok (.iastore, 1) := by decide +kernel
theorem dX8_goTime_156 : decode cX8_goTime 156 = .ok (.aload_n 0, 1) := by decide +kernel
theorem dX8_goTime_157 : decode cX8_goTime 157 = .ok (.iconst 0, 1) := by decide +kernel
theorem dX8_goTime_158 : decode cX8_goTime 158 = .ok (.iload 6, 2) := by decide +kernel
theorem dX8_goTime_160 : decode cX8_goTime 160 = .ok (.invokevirtual 133, 3) := by decide +kernel
theorem dX8_goTime_163 : decode cX8_goTime 163 = .ok (.aload_n 0, 1) := by decide +kernel
theorem dX8_goTime_164 : decode cX8_goTime 164 = .ok (.aload_n 0, 1) := by decide +kernel
theorem dX8_goTime_165 : decode cX8_goTime 165 = .ok (.getfield 41, 3) := by decide +kernel
theorem dX8_goTime_168 : decode cX8_goTime 168 = .ok (.iload 6, 2) := by decide +kernel
theorem dX8_goTime_170 : decode cX8_goTime 170 = .ok (.iaload, 1) := by decide +kernel
theorem dX8_goTime_171 : decode cX8_goTime 171 = .ok (.invokevirtual 126, 3) := by decide +kernel
theorem dX8_goTime_174 : decode cX8_goTime 174 = .ok (.iinc 6 1, 3) := by decide +kernel
theorem dX8_goTime_177 : decode cX8_goTime 177 = .ok (.goto (-87), 3) := by decide +kernel
theorem dX8_goTime_180 : decode cX8_goTime 180 = .ok (.iinc 4 1, 3) := by decide +kernel
theorem dX8_goTime_183 : decode cX8_goTime 183 = .ok (.goto (-119), 3) := by decide +kernel
theorem dX8_goTime_186 : decode cX8_goTime 186 = .ok (.return_, 1) := by decide +kernel
theorem dX8_goTimers_0 : decode cX8_goTimers 0 = .ok (.iconst 0, 1) := by decide +kernel
theorem dX8_goTimers_1 : decode cX8_goTimers 1 = .ok (.istore_n 1, 1) := by decide +kernel
theorem dX8_goTimers_2 : decode cX8_goTimers 2 = .ok (.iload_n 1, 1) := by decide +kernel
theorem dX8_goTimers_3 : decode cX8_goTimers 3 = .ok (.aload_n 0, 1) := by decide +kernel
theorem dX8_goTimers_4 : decode cX8_goTimers 4 = .ok (.getfield 105, 3) := by decide +kernel
theorem dX8_goTimers_7 : decode cX8_goTimers 7 = .ok (.if_icmp .ge 39, 3) := by decide +kernel
theorem dX8_goTimers_10 : decode cX8_goTimers 10 = .ok (.aload_n 0, 1) := by decide +kernel
theorem dX8_goTimers_11 : decode cX8_goTimers 11 = .ok (.getfield 69, 3) := by decide +kernel
theorem dX8_goTimers_14 : decode cX8_goTimers 14 = .ok (.iload_n 1, 1) := by decide +kernel
theorem dX8_goTimers_15 : decode cX8_goTimers 15 = .ok (.aload_n 0, 1) := by decide +kernel
theorem dX8_goTimers_16 : decode cX8_goTimers 16 = .ok (.getfield 7, 3) := by decide +kernel
theorem dX8_goTimers_19 : decode cX8_goTimers 19 = .ok (.bipush 47, 2) := by decide +kernel
theorem dX8_goTimers_21 : decode cX8_goTimers 21 = .ok (.iload_n 1, 1) := by decide +kernel
theorem dX8_goTimers_22 : decode cX8_goTimers 22 = .ok (.iadd, 1) := by decide +kernel
theorem dX8_goTimers_23 : decode cX8_goTimers 23 = .ok (.iaload, 1) := by decide +kernel
theorem dX8_goTimers_24 : decode cX8_goTimers 24 = .ok (.ifCond .le 7, 3) := by decide +kernel
theorem dX8_goTimers_27 : decode cX8_goTimers 27 = .ok (.iconst 1, 1) := by decide +kernel
theorem dX8_goTimers_28 : decode cX8_goTimers 28 = .ok (.goto 4, 3) := by decide +kernel
theorem dX8_goTimers_31 : decode cX8_goTimers 31 = .ok (.iconst 0, 1) := by decide +kernel
theorem dX8_goTimers_32 : decode cX8_goTimers 32 = .ok (.bastore, 1) := by decide +kernel
theorem dX8_goTimers_33 : decode cX8_goTimers 33 = .ok (.aload_n 0, 1) := by decide +kernel
theorem dX8_goTimers_34 : decode cX8_goTimers 34 = .ok (.getfield 66, 3) := by decide +kernel
theorem dX8_goTimers_37 : decode cX8_goTimers 37 = .ok (.iload_n 1, 1) := by decide +kernel
theorem dX8_goTimers_38 : decode cX8_goTimers 38 = .ok (.iconst 0, 1) := by decide +kernel
theorem dX8_goTimers_39 : decode cX8_goTimers 39 = .ok (.bastore, 1) := by decide +kernel
theorem dX8_goTimers_40 : decode cX8_goTimers 40 = .ok (.iinc 1 1, 3) := by decide +kernel
theorem dX8_goTimers_43 : decode cX8_goTimers 43 = .ok (.goto (-41), 3) := by decide +kernel
theorem dX8_goTimers_46 : decode cX8_goTimers 46 = .ok (.iconst 0, 1) := by decide +kernel
theorem dX8_goTimers_47 : decode cX8_goTimers 47 = .ok (.istore_n 1, 1) := by decide +kernel
theorem dX8_goTimers_48 : decode cX8_goTimers 48 = .ok (.iload_n 1, 1) := by decide +kernel
theorem dX8_goTimers_49 : decode cX8_goTimers 49 = .ok (.aload_n 0, 1) := by decide +kernel
theorem dX8_goTimers_50 : decode cX8_goTimers 50 = .ok (.getfield 105, 3) := by decide +kernel
theorem dX8_goTimers_53 : decode cX8_goTimers 53 = .ok (.if_icmp .ge 115, 3) := by decide +kernel
theorem dX8_goTimers_56 : decode cX8_goTimers 56 = .ok (.aload_n 0, 1) := by decide +kernel
theorem dX8_goTimers_57 : decode cX8_goTimers 57 = .ok (.getfield 123, 3) := by decide +kernel
theorem dX8_goTimers_60 : decode cX8_goTimers 60 = .ok (.ifCond .ne 108, 3) := by decide +kernel
theorem dX8_goTimers_63 : decode cX8_goTimers 63 = .ok (.aload_n 0, 1) := by decide +kernel
theorem dX8_goTimers_64 : decode cX8_goTimers 64 = .ok (.getfield 69, 3) := by decide +kernel
theorem dX8_goTimers_67 : decode cX8_goTimers 67 = .ok (.iload_n 1, 1) := by decide +kernel
theorem dX8_goTimers_68 : decode cX8_goTimers 68 = .ok (.baload, 1) := by decide +kernel
theorem dX8_goTimers_69 : decode cX8_goTimers 69 = .ok (.ifCond .eq 93, 3) := by decide +kernel
theorem dX8_goTimers_72 : decode cX8_goTimers 72 = .ok (.aload_n 0, 1) := by decide +kernel
theorem dX8_goTimers_73 : decode cX8_goTimers 73 = .ok (.getfield 66, 3) := by decide +kernel
theorem dX8_goTimers_76 : decode cX8_goTimers 76 = .ok (.iload_n 1, 1) := by decide +kernel
theorem dX8_goTimers_77 : decode cX8_goTimers 77 = .ok (.baload, 1) := by decide +kernel
theorem dX8_goTimers_78 : decode cX8_goTimers 78 = .ok (.ifCond .ne 84, 3) := by decide +kernel
theorem dX8_goTimers_81 : decode cX8_goTimers 81 = .ok (.aload_n 0, 1) := by decide +kernel
theorem dX8_goTimers_82 : decode cX8_goTimers 82 = .ok (.getfield 7, 3) := by decide +kernel
theorem dX8_goTimers_85 : decode cX8_goTimers 85 = .ok (.bipush 47, 2) := by decide +kernel
theorem dX8_goTimers_87 : decode cX8_goTimers 87 = .ok (.iload_n 1, 1) := by decide +kernel
theorem dX8_goTimers_88 : decode cX8_goTimers 88 = .ok (.iadd, 1) := by decide +kernel
theorem dX8_goTimers_89 : decode cX8_goTimers 89 = .ok (.iaload, 1) := by decide +kernel
theorem dX8_goTimers_90 : decode cX8_goTimers 90 = .ok (.ifCond .le 72, 3) := by decide +kernel
theorem dX8_goTimers_93 : decode cX8_goTimers 93 = .ok (.aload_n 0, 1) := by decide +kernel
theorem dX8_goTimers_94 : decode cX8_goTimers 94 = .ok (.getfield 7, 3) := by decide +kernel
theorem dX8_goTimers_97 : decode cX8_goTimers 97 = .ok (.bipush 47, 2) := by decide +kernel
theorem dX8_goTimers_99 : decode cX8_goTimers 99 = .ok (.iload_n 1, 1) := by decide +kernel
theorem dX8_goTimers_100 : decode cX8_goTimers 100 = .ok (.iadd, 1) := by decide +kernel
theorem dX8_goTimers_101 : decode cX8_goTimers 101 = .ok (.dup2, 1) := by decide +kernel
theorem dX8_goTimers_102 : decode cX8_goTimers 102 = .ok (.iaload, 1) := by decide +kernel
theorem dX8_goTimers_103 : decode cX8_goTimers 103 = .ok (.iconst 1, 1) := by decide +kernel
theorem dX8_goTimers_104 : decode cX8_goTimers 104 = .ok (.isub, 1) := by decide +kernel
theorem dX8_goTimers_105 : decode cX8_goTimers 105 = .ok (.iastore, 1) := by decide +kernel
theorem dX8_goTimers_106 : decode cX8_goTimers 106 = .ok (.aload_n 0, 1) := by decide +kernel
theorem dX8_goTimers_107 : decode cX8_goTimers 107 = .ok (.getfield 7, 3) := by decide +kernel
theorem dX8_goTimers_110 : decode cX8_goTimers 110 = .ok (.bipush 47, 2) := by decide +kernel
theorem dX8_goTimers_112 : decode cX8_goTimers 112 = .ok (.iload_n 1, 1) := by decide +kernel
theorem dX8_goTimers_113 : decode cX8_goTimers 113 = .ok (.iadd, 1) := by decide +kernel
theorem dX8_goTimers_114 : decode cX8_goTimers 114 = .ok (.iaload, 1) := by decide +kernel
theorem dX8_goTimers_115 : decode cX8_goTimers 115 = .ok (.ifCond .ne 47, 3) := by decide +kernel
theorem dX8_goTimers_118 : decode cX8_goTimers 118 = .ok (.aload_n 0, 1) := by decide +kernel
theorem dX8_goTimers_119 : decode cX8_goTimers 119 = .ok (.getfield 7, 3) := by decide +kernel
theorem dX8_goTimers_122 : decode cX8_goTimers 122 = .ok (.bipush 47, 2) := by decide +kernel
theorem dX8_goTimers_124 : decode cX8_goTimers 124 = .ok (.iload_n 1, 1) := by decide +kernel
theorem dX8_goTimers_125 : decode cX8_goTimers 125 = .ok (.iadd, 1) := by decide +kernel
theorem dX8_goTimers_126 : decode cX8_goTimers 126 = .ok (.aload_n 0, 1) := by decide +kernel
theorem dX8_goTimers_127 : decode cX8_goTimers 127 = .ok (.getfield 57, 3) := by decide +kernel
theorem dX8_goTimers_130 : decode cX8_goTimers 130 = .ok (.iload_n 1, 1) := by decide +kernel
theorem dX8_goTimers_131 : decode cX8_goTimers 131 = .ok (.baload, 1) := by decide +kernel
theorem dX8_goTimers_132 : decode cX8_goTimers 132 = .ok (.ifCond .eq 12, 3) := by decide +kernel
theorem dX8_goTimers_135 : decode cX8_goTimers 135 = .ok (.aload_n 0, 1) := by decide +kernel
theorem dX8_goTimers_136 : decode cX8_goTimers 136 = .ok (.getfield 54, 3) := by decide +kernel
theorem dX8_goTimers_139 : decode cX8_goTimers 139 = .ok (.iload_n 1, 1) := by decide +kernel
theorem dX8_goTimers_140 : decode cX8_goTimers 140 = .ok (.iaload, 1) := by decide +kernel
theorem dX8_goTimers_141 : decode cX8_goTimers 141 = .ok (.goto 4, 3) := by decide +kernel
theorem dX8_goTimers_144 : decode cX8_goTimers 144 = .ok (.iconst 0, 1) := by decide +kernel
theorem dX8_goTimers_145 : decode cX8_goTimers 145 = .ok (.iastore, 1) := by decide +kernel
theorem dX8_goTimers_146 : decode cX8_goTimers 146 = .ok (.aload_n 0, 1) := by decide +kernel
theorem dX8_goTimers_147 : decode cX8_goTimers 147 = .ok (.iconst 1, 1) := by decide +kernel
theorem dX8_goTimers_148 : decode cX8_goTimers 148 = .ok (.iload_n 1, 1) := by decide +kernel
theorem dX8_goTimers_149 : decode cX8_goTimers 149 = .ok (.invokevirtual 133, 3) := by decide +kernel
theorem dX8_goTimers_152 : decode cX8_goTimers 152 = .ok (.aload_n 0, 1) := by decide +kernel
theorem dX8_goTimers_153 : decode cX8_goTimers 153 = .ok (.aload_n 0, 1) := by decide +kernel
theorem dX8_goTimers_154 : decode cX8_goTimers 154 = .ok (.getfield 51, 3) := by decide +kernel
theorem dX8_goTimers_157 : decode cX8_goTimers 157 = .ok (.iload_n 1, 1) := by decide +kernel
theorem dX8_goTimers_158 : decode cX8_goTimers 158 = .ok (.iaload, 1) := by decide +kernel
theorem dX8_goTimers_159 : decode cX8_goTimers 159 = .ok (.invokevirtual 126, 3) := by decide +kernel
theorem dX8_goTimers_162 : decode cX8_goTimers 162 = .ok (.iinc 1 1, 3) := by decide +kernel
theorem dX8_goTimers_165 : decode cX8_goTimers 165 = .ok (.goto (-117), 3) := by decide +kernel
theorem dX8_goTimers_168 : decode cX8_goTimers 168 = .ok (.return_, 1) := by decide +kernel
theorem dX8_goDaemons_0 : decode cX8_goDaemons 0 = .ok (.iconst 0, 1) := by decide +kernel
theorem dX8_goDaemons_1 : decode cX8_goDaemons 1 = .ok (.istore_n 1, 1) := by decide +kernel
theorem dX8_goDaemons_2 : decode cX8_goDaemons 2 = .ok (.iload_n 1, 1) := by decide +kernel
theorem dX8_goDaemons_3 : decode cX8_goDaemons 3 = .ok (.bipush 9, 2) := by decide +kernel
theorem dX8_goDaemons_5 : decode cX8_goDaemons 5 = .ok (.if_icmp .gt 71, 3) := by decide +kernel
theorem dX8_goDaemons_8 : decode cX8_goDaemons 8 = .ok (.iconst 0, 1) := by decide +kernel
theorem dX8_goDaemons_9 : decode cX8_goDaemons 9 = .ok (.istore_n 2, 1) := by decide +kernel
theorem dX8_goDaemons_10 : decode cX8_goDaemons 10 = .ok (.iload_n 2, 1) := by decide +kernel
theorem dX8_goDaemons_11 : decode cX8_goDaemons 11 = .ok (.aload_n 0, 1) := by decide +kernel
theorem dX8_goDaemons_12 : decode cX8_goDaemons 12 = .ok (.getfield 108, 3) := by decide +kernel
theorem dX8_goDaemons_15 : decode cX8_goDaemons 15 = .ok (.if_icmp .ge 55, 3) := by decide +kernel
theorem dX8_goDaemons_18 : decode cX8_goDaemons 18 = .ok (.aload_n 0, 1) := by decide +kernel
theorem dX8_goDaemons_19 : decode cX8_goDaemons 19 = .ok (.getfield 123, 3) := by decide +kernel
theorem dX8_goDaemons_22 : decode cX8_goDaemons 22 = .ok (.ifCond .ne 48, 3) := by decide +kernel
theorem dX8_goDaemons_25 : decode cX8_goDaemons 25 = .ok (.aload_n 0, 1) := by decide +kernel
theorem dX8_goDaemons_26 : decode cX8_goDaemons 26 = .ok (.getfield 63, 3) := by decide +kernel
theorem dX8_goDaemons_29 : decode cX8_goDaemons 29 = .ok (.iload_n 2, 1) := by decide +kernel
theorem dX8_goDaemons_30 : decode cX8_goDaemons 30 = .ok (.iaload, 1) := by decide +kernel
theorem dX8_goDaemons_31 : decode cX8_goDaemons 31 = .ok (.iload_n 1, 1) := by decide +kernel
theorem dX8_goDaemons_32 : decode cX8_goDaemons 32 = .ok (.if_icmp .ne 32, 3) := by decide +kernel
theorem dX8_goDaemons_35 : decode cX8_goDaemons 35 = .ok (.aload_n 0, 1) := by decide +kernel
theorem dX8_goDaemons_36 : decode cX8_goDaemons 36 = .ok (.getfield 7, 3) := by decide +kernel
theorem dX8_goDaemons_39 : decode cX8_goDaemons 39 = .ok (.bipush 59, 2) := by decide +kernel
theorem dX8_goDaemons_41 : decode cX8_goDaemons 41 = .ok (.iload_n 2, 1) := by decide +kernel
theorem dX8_goDaemons_42 : decode cX8_goDaemons 42 = .ok (.iadd, 1) := by decide +kernel
theorem dX8_goDaemons_43 : decode cX8_goDaemons 43 = .ok (.iaload, 1) := by decide +kernel
theorem dX8_goDaemons_44 : decode cX8_goDaemons 44 = .ok (.iconst 1, 1) := by decide +kernel
theorem dX8_goDaemons_45 : decode cX8_goDaemons 45 = .ok (.if_icmp .ne 19, 3) := by decide +kernel
theorem dX8_goDaemons_48 : decode cX8_goDaemons 48 = .ok (.aload_n 0, 1) := by decide +kernel
theorem dX8_goDaemons_49 : decode cX8_goDaemons 49 = .ok (.iconst 2, 1) := by decide +kernel
theorem dX8_goDaemons_50 : decode cX8_goDaemons 50 = .ok (.iload_n 2, 1) := by decide +kernel
theorem dX8_goDaemons_51 : decode cX8_goDaemons 51 = .ok (.invokevirtual 133, 3) := by decide +kernel
theorem dX8_goDaemons_54 : decode cX8_goDaemons 54 = .ok (.aload_n 0, 1) := by decide +kernel
theorem dX8_goDaemons_55 : decode cX8_goDaemons 55 = .ok (.aload_n 0, 1) := by decide +kernel
theorem dX8_goDaemons_56 : decode cX8_goDaemons 56 = .ok (.getfield 60, 3) := by decide +kernel
theorem dX8_goDaemons_59 : decode cX8_goDaemons 59 = .ok (.iload_n 2, 1) := by decide +kernel
theorem dX8_goDaemons_60 : decode cX8_goDaemons 60 = .ok (.iaload, 1) := by decide +kernel
theorem dX8_goDaemons_61 : decode cX8_goDaemons 61 = .ok (.invokevirtual 126, 3) := by decide +kernel
theorem dX8_goDaemons_64 : decode cX8_goDaemons 64 = .ok (.iinc 2 1, 3) := by decide +kernel
theorem dX8_goDaemons_67 : decode cX8_goDaemons 67 = .ok (.goto (-57), 3) := by decide +kernel
theorem dX8_goDaemons_70 : decode cX8_goDaemons 70 = .ok (.iinc 1 1, 3) := by decide +kernel
theorem dX8_goDaemons_73 : decode cX8_goDaemons 73 = .ok (.goto (-71), 3) := by decide +kernel
theorem dX8_goDaemons_76 : decode cX8_goDaemons 76 = .ok (.return_, 1) := by decide +kernel
theorem dX8_findWays_0 : decode cX8_findWays 0 = .ok (.iconst 0, 1) := by decide +kernel
theorem dX8_findWays_1 : decode cX8_findWays 1 = .ok (.istore_n 2, 1) := by decide +kernel
theorem dX8_findWays_2 : decode cX8_findWays 2 = .ok (.iload_n 2, 1) := by decide +kernel
theorem dX8_findWays_3 : decode cX8_findWays 3 = .ok (.aload_n 0, 1) := by decide +kernel
theorem dX8_findWays_4 : decode cX8_findWays 4 = .ok (.getfield 82, 3) := by decide +kernel
theorem dX8_findWays_7 : decode cX8_findWays 7 = .ok (.if_icmp .ge 25, 3) := by decide +kernel
theorem dX8_findWays_10 : decode cX8_findWays 10 = .ok (.aload_n 0, 1) := by decide +kernel
theorem dX8_findWays_11 : decode cX8_findWays 11 = .ok (.getfield 72, 3) := by decide +kernel
theorem dX8_findWays_14 : decode cX8_findWays 14 = .ok (.iload_n 2, 1) := by decide +kernel
theorem dX8_findWays_15 : decode cX8_findWays 15 = .ok (.iload_n 2, 1) := by decide +kernel
theorem dX8_findWays_16 : decode cX8_findWays 16 = .ok (.iload_n 1, 1) := by decide +kernel
theorem dX8_findWays_17 : decode cX8_findWays 17 = .ok (.if_icmp .ne 7, 3) := by decide +kernel
theorem dX8_findWays_20 : decode cX8_findWays 20 = .ok (.iconst 0, 1) := by decide +kernel
theorem dX8_findWays_21 : decode cX8_findWays 21 = .ok (.goto 4, 3) := by decide +kernel
theorem dX8_findWays_24 : decode cX8_findWays 24 = .ok (.iconst (-1), 1) := by decide +kernel
theorem dX8_findWays_25 : decode cX8_findWays 25 = .ok (.iastore, 1) := by decide +kernel
theorem dX8_findWays_26 : decode cX8_findWays 26 = .ok (.iinc 2 1, 3) := by decide +kernel
theorem dX8_findWays_29 : decode cX8_findWays 29 = .ok (.goto (-27), 3) := by decide +kernel
theorem dX8_findWays_32 : decode cX8_findWays 32 = .ok (.iconst 0, 1) := by decide +kernel
theorem dX8_findWays_33 : decode cX8_findWays 33 = .ok (.istore_n 2, 1) := by decide +kernel
theorem dX8_findWays_34 : decode cX8_findWays 34 = .ok (.iload_n 2, 1) := by decide +kernel
theorem dX8_findWays_35 : decode cX8_findWays 35 = .ok (.aload_n 0, 1) := by decide +kernel
theorem dX8_findWays_36 : decode cX8_findWays 36 = .ok (.getfield 82, 3) := by decide +kernel
theorem dX8_findWays_39 : decode cX8_findWays 39 = .ok (.if_icmp .ge 70, 3) := by decide +kernel
theorem dX8_findWays_42 : decode cX8_findWays 42 = .ok (.iconst 0, 1) := by decide +kernel
theorem dX8_findWays_43 : decode cX8_findWays 43 = .ok (.istore_n 3, 1) := by decide +kernel
theorem dX8_findWays_44 : decode cX8_findWays 44 = .ok (.iload_n 3, 1) := by decide +kernel
theorem dX8_findWays_45 : decode cX8_findWays 45 = .ok (.aload_n 0, 1) := by decide +kernel
theorem dX8_findWays_46 : decode cX8_findWays 46 = .ok (.getfield 93, 3) := by decide +kernel
theorem dX8_findWays_49 : decode cX8_findWays 49 = .ok (.if_icmp .ge 54, 3) := by decide +kernel
theorem dX8_findWays_52 : decode cX8_findWays 52 = .ok (.aload_n 0, 1) := by decide +kernel
theorem dX8_findWays_53 : decode cX8_findWays 53 = .ok (.getfield 7, 3) := by decide +kernel
theorem dX8_findWays_56 : decode cX8_findWays 56 = .ok (.bipush 12, 2) := by decide +kernel
theorem dX8_findWays_58 : decode cX8_findWays 58 = .ok (.iload_n 3, 1) := by decide +kernel
theorem dX8_findWays_59 : decode cX8_findWays 59 = .ok (.iadd, 1) := by decide +kernel
theorem dX8_findWays_60 : decode cX8_findWays 60 = .ok (.iaload, 1) := by decide +kernel
theorem dX8_findWays_61 : decode cX8_findWays 61 = .ok (.iconst 1, 1) := by decide +kernel
theorem dX8_findWays_62 : decode cX8_findWays 62 = .ok (.if_icmp .ne 35, 3) := by decide +kernel
theorem dX8_findWays_65 : decode cX8_findWays 65 = .ok (.aload_n 0, 1) := by decide +kernel
theorem dX8_findWays_66 : decode cX8_findWays 66 = .ok (.aload_n 0, 1) := by decide +kernel
theorem dX8_findWays_67 : decode cX8_findWays 67 = .ok (.getfield 20, 3) := by decide +kernel
theorem dX8_findWays_70 : decode cX8_findWays 70 = .ok (.iload_n 3, 1) := by decide +kernel
theorem dX8_findWays_71 : decode cX8_findWays 71 = .ok (.iaload, 1) := by decide +kernel
theorem dX8_findWays_72 : decode cX8_findWays 72 = .ok (.aload_n 0, 1) := by decide +kernel
theorem dX8_findWays_73 : decode cX8_findWays 73 = .ok (.getfield 23, 3) := by decide +kernel
theorem dX8_findWays_76 : decode cX8_findWays 76 = .ok (.iload_n 3, 1) := by decide +kernel
theorem dX8_findWays_77 : decode cX8_findWays 77 = .ok (.iaload, 1) := by decide +kernel
theorem dX8_findWays_78 : decode cX8_findWays 78 = .ok (.invokevirtual 137, 3) := by decide +kernel
theorem dX8_findWays_81 : decode cX8_findWays 81 = .ok (.aload_n 0, 1) := by decide +kernel
theorem dX8_findWays_82 : decode cX8_findWays 82 = .ok (.aload_n 0, 1) := by decide +kernel
theorem dX8_findWays_83 : decode cX8_findWays 83 = .ok (.getfield 23, 3) := by decide +kernel
theorem dX8_findWays_86 : decode cX8_findWays 86 = .ok (.iload_n 3, 1) := by decide +kernel
theorem dX8_findWays_87 : decode cX8_findWays 87 = .ok (.iaload, 1) := by decide +kernel
theorem dX8_findWays_88 : decode cX8_findWays 88 = .ok (.aload_n 0, 1) := by decide +kernel
theorem dX8_findWays_89 : decode cX8_findWays 89 = .ok (.getfield 20, 3) := by decide +kernel
theorem dX8_findWays_92 : decode cX8_findWays 92 = .ok (.iload_n 3, 1) := by decide +kernel
theorem dX8_findWays_93 : decode cX8_findWays 93 = .ok (.iaload, 1) := by decide +kernel
theorem dX8_findWays_94 : decode cX8_findWays 94 = .ok (.invokevirtual 137, 3) := by decide +kernel
theorem dX8_findWays_97 : decode cX8_findWays 97 = .ok (.iinc 3 1, 3) := by decide +kernel
theorem dX8_findWays_100 : decode cX8_findWays 100 = .ok (.goto (-56), 3) := by decide +kernel
theorem dX8_findWays_103 : decode cX8_findWays 103 = .ok (.iinc 2 1, 3) := by decide +kernel
theorem dX8_findWays_106 : decode cX8_findWays 106 = .ok (.goto (-72), 3) := by decide +kernel
theorem dX8_findWays_109 : decode cX8_findWays 109 = .ok (.return_, 1) := by decide +kernel
theorem dX8_step_0 : decode cX8_step 0 = .ok (.aload_n 0, 1) := by decide +kernel
theorem dX8_step_1 : decode cX8_step 1 = .ok (.getfield 72, 3) := by decide +kernel
theorem dX8_step_4 : decode cX8_step 4 = .ok (.iload_n 1, 1) := by decide +kernel
theorem dX8_step_5 : decode cX8_step 5 = .ok (.iaload, 1) := by decide +kernel
theorem dX8_step_6 : decode cX8_step 6 = .ok (.iconst (-1), 1) := by decide +kernel
theorem dX8_step_7 : decode cX8_step 7 = .ok (.if_icmp .eq 44, 3) := by decide +kernel
theorem dX8_step_10 : decode cX8_step 10 = .ok (.aload_n 0, 1) := by decide +kernel
theorem dX8_step_11 : decode cX8_step 11 = .ok (.getfield 72, 3) := by decide +kernel
theorem dX8_step_14 : decode cX8_step 14 = .ok (.iload_n 2, 1) := by decide +kernel
theorem dX8_step_15 : decode cX8_step 15 = .ok (.iaload, 1) := by decide +kernel
theorem dX8_step_16 : decode cX8_step 16 = .ok (.iconst (-1), 1) := by decide +kernel
theorem dX8_step_17 : decode cX8_step 17 = .ok (.if_icmp .eq 20, 3) := by decide +kernel
theorem dX8_step_20 : decode cX8_step 20 = .ok (.aload_n 0, 1) := by decide +kernel
theorem dX8_step_21 : decode cX8_step 21 = .ok (.getfield 72, 3) := by decide +kernel
theorem dX8_step_24 : decode cX8_step 24 = .ok (.iload_n 2, 1) := by decide +kernel
theorem dX8_step_25 : decode cX8_step 25 = .ok (.iaload, 1) := by decide +kernel
theorem dX8_step_26 : decode cX8_step 26 = .ok (.aload_n 0, 1) := by decide +kernel
theorem dX8_step_27 : decode cX8_step 27 = .ok (.getfield 72, 3) := by decide +kernel
theorem dX8_step_30 : decode cX8_step 30 = .ok (.iload_n 1, 1) := by decide +kernel
theorem dX8_step_31 : decode cX8_step 31 = .ok (.iaload, 1) := by decide +kernel
theorem dX8_step_32 : decode cX8_step 32 = .ok (.iconst 1, 1) := by decide +kernel
theorem dX8_step_33 : decode cX8_step 33 = .ok (.iadd, 1) := by decide +kernel
theorem dX8_step_34 : decode cX8_step 34 = .ok (.if_icmp .le 17, 3) := by decide +kernel
theorem dX8_step_37 : decode cX8_step 37 = .ok (.aload_n 0, 1) := by decide +kernel
theorem dX8_step_38 : decode cX8_step 38 = .ok (.getfield 72, 3) := by decide +kernel
theorem dX8_step_41 : decode cX8_step 41 = .ok (.iload_n 2, 1) := by decide +kernel
theorem dX8_step_42 : decode cX8_step 42 = .ok (.aload_n 0, 1) := by decide +kernel
theorem dX8_step_43 : decode cX8_step 43 = .ok (.getfield 72, 3) := by decide +kernel
theorem dX8_step_46 : decode cX8_step 46 = .ok (.iload_n 1, 1) := by decide +kernel
theorem dX8_step_47 : decode cX8_step 47 = .ok (.iaload, 1) := by decide +kernel
theorem dX8_step_48 : decode cX8_step 48 = .ok (.iconst 1, 1) := by decide +kernel
theorem dX8_step_49 : decode cX8_step 49 = .ok (.iadd, 1) := by decide +kernel
theorem dX8_step_50 : decode cX8_step 50 = .ok (.iastore, 1) := by decide +kernel
theorem dX8_step_51 : decode cX8_step 51 = .ok (.return_, 1) := by decide +kernel
theorem dX8_isJoined_0 : decode cX8_isJoined 0 = .ok (.iconst 0, 1) := by decide +kernel
theorem dX8_isJoined_1 : decode cX8_isJoined 1 = .ok (.istore_n 3, 1) := by decide +kernel
theorem dX8_isJoined_2 : decode cX8_isJoined 2 = .ok (.iconst 0, 1) := by decide +kernel
theorem dX8_isJoined_3 : decode cX8_isJoined 3 = .ok (.istore 4, 2) := by decide +kernel
theorem dX8_isJoined_5 : decode cX8_isJoined 5 = .ok (.iload 4, 2) := by decide +kernel
theorem dX8_isJoined_7 : decode cX8_isJoined 7 = .ok (.aload_n 0, 1) := by decide +kernel
theorem dX8_isJoined_8 : decode cX8_isJoined 8 = .ok (.getfield 93, 3) := by decide +kernel
theorem dX8_isJoined_11 : decode cX8_isJoined 11 = .ok (.if_icmp .ge 89, 3) := by decide +kernel
theorem dX8_isJoined_14 : decode cX8_isJoined 14 = .ok (.aload_n 0, 1) := by decide +kernel
theorem dX8_isJoined_15 : decode cX8_isJoined 15 = .ok (.getfield 20, 3) := by decide +kernel
theorem dX8_isJoined_18 : decode cX8_isJoined 18 = .ok (.iload 4, 2) := by decide +kernel
theorem dX8_isJoined_20 : decode cX8_isJoined 20 = .ok (.iaload, 1) := by decide +kernel
theorem dX8_isJoined_21 : decode cX8_isJoined 21 = .ok (.iload_n 1, 1) := by decide +kernel
theorem dX8_isJoined_22 : decode cX8_isJoined 22 = .ok (.if_icmp .ne 14, 3) := by decide +kernel
theorem dX8_isJoined_25 : decode cX8_isJoined 25 = .ok (.aload_n 0, 1) := by decide +kernel
theorem dX8_isJoined_26 : decode cX8_isJoined 26 = .ok (.getfield 23, 3) := by decide +kernel
theorem dX8_isJoined_29 : decode cX8_isJoined 29 = .ok (.iload 4, 2) := by decide +kernel
theorem dX8_isJoined_31 : decode cX8_isJoined 31 = .ok (.iaload, 1) := by decide +kernel
theorem dX8_isJoined_32 : decode cX8_isJoined 32 = .ok (.iload_n 2, 1) := by decide +kernel
theorem dX8_isJoined_33 : decode cX8_isJoined 33 = .ok (.if_icmp .eq 25, 3) := by decide +kernel
theorem dX8_isJoined_36 : decode cX8_isJoined 36 = .ok (.aload_n 0, 1) := by decide +kernel
theorem dX8_isJoined_37 : decode cX8_isJoined 37 = .ok (.getfield 20, 3) := by decide +kernel
theorem dX8_isJoined_40 : decode cX8_isJoined 40 = .ok (.iload 4, 2) := by decide +kernel
theorem dX8_isJoined_42 : decode cX8_isJoined 42 = .ok (.iaload, 1) := by decide +kernel
theorem dX8_isJoined_43 : decode cX8_isJoined 43 = .ok (.iload_n 2, 1) := by decide +kernel
theorem dX8_isJoined_44 : decode cX8_isJoined 44 = .ok (.if_icmp .ne 18, 3) := by decide +kernel
theorem dX8_isJoined_47 : decode cX8_isJoined 47 = .ok (.aload_n 0, 1) := by decide +kernel
theorem dX8_isJoined_48 : decode cX8_isJoined 48 = .ok (.getfield 23, 3) := by decide +kernel
theorem dX8_isJoined_51 : decode cX8_isJoined 51 = .ok (.iload 4, 2) := by decide +kernel
theorem dX8_isJoined_53 : decode cX8_isJoined 53 = .ok (.iaload, 1) := by decide +kernel
theorem dX8_isJoined_54 : decode cX8_isJoined 54 = .ok (.iload_n 1, 1) := by decide +kernel
theorem dX8_isJoined_55 : decode cX8_isJoined 55 = .ok (.if_icmp .ne 7, 3) := by decide +kernel
theorem dX8_isJoined_58 : decode cX8_isJoined 58 = .ok (.iconst 1, 1) := by decide +kernel
theorem dX8_isJoined_59 : decode cX8_isJoined 59 = .ok (.goto 4, 3) := by decide +kernel
theorem dX8_isJoined_62 : decode cX8_isJoined 62 = .ok (.iconst 0, 1) := by decide +kernel
theorem dX8_isJoined_63 : decode cX8_isJoined 63 = .ok (.istore 5, 2) := by decide +kernel
theorem dX8_isJoined_65 : decode cX8_isJoined 65 = .ok (.iload_n 3, 1) := by decide +kernel
theorem dX8_isJoined_66 : decode cX8_isJoined 66 = .ok (.ifCond .ne 22, 3) := by decide +kernel
theorem dX8_isJoined_69 : decode cX8_isJoined 69 = .ok (.iload 5, 2) := by decide +kernel
theorem dX8_isJoined_71 : decode cX8_isJoined 71 = .ok (.ifCond .eq 21, 3) := by decide +kernel
theorem dX8_isJoined_74 : decode cX8_isJoined 74 = .ok (.aload_n 0, 1) := by decide +kernel
theorem dX8_isJoined_75 : decode cX8_isJoined 75 = .ok (.getfield 7, 3) := by decide +kernel
theorem dX8_isJoined_78 : decode cX8_isJoined 78 = .ok (.bipush 12, 2) := by decide +kernel
theorem dX8_isJoined_80 : decode cX8_isJoined 80 = .ok (.iload 4, 2) := by decide +kernel
theorem dX8_isJoined_82 : decode cX8_isJoined 82 = .ok (.iadd, 1) := by decide +kernel
theorem dX8_isJoined_83 : decode cX8_isJoined 83 = .ok (.iaload, 1) := by decide +kernel
theorem dX8_isJoined_84 : decode cX8_isJoined 84 = .ok (.iconst 1, 1) := by decide +kernel
theorem dX8_isJoined_85 : decode cX8_isJoined 85 = .ok (.if_icmp .ne 7, 3) := by decide +kernel
theorem dX8_isJoined_88 : decode cX8_isJoined 88 = .ok (.iconst 1, 1) := by decide +kernel
theorem dX8_isJoined_89 : decode cX8_isJoined 89 = .ok (.goto 4, 3) := by decide +kernel
theorem dX8_isJoined_92 : decode cX8_isJoined 92 = .ok (.iconst 0, 1) := by decide +kernel
theorem dX8_isJoined_93 : decode cX8_isJoined 93 = .ok (.istore_n 3, 1) := by decide +kernel
theorem dX8_isJoined_94 : decode cX8_isJoined 94 = .ok (.iinc 4 1, 3) := by decide +kernel
theorem dX8_isJoined_97 : decode cX8_isJoined 97 = .ok (.goto (-92), 3) := by decide +kernel
theorem dX8_isJoined_100 : decode cX8_isJoined 100 = .ok (.iload_n 3, 1) := by decide +kernel
theorem dX8_isJoined_101 : decode cX8_isJoined 101 = .ok (.ireturn, 1) := by decide +kernel
theorem dX8_goWalkers_0 : decode cX8_goWalkers 0 = .ok (.iconst 0, 1) := by decide +kernel
theorem dX8_goWalkers_1 : decode cX8_goWalkers 1 = .ok (.istore_n 1, 1) := by decide +kernel
theorem dX8_goWalkers_2 : decode cX8_goWalkers 2 = .ok (.iload_n 1, 1) := by decide +kernel
theorem dX8_goWalkers_3 : decode cX8_goWalkers 3 = .ok (.aload_n 0, 1) := by decide +kernel
theorem dX8_goWalkers_4 : decode cX8_goWalkers 4 = .ok (.getfield 96, 3) := by decide +kernel
theorem dX8_goWalkers_7 : decode cX8_goWalkers 7 = .ok (.if_icmp .ge 162, 3) := by decide +kernel
theorem dX8_goWalkers_10 : decode cX8_goWalkers 10 = .ok (.aload_n 0, 1) := by decide +kernel
theorem dX8_goWalkers_11 : decode cX8_goWalkers 11 = .ok (.getfield 123, 3) := by decide +kernel
theorem dX8_goWalkers_14 : decode cX8_goWalkers 14 = .ok (.ifCond .ne 155, 3) := by decide +kernel
theorem dX8_goWalkers_17 : decode cX8_goWalkers 17 = .ok (.aload_n 0, 1) := by decide +kernel
theorem dX8_goWalkers_18 : decode cX8_goWalkers 18 = .ok (.getfield 7, 3) := by decide +kernel
theorem dX8_goWalkers_21 : decode cX8_goWalkers 21 = .ok (.bipush 31, 2) := by decide +kernel
theorem dX8_goWalkers_23 : decode cX8_goWalkers 23 = .ok (.iload_n 1, 1) := by decide +kernel
theorem dX8_goWalkers_24 : decode cX8_goWalkers 24 = .ok (.iadd, 1) := by decide +kernel
theorem dX8_goWalkers_25 : decode cX8_goWalkers 25 = .ok (.iaload, 1) := by decide +kernel
theorem dX8_goWalkers_26 : decode cX8_goWalkers 26 = .ok (.istore_n 2, 1) := by decide +kernel
theorem dX8_goWalkers_27 : decode cX8_goWalkers 27 = .ok (.aload_n 0, 1) := by decide +kernel
theorem dX8_goWalkers_28 : decode cX8_goWalkers 28 = .ok (.getfield 7, 3) := by decide +kernel
theorem dX8_goWalkers_31 : decode cX8_goWalkers 31 = .ok (.bipush 27, 2) := by decide +kernel
theorem dX8_goWalkers_33 : decode cX8_goWalkers 33 = .ok (.iload_n 1, 1) := by decide +kernel
theorem dX8_goWalkers_34 : decode cX8_goWalkers 34 = .ok (.iadd, 1) := by decide +kernel
theorem dX8_goWalkers_35 : decode cX8_goWalkers 35 = .ok (.iaload, 1) := by decide +kernel
theorem dX8_goWalkers_36 : decode cX8_goWalkers 36 = .ok (.istore_n 3, 1) := by decide +kernel
theorem dX8_goWalkers_37 : decode cX8_goWalkers 37 = .ok (.iconst (-1), 1) := by decide +kernel
theorem dX8_goWalkers_38 : decode cX8_goWalkers 38 = .ok (.istore 4, 2) := by decide +kernel
theorem dX8_goWalkers_40 : decode cX8_goWalkers 40 = .ok (.iload_n 2, 1) := by decide +kernel
theorem dX8_goWalkers_41 : decode cX8_goWalkers 41 = .ok (.iconst (-1), 1) := by decide +kernel
theorem dX8_goWalkers_42 : decode cX8_goWalkers 42 = .ok (.if_icmp .eq 8, 3) := by decide +kernel
theorem dX8_goWalkers_45 : decode cX8_goWalkers 45 = .ok (.aload_n 0, 1) := by decide +kernel
theorem dX8_goWalkers_46 : decode cX8_goWalkers 46 = .ok (.iload_n 2, 1) := by decide +kernel
theorem dX8_goWalkers_47 : decode cX8_goWalkers 47 = .ok (.invokevirtual 140, 3) := by decide +kernel
theorem dX8_goWalkers_50 : decode cX8_goWalkers 50 = .ok (.aload_n 0, 1) := by decide +kernel
theorem dX8_goWalkers_51 : decode cX8_goWalkers 51 = .ok (.getfield 82, 3) := by decide +kernel
theorem dX8_goWalkers_54 : decode cX8_goWalkers 54 = .ok (.iconst 1, 1) := by decide +kernel
theorem dX8_goWalkers_55 : decode cX8_goWalkers 55 = .ok (.isub, 1) := by decide +kernel
theorem dX8_goWalkers_56 : decode cX8_goWalkers 56 = .ok (.istore 5, 2) := by decide +kernel
theorem dX8_goWalkers_58 : decode cX8_goWalkers 58 = .ok (.iload 5, 2) := by decide +kernel
theorem dX8_goWalkers_60 : decode cX8_goWalkers 60 = .ok (.ifCond .lt 60, 3) := by decide +kernel
theorem dX8_goWalkers_63 : decode cX8_goWalkers 63 = .ok (.iload_n 2, 1) := by decide +kernel
theorem dX8_goWalkers_64 : decode cX8_goWalkers 64 = .ok (.iconst (-1), 1) := by decide +kernel
theorem dX8_goWalkers_65 : decode cX8_goWalkers 65 = .ok (.if_icmp .eq 55, 3) := by decide +kernel
theorem dX8_goWalkers_68 : decode cX8_goWalkers 68 = .ok (.aload_n 0, 1) := by decide +kernel
theorem dX8_goWalkers_69 : decode cX8_goWalkers 69 = .ok (.getfield 72, 3) := by decide +kernel
theorem dX8_goWalkers_72 : decode cX8_goWalkers 72 = .ok (.iload_n 3, 1) := by decide +kernel
theorem dX8_goWalkers_73 : decode cX8_goWalkers 73 = .ok (.iaload, 1) := by decide +kernel
theorem dX8_goWalkers_74 : decode cX8_goWalkers 74 = .ok (.ifCond .le 36, 3) := by decide +kernel
theorem dX8_goWalkers_77 : decode cX8_goWalkers 77 = .ok (.aload_n 0, 1) := by decide +kernel
theorem dX8_goWalkers_78 : decode cX8_goWalkers 78 = .ok (.getfield 72, 3) := by decide +kernel
theorem dX8_goWalkers_81 : decode cX8_goWalkers 81 = .ok (.iload 5, 2) := by decide +kernel
theorem dX8_goWalkers_83 : decode cX8_goWalkers 83 = .ok (.iaload, 1) := by decide +kernel
theorem dX8_goWalkers_84 : decode cX8_goWalkers 84 = .ok (.aload_n 0, 1) := by decide +kernel
theorem dX8_goWalkers_85 : decode cX8_goWalkers 85 = .ok (.getfield 72, 3) := by decide +kernel
theorem dX8_goWalkers_88 : decode cX8_goWalkers 88 = .ok (.iload_n 3, 1) := by decide +kernel
theorem dX8_goWalkers_89 : decode cX8_goWalkers 89 = .ok (.iaload, 1) := by decide +kernel
theorem dX8_goWalkers_90 : decode cX8_goWalkers 90 = .ok (.iconst 1, 1) := by decide +kernel
theorem dX8_goWalkers_91 : decode cX8_goWalkers 91 = .ok (.isub, 1) := by decide +kernel
theorem dX8_goWalkers_92 : decode cX8_goWalkers 92 = .ok (.if_icmp .ne 18, 3) := by decide +kernel
theorem dX8_goWalkers_95 : decode cX8_goWalkers 95 = .ok (.aload_n 0, 1) := by decide +kernel
theorem dX8_goWalkers_96 : decode cX8_goWalkers 96 = .ok (.iload_n 3, 1) := by decide +kernel
theorem dX8_goWalkers_97 : decode cX8_goWalkers 97 = .ok (.iload 5, 2) := by decide +kernel
theorem dX8_goWalkers_99 : decode cX8_goWalkers 99 = .ok (.invokevirtual 143, 3) := by decide +kernel
theorem dX8_goWalkers_102 : decode cX8_goWalkers 102 = .ok (.ifCond .eq 8, 3) := by decide +kernel
theorem dX8_goWalkers_105 : decode cX8_goWalkers 105 = .ok (.iload 5, 2) := by decide +kernel
theorem dX8_goWalkers_107 : decode cX8_goWalkers 107 = .ok (.goto 5, 3) := by decide +kernel
theorem dX8_goWalkers_110 : decode cX8_goWalkers 110 = .ok (.iload 4, 2) := by decide +kernel
theorem dX8_goWalkers_112 : decode cX8_goWalkers 112 = .ok (.istore 4, 2) := by decide +kernel
theorem dX8_goWalkers_114 : decode cX8_goWalkers 114 = .ok (.iinc 5 (-1), 3) := by decide +kernel
theorem dX8_goWalkers_117 : decode cX8_goWalkers 117 = .ok (.goto (-59), 3) := by decide +kernel
theorem dX8_goWalkers_120 : decode cX8_goWalkers 120 = .ok (.iload 4, 2) := by decide +kernel
theorem dX8_goWalkers_122 : decode cX8_goWalkers 122 = .ok (.iconst (-1), 1) := by decide +kernel
theorem dX8_goWalkers_123 : decode cX8_goWalkers 123 = .ok (.if_icmp .eq 40, 3) := by decide +kernel
theorem dX8_goWalkers_126 : decode cX8_goWalkers 126 = .ok (.aload_n 0, 1) := by decide +kernel
theorem dX8_goWalkers_127 : decode cX8_goWalkers 127 = .ok (.getfield 7, 3) := by decide +kernel
theorem dX8_goWalkers_130 : decode cX8_goWalkers 130 = .ok (.bipush 27, 2) := by decide +kernel
theorem dX8_goWalkers_132 : decode cX8_goWalkers 132 = .ok (.iload_n 1, 1) := by decide +kernel
theorem dX8_goWalkers_133 : decode cX8_goWalkers 133 = .ok (.iadd, 1) := by decide +kernel
theorem dX8_goWalkers_134 : decode cX8_goWalkers 134 = .ok (.iload 4, 2) := by decide +kernel
theorem dX8_goWalkers_136 : decode cX8_goWalkers 136 = .ok (.iastore, 1) := by decide +kernel
theorem dX8_goWalkers_137 : decode cX8_goWalkers 137 = .ok (.aload_n 0, 1) := by decide +kernel
theorem dX8_goWalkers_138 : decode cX8_goWalkers 138 = .ok (.getfield 7, 3) := by decide +kernel
theorem dX8_goWalkers_141 : decode cX8_goWalkers 141 = .ok (.bipush 31, 2) := by decide +kernel
theorem dX8_goWalkers_143 : decode cX8_goWalkers 143 = .ok (.iload_n 1, 1) := by decide +kernel
theorem dX8_goWalkers_144 : decode cX8_goWalkers 144 = .ok (.iadd, 1) := by decide +kernel
theorem dX8_goWalkers_145 : decode cX8_goWalkers 145 = .ok (.iload 4, 2) := by decide +kernel
theorem dX8_goWalkers_147 : decode cX8_goWalkers 147 = .ok (.iload_n 2, 1) := by decide +kernel
theorem dX8_goWalkers_148 : decode cX8_goWalkers 148 = .ok (.if_icmp .ne 7, 3) := by decide +kernel
theorem dX8_goWalkers_151 : decode cX8_goWalkers 151 = .ok (.iconst (-1), 1) := by decide +kernel
theorem dX8_goWalkers_152 : decode cX8_goWalkers 152 = .ok (.goto 4, 3) := by decide +kernel
theorem dX8_goWalkers_155 : decode cX8_goWalkers 155 = .ok (.iload_n 2, 1) := by decide +kernel
theorem dX8_goWalkers_156 : decode cX8_goWalkers 156 = .ok (.iastore, 1) := by decide +kernel
theorem dX8_goWalkers_157 : decode cX8_goWalkers 157 = .ok (.aload_n 0, 1) := by decide +kernel
theorem dX8_goWalkers_158 : decode cX8_goWalkers 158 = .ok (.iconst 3, 1) := by decide +kernel
theorem dX8_goWalkers_159 : decode cX8_goWalkers 159 = .ok (.iload_n 1, 1) := by decide +kernel
theorem dX8_goWalkers_160 : decode cX8_goWalkers 160 = .ok (.invokevirtual 133, 3) := by decide +kernel
theorem dX8_goWalkers_163 : decode cX8_goWalkers 163 = .ok (.iinc 1 1, 3) := by decide +kernel
theorem dX8_goWalkers_166 : decode cX8_goWalkers 166 = .ok (.goto (-164), 3) := by decide +kernel
theorem dX8_goWalkers_169 : decode cX8_goWalkers 169 = .ok (.return_, 1) := by decide +kernel
theorem dX8_turn_0 : decode cX8_turn 0 = .ok (.aload_n 0, 1) := by decide +kernel
theorem dX8_turn_1 : decode cX8_turn 1 = .ok (.getfield 75, 3) := by decide +kernel
theorem dX8_turn_4 : decode cX8_turn 4 = .ok (.bipush 8, 2) := by decide +kernel
theorem dX8_turn_6 : decode cX8_turn 6 = .ok (.if_icmp .ne 40, 3) := by decide +kernel
theorem dX8_turn_9 : decode cX8_turn 9 = .ok (.iconst 0, 1) := by decide +kernel
theorem dX8_turn_10 : decode cX8_turn 10 = .ok (.istore_n 1, 1) := by decide +kernel
theorem dX8_turn_11 : decode cX8_turn 11 = .ok (.iload_n 1, 1) := by decide +kernel
theorem dX8_turn_12 : decode cX8_turn 12 = .ok (.sipush 1344, 3) := by decide +kernel
theorem dX8_turn_15 : decode cX8_turn 15 = .ok (.if_icmp .ge 25, 3) := by decide +kernel
theorem dX8_turn_18 : decode cX8_turn 18 = .ok (.aload_n 0, 1) := by decide +kernel
theorem dX8_turn_19 : decode cX8_turn 19 = .ok (.getfield 13, 3) := by decide +kernel
theorem dX8_turn_22 : decode cX8_turn 22 = .ok (.iload_n 1, 1) := by decide +kernel
theorem dX8_turn_23 : decode cX8_turn 23 = .ok (.aload_n 0, 1) := by decide +kernel
theorem dX8_turn_24 : decode cX8_turn 24 = .ok (.getfield 13, 3) := by decide +kernel
theorem dX8_turn_27 : decode cX8_turn 27 = .ok (.iload_n 1, 1) := by decide +kernel
theorem dX8_turn_28 : decode cX8_turn 28 = .ok (.sipush 192, 3) := by decide +kernel
theorem dX8_turn_31 : decode cX8_turn 31 = .ok (.iadd, 1) := by decide +kernel
theorem dX8_turn_32 : decode cX8_turn 32 = .ok (.iaload, 1) := by decide +kernel
theorem dX8_turn_33 : decode cX8_turn 33 = .ok (.iastore, 1) := by decide +kernel
theorem dX8_turn_34 : decode cX8_turn 34 = .ok (.iinc 1 1, 3) := by decide +kernel
theorem dX8_turn_37 : decode cX8_turn 37 = .ok (.goto (-26), 3) := by decide +kernel
theorem dX8_turn_40 : decode cX8_turn 40 = .ok (.aload_n 0, 1) := by decide +kernel
theorem dX8_turn_41 : decode cX8_turn 41 = .ok (.bipush 7, 2) := by decide +kernel
theorem dX8_turn_43 : decode cX8_turn 43 = .ok (.putfield 75, 3) := by decide +kernel
theorem dX8_turn_46 : decode cX8_turn 46 = .ok (.iconst 0, 1) := by decide +kernel
theorem dX8_turn_47 : decode cX8_turn 47 = .ok (.istore_n 1, 1) := by decide +kernel
theorem dX8_turn_48 : decode cX8_turn 48 = .ok (.iload_n 1, 1) := by decide +kernel
theorem dX8_turn_49 : decode cX8_turn 49 = .ok (.sipush 192, 3) := by decide +kernel
theorem dX8_turn_52 : decode cX8_turn 52 = .ok (.if_icmp .ge 30, 3) := by decide +kernel
theorem dX8_turn_55 : decode cX8_turn 55 = .ok (.aload_n 0, 1) := by decide +kernel
theorem dX8_turn_56 : decode cX8_turn 56 = .ok (.getfield 13, 3) := by decide +kernel
theorem dX8_turn_59 : decode cX8_turn 59 = .ok (.sipush 192, 3) := by decide +kernel
theorem dX8_turn_62 : decode cX8_turn 62 = .ok (.aload_n 0, 1) := by decide +kernel
theorem dX8_turn_63 : decode cX8_turn 63 = .ok (.getfield 75, 3) := by decide +kernel
theorem dX8_turn_66 : decode cX8_turn 66 = .ok (.imul, 1) := by decide +kernel
theorem dX8_turn_67 : decode cX8_turn 67 = .ok (.iload_n 1, 1) := by decide +kernel
theorem dX8_turn_68 : decode cX8_turn 68 = .ok (.iadd, 1) := by decide +kernel
theorem dX8_turn_69 : decode cX8_turn 69 = .ok (.aload_n 0, 1) := by decide +kernel
theorem dX8_turn_70 : decode cX8_turn 70 = .ok (.getfield 7, 3) := by decide +kernel
theorem dX8_turn_73 : decode cX8_turn 73 = .ok (.iload_n 1, 1) := by decide +kernel
theorem dX8_turn_74 : decode cX8_turn 74 = .ok (.iaload, 1) := by decide +kernel
theorem dX8_turn_75 : decode cX8_turn 75 = .ok (.iastore, 1) := by decide +kernel
theorem dX8_turn_76 : decode cX8_turn 76 = .ok (.iinc 1 1, 3) := by decide +kernel
theorem dX8_turn_79 : decode cX8_turn 79 = .ok (.goto (-31), 3) := by decide +kernel
theorem dX8_turn_82 : decode cX8_turn 82 = .ok (.aload_n 0, 1) := by decide +kernel
theorem dX8_turn_83 : decode cX8_turn 83 = .ok (.dup, 1) := by decide +kernel
theorem dX8_turn_84 : decode cX8_turn 84 = .ok (.getfield 75, 3) := by decide +kernel
theorem dX8_turn_87 : decode cX8_turn 87 = .ok (.iconst 1, 1) := by decide +kernel
theorem dX8_turn_88 : decode cX8_turn 88 = .ok (.iadd, 1) := by decide +kernel
theorem dX8_turn_89 : decode cX8_turn 89 = .ok (.putfield 75, 3) := by decide +kernel
theorem dX8_turn_92 : decode cX8_turn 92 = .ok (.aload_n 0, 1) := by decide +kernel
theorem dX8_turn_93 : decode cX8_turn 93 = .ok (.iconst 1, 1) := by decide +kernel
theorem dX8_turn_94 : decode cX8_turn 94 = .ok (.putfield 119, 3) := by decide +kernel
theorem dX8_turn_97 : decode cX8_turn 97 = .ok (.aload_n 0, 1) := by decide +kernel
theorem dX8_turn_98 : decode cX8_turn 98 = .ok (.iconst 0, 1) := by decide +kernel
theorem dX8_turn_99 : decode cX8_turn 99 = .ok (.putfield 123, 3) := by decide +kernel
theorem dX8_turn_102 : decode cX8_turn 102 = .ok (.aload_n 0, 1) := by decide +kernel
theorem dX8_turn_103 : decode cX8_turn 103 = .ok (.iconst 0, 1) := by decide +kernel
theorem dX8_turn_104 : decode cX8_turn 104 = .ok (.putfield 130, 3) := by decide +kernel
theorem dX8_turn_107 : decode cX8_turn 107 = .ok (.aload_n 0, 1) := by decide +kernel
theorem dX8_turn_108 : decode cX8_turn 108 = .ok (.getfield 7, 3) := by decide +kernel
theorem dX8_turn_111 : decode cX8_turn 111 = .ok (.bipush 71, 2) := by decide +kernel
theorem dX8_turn_113 : decode cX8_turn 113 = .ok (.iconst 0, 1) := by decide +kernel
theorem dX8_turn_114 : decode cX8_turn 114 = .ok (.iastore, 1) := by decide +kernel
theorem dX8_turn_115 : decode cX8_turn 115 = .ok (.aload_n 0, 1) := by decide +kernel
theorem dX8_turn_116 : decode cX8_turn 116 = .ok (.getfield 7, 3) := by decide +kernel
theorem dX8_turn_119 : decode cX8_turn 119 = .ok (.iconst 2, 1) := by decide +kernel
theorem dX8_turn_120 : decode cX8_turn 120 = .ok (.dup2, 1) := by decide +kernel
theorem dX8_turn_121 : decode cX8_turn 121 = .ok (.iaload, 1) := by decide +kernel
theorem dX8_turn_122 : decode cX8_turn 122 = .ok (.iconst 1, 1) := by decide +kernel
theorem dX8_turn_123 : decode cX8_turn 123 = .ok (.iadd, 1) := by decide +kernel
theorem dX8_turn_124 : decode cX8_turn 124 = .ok (.iastore, 1) := by decide +kernel
theorem dX8_turn_125 : decode cX8_turn 125 = .ok (.aload_n 0, 1) := by decide +kernel
theorem dX8_turn_126 : decode cX8_turn 126 = .ok (.invokevirtual 146, 3) := by decide +kernel
theorem dX8_turn_129 : decode cX8_turn 129 = .ok (.aload_n 0, 1) := by decide +kernel
theorem dX8_turn_130 : decode cX8_turn 130 = .ok (.invokevirtual 149, 3) := by decide +kernel
theorem dX8_turn_133 : decode cX8_turn 133 = .ok (.aload_n 0, 1) := by decide +kernel
theorem dX8_turn_134 : decode cX8_turn 134 = .ok (.invokevirtual 152, 3) := by decide +kernel
theorem dX8_turn_137 : decode cX8_turn 137 = .ok (.aload_n 0, 1) := by decide +kernel
theorem dX8_turn_138 : decode cX8_turn 138 = .ok (.invokevirtual 155, 3) := by decide +kernel
theorem dX8_turn_141 : decode cX8_turn 141 = .ok (.aload_n 0, 1) := by decide +kernel
theorem dX8_turn_142 : decode cX8_turn 142 = .ok (.iconst 0, 1) := by decide +kernel
theorem dX8_turn_143 : decode cX8_turn 143 = .ok (.putfield 119, 3) := by decide +kernel
theorem dX8_turn_146 : decode cX8_turn 146 = .ok (.aload_n 0, 1) := by decide +kernel
theorem dX8_turn_147 : decode cX8_turn 147 = .ok (.iconst 0, 1) := by decide +kernel
theorem dX8_turn_148 : decode cX8_turn 148 = .ok (.putfield 123, 3) := by decide +kernel
theorem dX8_turn_151 : decode cX8_turn 151 = .ok (.aload_n 0, 1) := by decide +kernel
theorem dX8_turn_152 : decode cX8_turn 152 = .ok (.getfield 130, 3) := by decide +kernel
theorem dX8_turn_155 : decode cX8_turn 155 = .ok (.ireturn, 1) := by decide +kernel
theorem dX8_back_0 : decode cX8_back 0 = .ok (.aload_n 0, 1) := by decide +kernel
theorem dX8_back_1 : decode cX8_back 1 = .ok (.getfield 75, 3) := by decide +kernel
theorem dX8_back_4 : decode cX8_back 4 = .ok (.ifCond .ne 6, 3) := by decide +kernel
theorem dX8_back_7 : decode cX8_back 7 = .ok (.bipush (-4), 2) := by decide +kernel
theorem dX8_back_9 : decode cX8_back 9 = .ok (.ireturn, 1) := by decide +kernel
theorem dX8_back_10 : decode cX8_back 10 = .ok (.aload_n 0, 1) := by decide +kernel
theorem dX8_back_11 : decode cX8_back 11 = .ok (.dup, 1) := by decide +kernel
theorem dX8_back_12 : decode cX8_back 12 = .ok (.getfield 75, 3) := by decide +kernel
theorem dX8_back_15 : decode cX8_back 15 = .ok (.iconst 1, 1) := by decide +kernel
theorem dX8_back_16 : decode cX8_back 16 = .ok (.isub, 1) := by decide +kernel
theorem dX8_back_17 : decode cX8_back 17 = .ok (.putfield 75, 3) := by decide +kernel
theorem dX8_back_20 : decode cX8_back 20 = .ok (.iconst 0, 1) := by decide +kernel
theorem dX8_back_21 : decode cX8_back 21 = .ok (.istore_n 1, 1) := by decide +kernel
theorem dX8_back_22 : decode cX8_back 22 = .ok (.iload_n 1, 1) := by decide +kernel
theorem dX8_back_23 : decode cX8_back 23 = .ok (.sipush 192, 3) := by decide +kernel
theorem dX8_back_26 : decode cX8_back 26 = .ok (.if_icmp .ge 30, 3) := by decide +kernel
theorem dX8_back_29 : decode cX8_back 29 = .ok (.aload_n 0, 1) := by decide +kernel
theorem dX8_back_30 : decode cX8_back 30 = .ok (.getfield 7, 3) := by decide +kernel
theorem dX8_back_33 : decode cX8_back 33 = .ok (.iload_n 1, 1) := by decide +kernel
theorem dX8_back_34 : decode cX8_back 34 = .ok (.aload_n 0, 1) := by decide +kernel
theorem dX8_back_35 : decode cX8_back 35 = .ok (.getfield 13, 3) := by decide +kernel
theorem dX8_back_38 : decode cX8_back 38 = .ok (.sipush 192, 3) := by decide +kernel
theorem dX8_back_41 : decode cX8_back 41 = .ok (.aload_n 0, 1) := by decide +kernel
theorem dX8_back_42 : decode cX8_back 42 = .ok (.getfield 75, 3) := by decide +kernel
theorem dX8_back_45 : decode cX8_back 45 = .ok (.imul, 1) := by decide +kernel
theorem dX8_back_46 : decode cX8_back 46 = .ok (.iload_n 1, 1) := by decide +kernel
theorem dX8_back_47 : decode cX8_back 47 = .ok (.iadd, 1) := by decide +kernel
theorem dX8_back_48 : decode cX8_back 48 = .ok (.iaload, 1) := by decide +kernel
theorem dX8_back_49 : decode cX8_back 49 = .ok (.iastore, 1) := by decide +kernel
theorem dX8_back_50 : decode cX8_back 50 = .ok (.iinc 1 1, 3) := by decide +kernel
theorem dX8_back_53 : decode cX8_back 53 = .ok (.goto (-31), 3) := by decide +kernel
theorem dX8_back_56 : decode cX8_back 56 = .ok (.aload_n 0, 1) := by decide +kernel
theorem dX8_back_57 : decode cX8_back 57 = .ok (.getfield 75, 3) := by decide +kernel
theorem dX8_back_60 : decode cX8_back 60 = .ok (.ireturn, 1) := by decide +kernel
theorem dX8_told_0 : decode cX8_told 0 = .ok (.iload_n 1, 1) := by decide +kernel
theorem dX8_told_1 : decode cX8_told 1 = .ok (.tableswitch 77 0 5 #[39, 46, 53, 60, 65, 72], 39) := by decide +kernel
theorem dX8_told_40 : decode cX8_told 40 = .ok (.aload_n 0, 1) := by decide +kernel
theorem dX8_told_41 : decode cX8_told 41 = .ok (.getfield 7, 3) := by decide +kernel
theorem dX8_told_44 : decode cX8_told 44 = .ok (.iconst 0, 1) := by decide +kernel
theorem dX8_told_45 : decode cX8_told 45 = .ok (.iaload, 1) := by decide +kernel
theorem dX8_told_46 : decode cX8_told 46 = .ok (.ireturn, 1) := by decide +kernel
theorem dX8_told_47 : decode cX8_told 47 = .ok (.aload_n 0, 1) := by decide +kernel
theorem dX8_told_48 : decode cX8_told 48 = .ok (.getfield 7, 3) := by decide +kernel
theorem dX8_told_51 : decode cX8_told 51 = .ok (.iconst 1, 1) := by decide +kernel
theorem dX8_told_52 : decode cX8_told 52 = .ok (.iaload, 1) := by decide +kernel
theorem dX8_told_53 : decode cX8_told 53 = .ok (.ireturn, 1) := by decide +kernel
theorem dX8_told_54 : decode cX8_told 54 = .ok (.aload_n 0, 1) := by decide +kernel
theorem dX8_told_55 : decode cX8_told 55 = .ok (.getfield 7, 3) := by decide +kernel
theorem dX8_told_58 : decode cX8_told 58 = .ok (.iconst 2, 1) := by decide +kernel
theorem dX8_told_59 : decode cX8_told 59 = .ok (.iaload, 1) := by decide +kernel
theorem dX8_told_60 : decode cX8_told 60 = .ok (.ireturn, 1) := by decide +kernel
theorem dX8_told_61 : decode cX8_told 61 = .ok (.aload_n 0, 1) := by decide +kernel
theorem dX8_told_62 : decode cX8_told 62 = .ok (.getfield 16, 3) := by decide +kernel
theorem dX8_told_65 : decode cX8_told 65 = .ok (.ireturn, 1) := by decide +kernel
theorem dX8_told_66 : decode cX8_told 66 = .ok (.aload_n 0, 1) := by decide +kernel
theorem dX8_told_67 : decode cX8_told 67 = .ok (.getfield 7, 3) := by decide +kernel
theorem dX8_told_70 : decode cX8_told 70 = .ok (.iconst 3, 1) := by decide +kernel
theorem dX8_told_71 : decode cX8_told 71 = .ok (.iaload, 1) := by decide +kernel
theorem dX8_told_72 : decode cX8_told 72 = .ok (.ireturn, 1) := by decide +kernel
theorem dX8_told_73 : decode cX8_told 73 = .ok (.aload_n 0, 1) := by decide +kernel
theorem dX8_told_74 : decode cX8_told 74 = .ok (.getfield 75, 3) := by decide +kernel
theorem dX8_told_77 : decode cX8_told 77 = .ok (.ireturn, 1) := by decide +kernel
theorem dX8_told_78 : decode cX8_told 78 = .ok (.iload_n 1, 1) := by decide +kernel
theorem dX8_told_79 : decode cX8_told 79 = .ok (.bipush 6, 2) := by decide +kernel
theorem dX8_told_81 : decode cX8_told 81 = .ok (.if_icmp .ne 13, 3) := by decide +kernel
theorem dX8_told_84 : decode cX8_told 84 = .ok (.aload_n 0, 1) := by decide +kernel
theorem dX8_told_85 : decode cX8_told 85 = .ok (.getfield 7, 3) := by decide +kernel
theorem dX8_told_88 : decode cX8_told 88 = .ok (.bipush 71, 2) := by decide +kernel
theorem dX8_told_90 : decode cX8_told 90 = .ok (.iaload, 1) := by decide +kernel
theorem dX8_told_91 : decode cX8_told 91 = .ok (.goto 5, 3) := by decide +kernel
theorem dX8_told_94 : decode cX8_told 94 = .ok (.bipush (-3), 2) := by decide +kernel
theorem dX8_told_96 : decode cX8_told 96 = .ok (.ireturn, 1) := by decide +kernel
theorem dX8_count_0 : decode cX8_count 0 = .ok (.iload_n 1, 1) := by decide +kernel
theorem dX8_count_1 : decode cX8_count 1 = .ok (.tableswitch 69 0 5 #[39, 44, 49, 54, 59, 64], 39) := by decide +kernel
theorem dX8_count_40 : decode cX8_count 40 = .ok (.aload_n 0, 1) := by decide +kernel
theorem dX8_count_41 : decode cX8_count 41 = .ok (.getfield 82, 3) := by decide +kernel
theorem dX8_count_44 : decode cX8_count 44 = .ok (.ireturn, 1) := by decide +kernel
theorem dX8_count_45 : decode cX8_count 45 = .ok (.aload_n 0, 1) := by decide +kernel
theorem dX8_count_46 : decode cX8_count 46 = .ok (.getfield 93, 3) := by decide +kernel
theorem dX8_count_49 : decode cX8_count 49 = .ok (.ireturn, 1) := by decide +kernel
theorem dX8_count_50 : decode cX8_count 50 = .ok (.aload_n 0, 1) := by decide +kernel
theorem dX8_count_51 : decode cX8_count 51 = .ok (.getfield 96, 3) := by decide +kernel
theorem dX8_count_54 : decode cX8_count 54 = .ok (.ireturn, 1) := by decide +kernel
theorem dX8_count_55 : decode cX8_count 55 = .ok (.aload_n 0, 1) := by decide +kernel
theorem dX8_count_56 : decode cX8_count 56 = .ok (.getfield 99, 3) := by decide +kernel
theorem dX8_count_59 : decode cX8_count 59 = .ok (.ireturn, 1) := by decide +kernel
theorem dX8_count_60 : decode cX8_count 60 = .ok (.aload_n 0, 1) := by decide +kernel
theorem dX8_count_61 : decode cX8_count 61 = .ok (.getfield 102, 3) := by decide +kernel
theorem dX8_count_64 : decode cX8_count 64 = .ok (.ireturn, 1) := by decide +kernel
theorem dX8_count_65 : decode cX8_count 65 = .ok (.aload_n 0, 1) := by decide +kernel
theorem dX8_count_66 : decode cX8_count 66 = .ok (.getfield 105, 3) := by decide +kernel
theorem dX8_count_69 : decode cX8_count 69 = .ok (.ireturn, 1) := by decide +kernel
theorem dX8_count_70 : decode cX8_count 70 = .ok (.iload_n 1, 1) := by decide +kernel
theorem dX8_count_71 : decode cX8_count 71 = .ok (.bipush 6, 2) := by decide +kernel
theorem dX8_count_73 : decode cX8_count 73 = .ok (.if_icmp .ne 10, 3) := by decide +kernel
theorem dX8_count_76 : decode cX8_count 76 = .ok (.aload_n 0, 1) := by decide +kernel
theorem dX8_count_77 : decode cX8_count 77 = .ok (.getfield 108, 3) := by decide +kernel
theorem dX8_count_80 : decode cX8_count 80 = .ok (.goto 5, 3) := by decide +kernel
theorem dX8_count_83 : decode cX8_count 83 = .ok (.bipush (-3), 2) := by decide +kernel
theorem dX8_count_85 : decode cX8_count 85 = .ok (.ireturn, 1) := by decide +kernel
theorem dX8_counter_0 : decode cX8_counter 0 = .ok (.iload_n 1, 1) := by decide +kernel
theorem dX8_counter_1 : decode cX8_counter 1 = .ok (.iconst 0, 1) := by decide +kernel
theorem dX8_counter_2 : decode cX8_counter 2 = .ok (.bipush 7, 2) := by decide +kernel
theorem dX8_counter_4 : decode cX8_counter 4 = .ok (.invokestatic 78, 3) := by decide +kernel
theorem dX8_counter_7 : decode cX8_counter 7 = .ok (.ifCond .eq 14, 3) := by decide +kernel
theorem dX8_counter_10 : decode cX8_counter 10 = .ok (.aload_n 0, 1) := by decide +kernel
theorem dX8_counter_11 : decode cX8_counter 11 = .ok (.getfield 7, 3) := by decide +kernel
theorem dX8_counter_14 : decode cX8_counter 14 = .ok (.iconst 4, 1) := by decide +kernel
theorem dX8_counter_15 : decode cX8_counter 15 = .ok (.iload_n 1, 1) := by decide +kernel
theorem dX8_counter_16 : decode cX8_counter 16 = .ok (.iadd, 1) := by decide +kernel
theorem dX8_counter_17 : decode cX8_counter 17 = .ok (.iaload, 1) := by decide +kernel
theorem dX8_counter_18 : decode cX8_counter 18 = .ok (.goto 5, 3) := by decide +kernel
theorem dX8_counter_21 : decode cX8_counter 21 = .ok (.bipush (-3), 2) := by decide +kernel
theorem dX8_counter_23 : decode cX8_counter 23 = .ok (.ireturn, 1) := by decide +kernel
theorem dX8_left_0 : decode cX8_left 0 = .ok (.iload_n 1, 1) := by decide +kernel
theorem dX8_left_1 : decode cX8_left 1 = .ok (.aload_n 0, 1) := by decide +kernel
theorem dX8_left_2 : decode cX8_left 2 = .ok (.getfield 105, 3) := by decide +kernel
theorem dX8_left_5 : decode cX8_left 5 = .ok (.invokestatic 89, 3) := by decide +kernel
theorem dX8_left_8 : decode cX8_left 8 = .ok (.ifCond .eq 15, 3) := by decide +kernel
theorem dX8_left_11 : decode cX8_left 11 = .ok (.aload_n 0, 1) := by decide +kernel
theorem dX8_left_12 : decode cX8_left 12 = .ok (.getfield 7, 3) := by decide +kernel
theorem dX8_left_15 : decode cX8_left 15 = .ok (.bipush 47, 2) := by decide +kernel
theorem dX8_left_17 : decode cX8_left 17 = .ok (.iload_n 1, 1) := by decide +kernel
theorem dX8_left_18 : decode cX8_left 18 = .ok (.iadd, 1) := by decide +kernel
theorem dX8_left_19 : decode cX8_left 19 = .ok (.iaload, 1) := by decide +kernel
theorem dX8_left_20 : decode cX8_left 20 = .ok (.goto 5, 3) := by decide +kernel
theorem dX8_left_23 : decode cX8_left 23 = .ok (.bipush (-2), 2) := by decide +kernel
theorem dX8_left_25 : decode cX8_left 25 = .ok (.ireturn, 1) := by decide +kernel
theorem dX8_is_0 : decode cX8_is 0 = .ok (.iload_n 1, 1) := by decide +kernel
theorem dX8_is_1 : decode cX8_is 1 = .ok (.iconst 0, 1) := by decide +kernel
theorem dX8_is_2 : decode cX8_is 2 = .ok (.iconst 2, 1) := by decide +kernel
theorem dX8_is_3 : decode cX8_is 3 = .ok (.invokestatic 78, 3) := by decide +kernel
theorem dX8_is_6 : decode cX8_is 6 = .ok (.ifCond .ne 6, 3) := by decide +kernel
theorem dX8_is_9 : decode cX8_is 9 = .ok (.bipush (-3), 2) := by decide +kernel
theorem dX8_is_11 : decode cX8_is 11 = .ok (.ireturn, 1) := by decide +kernel
theorem dX8_is_12 : decode cX8_is 12 = .ok (.iload_n 2, 1) := by decide +kernel
theorem dX8_is_13 : decode cX8_is 13 = .ok (.iload_n 1, 1) := by decide +kernel
theorem dX8_is_14 : decode cX8_is 14 = .ok (.ifCond .ne 10, 3) := by decide +kernel
theorem dX8_is_17 : decode cX8_is 17 = .ok (.aload_n 0, 1) := by decide +kernel
theorem dX8_is_18 : decode cX8_is 18 = .ok (.getfield 108, 3) := by decide +kernel
theorem dX8_is_21 : decode cX8_is 21 = .ok (.goto 19, 3) := by decide +kernel
theorem dX8_is_24 : decode cX8_is 24 = .ok (.iload_n 1, 1) := by decide +kernel
theorem dX8_is_25 : decode cX8_is 25 = .ok (.iconst 1, 1) := by decide +kernel
theorem dX8_is_26 : decode cX8_is 26 = .ok (.if_icmp .ne 10, 3) := by decide +kernel
theorem dX8_is_29 : decode cX8_is 29 = .ok (.aload_n 0, 1) := by decide +kernel
theorem dX8_is_30 : decode cX8_is 30 = .ok (.getfield 93, 3) := by decide +kernel
theorem dX8_is_33 : decode cX8_is 33 = .ok (.goto 7, 3) := by decide +kernel
theorem dX8_is_36 : decode cX8_is 36 = .ok (.aload_n 0, 1) := by decide +kernel
theorem dX8_is_37 : decode cX8_is 37 = .ok (.getfield 102, 3) := by decide +kernel
theorem dX8_is_40 : decode cX8_is 40 = .ok (.invokestatic 89, 3) := by decide +kernel
theorem dX8_is_43 : decode cX8_is 43 = .ok (.ifCond .ne 6, 3) := by decide +kernel
theorem dX8_is_46 : decode cX8_is 46 = .ok (.bipush (-2), 2) := by decide +kernel
theorem dX8_is_48 : decode cX8_is 48 = .ok (.ireturn, 1) := by decide +kernel
theorem dX8_is_49 : decode cX8_is 49 = .ok (.iload_n 1, 1) := by decide +kernel
theorem dX8_is_50 : decode cX8_is 50 = .ok (.ifCond .ne 15, 3) := by decide +kernel
theorem dX8_is_53 : decode cX8_is 53 = .ok (.aload_n 0, 1) := by decide +kernel
theorem dX8_is_54 : decode cX8_is 54 = .ok (.getfield 7, 3) := by decide +kernel
theorem dX8_is_57 : decode cX8_is 57 = .ok (.bipush 59, 2) := by decide +kernel
theorem dX8_is_59 : decode cX8_is 59 = .ok (.iload_n 2, 1) := by decide +kernel
theorem dX8_is_60 : decode cX8_is 60 = .ok (.iadd, 1) := by decide +kernel
theorem dX8_is_61 : decode cX8_is 61 = .ok (.iaload, 1) := by decide +kernel
theorem dX8_is_62 : decode cX8_is 62 = .ok (.goto 31, 3) := by decide +kernel
theorem dX8_is_65 : decode cX8_is 65 = .ok (.iload_n 1, 1) := by decide +kernel
theorem dX8_is_66 : decode cX8_is 66 = .ok (.iconst 1, 1) := by decide +kernel
theorem dX8_is_67 : decode cX8_is 67 = .ok (.if_icmp .ne 15, 3) := by decide +kernel
theorem dX8_is_70 : decode cX8_is 70 = .ok (.aload_n 0, 1) := by decide +kernel
theorem dX8_is_71 : decode cX8_is 71 = .ok (.getfield 7, 3) := by decide +kernel
theorem dX8_is_74 : decode cX8_is 74 = .ok (.bipush 12, 2) := by decide +kernel
theorem dX8_is_76 : decode cX8_is 76 = .ok (.iload_n 2, 1) := by decide +kernel
theorem dX8_is_77 : decode cX8_is 77 = .ok (.iadd, 1) := by decide +kernel
theorem dX8_is_78 : decode cX8_is 78 = .ok (.iaload, 1) := by decide +kernel
theorem dX8_is_79 : decode cX8_is 79 = .ok (.goto 14, 3) := by decide +kernel
theorem dX8_is_82 : decode cX8_is 82 = .ok (.iconst 1, 1) := by decide +kernel
theorem dX8_is_83 : decode cX8_is 83 = .ok (.aload_n 0, 1) := by decide +kernel
theorem dX8_is_84 : decode cX8_is 84 = .ok (.getfield 7, 3) := by decide +kernel
theorem dX8_is_87 : decode cX8_is 87 = .ok (.bipush 35, 2) := by decide +kernel
theorem dX8_is_89 : decode cX8_is 89 = .ok (.iload_n 2, 1) := by decide +kernel
theorem dX8_is_90 : decode cX8_is 90 = .ok (.iadd, 1) := by decide +kernel
theorem dX8_is_91 : decode cX8_is 91 = .ok (.iaload, 1) := by decide +kernel
theorem dX8_is_92 : decode cX8_is 92 = .ok (.isub, 1) := by decide +kernel
theorem dX8_is_93 : decode cX8_is 93 = .ok (.ireturn, 1) := by decide +kernel
theorem dX8_walks_0 : decode cX8_walks 0 = .ok (.iload_n 1, 1) := by decide +kernel
theorem dX8_walks_1 : decode cX8_walks 1 = .ok (.aload_n 0, 1) := by decide +kernel
theorem dX8_walks_2 : decode cX8_walks 2 = .ok (.getfield 96, 3) := by decide +kernel
theorem dX8_walks_5 : decode cX8_walks 5 = .ok (.invokestatic 89, 3) := by decide +kernel
theorem dX8_walks_8 : decode cX8_walks 8 = .ok (.ifCond .ne 6, 3) := by decide +kernel
theorem dX8_walks_11 : decode cX8_walks 11 = .ok (.bipush (-2), 2) := by decide +kernel
theorem dX8_walks_13 : decode cX8_walks 13 = .ok (.ireturn, 1) := by decide +kernel
theorem dX8_walks_14 : decode cX8_walks 14 = .ok (.iload_n 2, 1) := by decide +kernel
theorem dX8_walks_15 : decode cX8_walks 15 = .ok (.ifCond .ne 15, 3) := by decide +kernel
theorem dX8_walks_18 : decode cX8_walks 18 = .ok (.aload_n 0, 1) := by decide +kernel
theorem dX8_walks_19 : decode cX8_walks 19 = .ok (.getfield 7, 3) := by decide +kernel
theorem dX8_walks_22 : decode cX8_walks 22 = .ok (.bipush 27, 2) := by decide +kernel
theorem dX8_walks_24 : decode cX8_walks 24 = .ok (.iload_n 1, 1) := by decide +kernel
theorem dX8_walks_25 : decode cX8_walks 25 = .ok (.iadd, 1) := by decide +kernel
theorem dX8_walks_26 : decode cX8_walks 26 = .ok (.iaload, 1) := by decide +kernel
theorem dX8_walks_27 : decode cX8_walks 27 = .ok (.goto 22, 3) := by decide +kernel
theorem dX8_walks_30 : decode cX8_walks 30 = .ok (.iload_n 2, 1) := by decide +kernel
theorem dX8_walks_31 : decode cX8_walks 31 = .ok (.iconst 1, 1) := by decide +kernel
theorem dX8_walks_32 : decode cX8_walks 32 = .ok (.if_icmp .ne 15, 3) := by decide +kernel
theorem dX8_walks_35 : decode cX8_walks 35 = .ok (.aload_n 0, 1) := by decide +kernel
theorem dX8_walks_36 : decode cX8_walks 36 = .ok (.getfield 7, 3) := by decide +kernel
theorem dX8_walks_39 : decode cX8_walks 39 = .ok (.bipush 31, 2) := by decide +kernel
theorem dX8_walks_41 : decode cX8_walks 41 = .ok (.iload_n 1, 1) := by decide +kernel
theorem dX8_walks_42 : decode cX8_walks 42 = .ok (.iadd, 1) := by decide +kernel
theorem dX8_walks_43 : decode cX8_walks 43 = .ok (.iaload, 1) := by decide +kernel
theorem dX8_walks_44 : decode cX8_walks 44 = .ok (.goto 5, 3) := by decide +kernel
theorem dX8_walks_47 : decode cX8_walks 47 = .ok (.bipush (-3), 2) := by decide +kernel
theorem dX8_walks_49 : decode cX8_walks 49 = .ok (.ireturn, 1) := by decide +kernel
theorem dX8_way_0 : decode cX8_way 0 = .ok (.iload_n 1, 1) := by decide +kernel
theorem dX8_way_1 : decode cX8_way 1 = .ok (.aload_n 0, 1) := by decide +kernel
theorem dX8_way_2 : decode cX8_way 2 = .ok (.getfield 82, 3) := by decide +kernel
theorem dX8_way_5 : decode cX8_way 5 = .ok (.invokestatic 89, 3) := by decide +kernel
theorem dX8_way_8 : decode cX8_way 8 = .ok (.ifCond .eq 14, 3) := by decide +kernel
theorem dX8_way_11 : decode cX8_way 11 = .ok (.iload_n 2, 1) := by decide +kernel
theorem dX8_way_12 : decode cX8_way 12 = .ok (.aload_n 0, 1) := by decide +kernel
theorem dX8_way_13 : decode cX8_way 13 = .ok (.getfield 82, 3) := by decide +kernel
theorem dX8_way_16 : decode cX8_way 16 = .ok (.invokestatic 89, 3) := by decide +kernel
theorem dX8_way_19 : decode cX8_way 19 = .ok (.ifCond .ne 6, 3) := by decide +kernel
theorem dX8_way_22 : decode cX8_way 22 = .ok (.bipush (-2), 2) := by decide +kernel
theorem dX8_way_24 : decode cX8_way 24 = .ok (.ireturn, 1) := by decide +kernel
theorem dX8_way_25 : decode cX8_way 25 = .ok (.aload_n 0, 1) := by decide +kernel
theorem dX8_way_26 : decode cX8_way 26 = .ok (.iload_n 2, 1) := by decide +kernel
theorem dX8_way_27 : decode cX8_way 27 = .ok (.invokevirtual 140, 3) := by decide +kernel
theorem dX8_way_30 : decode cX8_way 30 = .ok (.aload_n 0, 1) := by decide +kernel
theorem dX8_way_31 : decode cX8_way 31 = .ok (.getfield 72, 3) := by decide +kernel
theorem dX8_way_34 : decode cX8_way 34 = .ok (.iload_n 1, 1) := by decide +kernel
theorem dX8_way_35 : decode cX8_way 35 = .ok (.iaload, 1) := by decide +kernel
theorem dX8_way_36 : decode cX8_way 36 = .ok (.ireturn, 1) := by decide +kernel
theorem dX8_row_0 : decode cX8_row 0 = .ok (.iload_n 2, 1) := by decide +kernel
theorem dX8_row_1 : decode cX8_row 1 = .ok (.iconst 0, 1) := by decide +kernel
theorem dX8_row_2 : decode cX8_row 2 = .ok (.iconst 1, 1) := by decide +kernel
theorem dX8_row_3 : decode cX8_row 3 = .ok (.invokestatic 78, 3) := by decide +kernel
theorem dX8_row_6 : decode cX8_row 6 = .ok (.ifCond .ne 6, 3) := by decide +kernel
theorem dX8_row_9 : decode cX8_row 9 = .ok (.bipush (-3), 2) := by decide +kernel
theorem dX8_row_11 : decode cX8_row 11 = .ok (.ireturn, 1) := by decide +kernel
theorem dX8_row_12 : decode cX8_row 12 = .ok (.iload_n 1, 1) := by decide +kernel
theorem dX8_row_13 : decode cX8_row 13 = .ok (.aload_n 0, 1) := by decide +kernel
theorem dX8_row_14 : decode cX8_row 14 = .ok (.getfield 7, 3) := by decide +kernel
theorem dX8_row_17 : decode cX8_row 17 = .ok (.bipush 71, 2) := by decide +kernel
theorem dX8_row_19 : decode cX8_row 19 = .ok (.iaload, 1) := by decide +kernel
theorem dX8_row_20 : decode cX8_row 20 = .ok (.invokestatic 89, 3) := by decide +kernel
theorem dX8_row_23 : decode cX8_row 23 = .ok (.ifCond .eq 19, 3) := by decide +kernel
theorem dX8_row_26 : decode cX8_row 26 = .ok (.aload_n 0, 1) := by decide +kernel
theorem dX8_row_27 : decode cX8_row 27 = .ok (.getfield 7, 3) := by decide +kernel
theorem dX8_row_30 : decode cX8_row 30 = .ok (.bipush 72, 2) := by decide +kernel
theorem dX8_row_32 : decode cX8_row 32 = .ok (.iconst 2, 1) := by decide +kernel
theorem dX8_row_33 : decode cX8_row 33 = .ok (.iload_n 1, 1) := by decide +kernel
theorem dX8_row_34 : decode cX8_row 34 = .ok (.imul, 1) := by decide +kernel
theorem dX8_row_35 : decode cX8_row 35 = .ok (.iadd, 1) := by decide +kernel
theorem dX8_row_36 : decode cX8_row 36 = .ok (.iload_n 2, 1) := by decide +kernel
theorem dX8_row_37 : decode cX8_row 37 = .ok (.iadd, 1) := by decide +kernel
theorem dX8_row_38 : decode cX8_row 38 = .ok (.iaload, 1) := by decide +kernel
theorem dX8_row_39 : decode cX8_row 39 = .ok (.goto 4, 3) := by decide +kernel
theorem dX8_row_42 : decode cX8_row 42 = .ok (.iconst (-1), 1) := by decide +kernel
theorem dX8_row_43 : decode cX8_row 43 = .ok (.ireturn, 1) := by decide +kernel
theorem dX8_minutes_0 : decode cX8_minutes 0 = .ok (.iload_n 1, 1) := by decide +kernel
theorem dX8_minutes_1 : decode cX8_minutes 1 = .ok (.aload_n 0, 1) := by decide +kernel
theorem dX8_minutes_2 : decode cX8_minutes 2 = .ok (.getfield 102, 3) := by decide +kernel
theorem dX8_minutes_5 : decode cX8_minutes 5 = .ok (.invokestatic 89, 3) := by decide +kernel
theorem dX8_minutes_8 : decode cX8_minutes 8 = .ok (.ifCond .ne 6, 3) := by decide +kernel
theorem dX8_minutes_11 : decode cX8_minutes 11 = .ok (.bipush (-2), 2) := by decide +kernel
theorem dX8_minutes_13 : decode cX8_minutes 13 = .ok (.ireturn, 1) := by decide +kernel
theorem dX8_minutes_14 : decode cX8_minutes 14 = .ok (.aload_n 0, 1) := by decide +kernel
theorem dX8_minutes_15 : decode cX8_minutes 15 = .ok (.getfield 44, 3) := by decide +kernel
theorem dX8_minutes_18 : decode cX8_minutes 18 = .ok (.iload_n 1, 1) := by decide +kernel
theorem dX8_minutes_19 : decode cX8_minutes 19 = .ok (.iaload, 1) := by decide +kernel
theorem dX8_minutes_20 : decode cX8_minutes 20 = .ok (.aload_n 0, 1) := by decide +kernel
theorem dX8_minutes_21 : decode cX8_minutes 21 = .ok (.getfield 7, 3) := by decide +kernel
theorem dX8_minutes_24 : decode cX8_minutes 24 = .ok (.iconst 0, 1) := by decide +kernel
theorem dX8_minutes_25 : decode cX8_minutes 25 = .ok (.iaload, 1) := by decide +kernel
theorem dX8_minutes_26 : decode cX8_minutes 26 = .ok (.isub, 1) := by decide +kernel
theorem dX8_minutes_27 : decode cX8_minutes 27 = .ok (.sipush 1440, 3) := by decide +kernel
theorem dX8_minutes_30 : decode cX8_minutes 30 = .ok (.iadd, 1) := by decide +kernel
theorem dX8_minutes_31 : decode cX8_minutes 31 = .ok (.sipush 1440, 3) := by decide +kernel
theorem dX8_minutes_34 : decode cX8_minutes 34 = .ok (.irem, 1) := by decide +kernel
theorem dX8_minutes_35 : decode cX8_minutes 35 = .ok (.istore_n 2, 1) := by decide +kernel
theorem dX8_minutes_36 : decode cX8_minutes 36 = .ok (.aload_n 0, 1) := by decide +kernel
theorem dX8_minutes_37 : decode cX8_minutes 37 = .ok (.getfield 7, 3) := by decide +kernel
theorem dX8_minutes_40 : decode cX8_minutes 40 = .ok (.bipush 35, 2) := by decide +kernel
theorem dX8_minutes_42 : decode cX8_minutes 42 = .ok (.iload_n 1, 1) := by decide +kernel
theorem dX8_minutes_43 : decode cX8_minutes 43 = .ok (.iadd, 1) := by decide +kernel
theorem dX8_minutes_44 : decode cX8_minutes 44 = .ok (.iaload, 1) := by decide +kernel
theorem dX8_minutes_45 : decode cX8_minutes 45 = .ok (.iconst 1, 1) := by decide +kernel
theorem dX8_minutes_46 : decode cX8_minutes 46 = .ok (.if_icmp .ne 7, 3) := by decide +kernel
theorem dX8_minutes_49 : decode cX8_minutes 49 = .ok (.iconst (-1), 1) := by decide +kernel
theorem dX8_minutes_50 : decode cX8_minutes 50 = .ok (.goto 14, 3) := by decide +kernel
theorem dX8_minutes_53 : decode cX8_minutes 53 = .ok (.iload_n 2, 1) := by decide +kernel
theorem dX8_minutes_54 : decode cX8_minutes 54 = .ok (.ifCond .ne 9, 3) := by decide +kernel
theorem dX8_minutes_57 : decode cX8_minutes 57 = .ok (.sipush 1440, 3) := by decide +kernel
theorem dX8_minutes_60 : decode cX8_minutes 60 = .ok (.goto 4, 3) := by decide +kernel
theorem dX8_minutes_63 : decode cX8_minutes 63 = .ok (.iload_n 2, 1) := by decide +kernel
theorem dX8_minutes_64 : decode cX8_minutes 64 = .ok (.ireturn, 1) := by decide +kernel
end
section
theorem dL_law_0 : decode cL_law 0 = .ok (.new 7, 3) := by decide +kernel
theorem dL_law_3 : decode cL_law 3 = .ok (.dup, 1) := by decide +kernel
theorem dL_law_4 : decode cL_law 4 = .ok (.invokespecial 9, 3) := by decide +kernel
theorem dL_law_7 : decode cL_law 7 = .ok (.astore_n 1, 1) := by decide +kernel
theorem dL_law_8 : decode cL_law 8 = .ok (.new 10, 3) := by decide +kernel
theorem dL_law_11 : decode cL_law 11 = .ok (.dup, 1) := by decide +kernel
theorem dL_law_12 : decode cL_law 12 = .ok (.invokespecial 12, 3) := by decide +kernel
theorem dL_law_15 : decode cL_law 15 = .ok (.astore_n 2, 1) := by decide +kernel
theorem dL_law_16 : decode cL_law 16 = .ok (.iconst 0, 1) := by decide +kernel
theorem dL_law_17 : decode cL_law 17 = .ok (.istore_n 3, 1) := by decide +kernel
theorem dL_law_18 : decode cL_law 18 = .ok (.iload_n 3, 1) := by decide +kernel
theorem dL_law_19 : decode cL_law 19 = .ok (.aload_n 0, 1) := by decide +kernel
theorem dL_law_20 : decode cL_law 20 = .ok (.arraylength, 1) := by decide +kernel
theorem dL_law_21 : decode cL_law 21 = .ok (.iconst 4, 1) := by decide +kernel
theorem dL_law_22 : decode cL_law 22 = .ok (.isub, 1) := by decide +kernel
theorem dL_law_23 : decode cL_law 23 = .ok (.if_icmp .gt 740, 3) := by decide +kernel
theorem dL_law_26 : decode cL_law 26 = .ok (.aload_n 0, 1) := by decide +kernel
theorem dL_law_27 : decode cL_law 27 = .ok (.iload_n 3, 1) := by decide +kernel
theorem dL_law_28 : decode cL_law 28 = .ok (.iaload, 1) := by decide +kernel
theorem dL_law_29 : decode cL_law 29 = .ok (.bipush 31, 2) := by decide +kernel
theorem dL_law_31 : decode cL_law 31 = .ok (.iand, 1) := by decide +kernel
theorem dL_law_32 : decode cL_law 32 = .ok (.tableswitch 725 0 20 #[100, 113, 146, 169, 212, 255, 314, 373, 406, 429, 452, 465, 478, 501, 524, 547, 570, 603, 636, 669, 702], 100) := by decide +kernel
theorem dL_law_132 : decode cL_law 132 = .ok (.aload_n 1, 1) := by decide +kernel
theorem dL_law_133 : decode cL_law 133 = .ok (.invokevirtual 13, 3) := by decide +kernel
theorem dL_law_136 : decode cL_law 136 = .ok (.aload_n 2, 1) := by decide +kernel
theorem dL_law_137 : decode cL_law 137 = .ok (.invokevirtual 17, 3) := by decide +kernel
theorem dL_law_140 : decode cL_law 140 = .ok (.if_icmp .eq 617, 3) := by decide +kernel
theorem dL_law_143 : decode cL_law 143 = .ok (.iconst 0, 1) := by decide +kernel
theorem dL_law_144 : decode cL_law 144 = .ok (.ireturn, 1) := by decide +kernel
theorem dL_law_145 : decode cL_law 145 = .ok (.aload_n 1, 1) := by decide +kernel
theorem dL_law_146 : decode cL_law 146 = .ok (.aload_n 0, 1) := by decide +kernel
theorem dL_law_147 : decode cL_law 147 = .ok (.iload_n 3, 1) := by decide +kernel
theorem dL_law_148 : decode cL_law 148 = .ok (.iconst 1, 1) := by decide +kernel
theorem dL_law_149 : decode cL_law 149 = .ok (.iadd, 1) := by decide +kernel
theorem dL_law_150 : decode cL_law 150 = .ok (.iaload, 1) := by decide +kernel
theorem dL_law_151 : decode cL_law 151 = .ok (.aload_n 0, 1) := by decide +kernel
theorem dL_law_152 : decode cL_law 152 = .ok (.iload_n 3, 1) := by decide +kernel
theorem dL_law_153 : decode cL_law 153 = .ok (.iconst 2, 1) := by decide +kernel
theorem dL_law_154 : decode cL_law 154 = .ok (.iadd, 1) := by decide +kernel
theorem dL_law_155 : decode cL_law 155 = .ok (.iaload, 1) := by decide +kernel
theorem dL_law_156 : decode cL_law 156 = .ok (.invokevirtual 18, 3) := by decide +kernel
theorem dL_law_159 : decode cL_law 159 = .ok (.aload_n 2, 1) := by decide +kernel
theorem dL_law_160 : decode cL_law 160 = .ok (.aload_n 0, 1) := by decide +kernel
theorem dL_law_161 : decode cL_law 161 = .ok (.iload_n 3, 1) := by decide +kernel
theorem dL_law_162 : decode cL_law 162 = .ok (.iconst 1, 1) := by decide +kernel
theorem dL_law_163 : decode cL_law 163 = .ok (.iadd, 1) := by decide +kernel
theorem dL_law_164 : decode cL_law 164 = .ok (.iaload, 1) := by decide +kernel
theorem dL_law_165 : decode cL_law 165 = .ok (.aload_n 0, 1) := by decide +kernel
theorem dL_law_166 : decode cL_law 166 = .ok (.iload_n 3, 1) := by decide +kernel
theorem dL_law_167 : decode cL_law 167 = .ok (.iconst 2, 1) := by decide +kernel
theorem dL_law_168 : decode cL_law 168 = .ok (.iadd, 1) := by decide +kernel
theorem dL_law_169 : decode cL_law 169 = .ok (.iaload, 1) := by decide +kernel
theorem dL_law_170 : decode cL_law 170 = .ok (.invokevirtual 22, 3) := by decide +kernel
theorem dL_law_173 : decode cL_law 173 = .ok (.if_icmp .eq 584, 3) := by decide +kernel
theorem dL_law_176 : decode cL_law 176 = .ok (.iconst 0, 1) := by decide +kernel
theorem dL_law_177 : decode cL_law 177 = .ok (.ireturn, 1) := by decide +kernel
theorem dL_law_178 : decode cL_law 178 = .ok (.aload_n 1, 1) := by decide +kernel
theorem dL_law_179 : decode cL_law 179 = .ok (.aload_n 0, 1) := by decide +kernel
theorem dL_law_180 : decode cL_law 180 = .ok (.iload_n 3, 1) := by decide +kernel
theorem dL_law_181 : decode cL_law 181 = .ok (.iconst 1, 1) := by decide +kernel
theorem dL_law_182 : decode cL_law 182 = .ok (.iadd, 1) := by decide +kernel
theorem dL_law_183 : decode cL_law 183 = .ok (.iaload, 1) := by decide +kernel
theorem dL_law_184 : decode cL_law 184 = .ok (.invokevirtual 23, 3) := by decide +kernel
theorem dL_law_187 : decode cL_law 187 = .ok (.aload_n 2, 1) := by decide +kernel
theorem dL_law_188 : decode cL_law 188 = .ok (.aload_n 0, 1) := by decide +kernel
theorem dL_law_189 : decode cL_law 189 = .ok (.iload_n 3, 1) := by decide +kernel
theorem dL_law_190 : decode cL_law 190 = .ok (.iconst 1, 1) := by decide +kernel
theorem dL_law_191 : decode cL_law 191 = .ok (.iadd, 1) := by decide +kernel
theorem dL_law_192 : decode cL_law 192 = .ok (.iaload, 1) := by decide +kernel
theorem dL_law_193 : decode cL_law 193 = .ok (.invokevirtual 27, 3) := by decide +kernel
theorem dL_law_196 : decode cL_law 196 = .ok (.if_icmp .eq 561, 3) := by decide +kernel
theorem dL_law_199 : decode cL_law 199 = .ok (.iconst 0, 1) := by decide +kernel
theorem dL_law_200 : decode cL_law 200 = .ok (.ireturn, 1) := by decide +kernel
theorem dL_law_201 : decode cL_law 201 = .ok (.aload_n 1, 1) := by decide +kernel
theorem dL_law_202 : decode cL_law 202 = .ok (.aload_n 0, 1) := by decide +kernel
theorem dL_law_203 : decode cL_law 203 = .ok (.iload_n 3, 1) := by decide +kernel
theorem dL_law_204 : decode cL_law 204 = .ok (.iconst 1, 1) := by decide +kernel
theorem dL_law_205 : decode cL_law 205 = .ok (.iadd, 1) := by decide +kernel
theorem dL_law_206 : decode cL_law 206 = .ok (.iaload, 1) := by decide +kernel
theorem dL_law_207 : decode cL_law 207 = .ok (.aload_n 0, 1) := by decide +kernel
theorem dL_law_208 : decode cL_law 208 = .ok (.iload_n 3, 1) := by decide +kernel
theorem dL_law_209 : decode cL_law 209 = .ok (.iconst 2, 1) := by decide +kernel
theorem dL_law_210 : decode cL_law 210 = .ok (.iadd, 1) := by decide +kernel
theorem dL_law_211 : decode cL_law 211 = .ok (.iaload, 1) := by decide +kernel
theorem dL_law_212 : decode cL_law 212 = .ok (.aload_n 0, 1) := by decide +kernel
theorem dL_law_213 : decode cL_law 213 = .ok (.iload_n 3, 1) := by decide +kernel
theorem dL_law_214 : decode cL_law 214 = .ok (.iconst 3, 1) := by decide +kernel
theorem dL_law_215 : decode cL_law 215 = .ok (.iadd, 1) := by decide +kernel
theorem dL_law_216 : decode cL_law 216 = .ok (.iaload, 1) := by decide +kernel
theorem dL_law_217 : decode cL_law 217 = .ok (.invokevirtual 28, 3) := by decide +kernel
theorem dL_law_220 : decode cL_law 220 = .ok (.aload_n 2, 1) := by decide +kernel
theorem dL_law_221 : decode cL_law 221 = .ok (.aload_n 0, 1) := by decide +kernel
theorem dL_law_222 : decode cL_law 222 = .ok (.iload_n 3, 1) := by decide +kernel
theorem dL_law_223 : decode cL_law 223 = .ok (.iconst 1, 1) := by decide +kernel
theorem dL_law_224 : decode cL_law 224 = .ok (.iadd, 1) := by decide +kernel
theorem dL_law_225 : decode cL_law 225 = .ok (.iaload, 1) := by decide +kernel
theorem dL_law_226 : decode cL_law 226 = .ok (.aload_n 0, 1) := by decide +kernel
theorem dL_law_227 : decode cL_law 227 = .ok (.iload_n 3, 1) := by decide +kernel
theorem dL_law_228 : decode cL_law 228 = .ok (.iconst 2, 1) := by decide +kernel
theorem dL_law_229 : decode cL_law 229 = .ok (.iadd, 1) := by decide +kernel
theorem dL_law_230 : decode cL_law 230 = .ok (.iaload, 1) := by decide +kernel
theorem dL_law_231 : decode cL_law 231 = .ok (.aload_n 0, 1) := by decide +kernel
theorem dL_law_232 : decode cL_law 232 = .ok (.iload_n 3, 1) := by decide +kernel
theorem dL_law_233 : decode cL_law 233 = .ok (.iconst 3, 1) := by decide +kernel
theorem dL_law_234 : decode cL_law 234 = .ok (.iadd, 1) := by decide +kernel
theorem dL_law_235 : decode cL_law 235 = .ok (.iaload, 1) := by decide +kernel
theorem dL_law_236 : decode cL_law 236 = .ok (.invokevirtual 32, 3) := by decide +kernel
theorem dL_law_239 : decode cL_law 239 = .ok (.if_icmp .eq 518, 3) := by decide +kernel
theorem dL_law_242 : decode cL_law 242 = .ok (.iconst 0, 1) := by decide +kernel
theorem dL_law_243 : decode cL_law 243 = .ok (.ireturn, 1) := by decide +kernel
theorem dL_law_244 : decode cL_law 244 = .ok (.aload_n 1, 1) := by decide +kernel
theorem dL_law_245 : decode cL_law 245 = .ok (.aload_n 0, 1) := by decide +kernel
theorem dL_law_246 : decode cL_law 246 = .ok (.iload_n 3, 1) := by decide +kernel
theorem dL_law_247 : decode cL_law 247 = .ok (.iconst 1, 1) := by decide +kernel
theorem dL_law_248 : decode cL_law 248 = .ok (.iadd, 1) := by decide +kernel
theorem dL_law_249 : decode cL_law 249 = .ok (.iaload, 1) := by decide +kernel
theorem dL_law_250 : decode cL_law 250 = .ok (.aload_n 0, 1) := by decide +kernel
theorem dL_law_251 : decode cL_law 251 = .ok (.iload_n 3, 1) := by decide +kernel
theorem dL_law_252 : decode cL_law 252 = .ok (.iconst 2, 1) := by decide +kernel
theorem dL_law_253 : decode cL_law 253 = .ok (.iadd, 1) := by decide +kernel
theorem dL_law_254 : decode cL_law 254 = .ok (.iaload, 1) := by decide +kernel
theorem dL_law_255 : decode cL_law 255 = .ok (.aload_n 0, 1) := by decide +kernel
theorem dL_law_256 : decode cL_law 256 = .ok (.iload_n 3, 1) := by decide +kernel
theorem dL_law_257 : decode cL_law 257 = .ok (.iconst 3, 1) := by decide +kernel
theorem dL_law_258 : decode cL_law 258 = .ok (.iadd, 1) := by decide +kernel
theorem dL_law_259 : decode cL_law 259 = .ok (.iaload, 1) := by decide +kernel
theorem dL_law_260 : decode cL_law 260 = .ok (.invokevirtual 33, 3) := by decide +kernel
theorem dL_law_263 : decode cL_law 263 = .ok (.aload_n 2, 1) := by decide +kernel
theorem dL_law_264 : decode cL_law 264 = .ok (.aload_n 0, 1) := by decide +kernel
theorem dL_law_265 : decode cL_law 265 = .ok (.iload_n 3, 1) := by decide +kernel
theorem dL_law_266 : decode cL_law 266 = .ok (.iconst 1, 1) := by decide +kernel
theorem dL_law_267 : decode cL_law 267 = .ok (.iadd, 1) := by decide +kernel
theorem dL_law_268 : decode cL_law 268 = .ok (.iaload, 1) := by decide +kernel
theorem dL_law_269 : decode cL_law 269 = .ok (.aload_n 0, 1) := by decide +kernel
theorem dL_law_270 : decode cL_law 270 = .ok (.iload_n 3, 1) := by decide +kernel
theorem dL_law_271 : decode cL_law 271 = .ok (.iconst 2, 1) := by decide +kernel
theorem dL_law_272 : decode cL_law 272 = .ok (.iadd, 1) := by decide +kernel
theorem dL_law_273 : decode cL_law 273 = .ok (.iaload, 1) := by decide +kernel
theorem dL_law_274 : decode cL_law 274 = .ok (.aload_n 0, 1) := by decide +kernel
theorem dL_law_275 : decode cL_law 275 = .ok (.iload_n 3, 1) := by decide +kernel
theorem dL_law_276 : decode cL_law 276 = .ok (.iconst 3, 1) := by decide +kernel
theorem dL_law_277 : decode cL_law 277 = .ok (.iadd, 1) := by decide +kernel
theorem dL_law_278 : decode cL_law 278 = .ok (.iaload, 1) := by decide +kernel
theorem dL_law_279 : decode cL_law 279 = .ok (.invokevirtual 36, 3) := by decide +kernel
theorem dL_law_282 : decode cL_law 282 = .ok (.if_icmp .eq 475, 3) := by decide +kernel
theorem dL_law_285 : decode cL_law 285 = .ok (.iconst 0, 1) := by decide +kernel
theorem dL_law_286 : decode cL_law 286 = .ok (.ireturn, 1) := by decide +kernel
theorem dL_law_287 : decode cL_law 287 = .ok (.aload_n 1, 1) := by decide +kernel
theorem dL_law_288 : decode cL_law 288 = .ok (.aload_n 0, 1) := by decide +kernel
theorem dL_law_289 : decode cL_law 289 = .ok (.iload_n 3, 1) := by decide +kernel
theorem dL_law_290 : decode cL_law 290 = .ok (.iconst 1, 1) := by decide +kernel
theorem dL_law_291 : decode cL_law 291 = .ok (.iadd, 1) := by decide +kernel
theorem dL_law_292 : decode cL_law 292 = .ok (.iaload, 1) := by decide +kernel
theorem dL_law_293 : decode cL_law 293 = .ok (.aload_n 0, 1) := by decide +kernel
theorem dL_law_294 : decode cL_law 294 = .ok (.iload_n 3, 1) := by decide +kernel
theorem dL_law_295 : decode cL_law 295 = .ok (.iconst 2, 1) := by decide +kernel
theorem dL_law_296 : decode cL_law 296 = .ok (.iadd, 1) := by decide +kernel
theorem dL_law_297 : decode cL_law 297 = .ok (.iaload, 1) := by decide +kernel
theorem dL_law_298 : decode cL_law 298 = .ok (.aload_n 0, 1) := by decide +kernel
theorem dL_law_299 : decode cL_law 299 = .ok (.iload_n 3, 1) := by decide +kernel
theorem dL_law_300 : decode cL_law 300 = .ok (.iconst 3, 1) := by decide +kernel
theorem dL_law_301 : decode cL_law 301 = .ok (.iadd, 1) := by decide +kernel
theorem dL_law_302 : decode cL_law 302 = .ok (.iaload, 1) := by decide +kernel
theorem dL_law_303 : decode cL_law 303 = .ok (.ifCond .eq 7, 3) := by decide +kernel
theorem dL_law_306 : decode cL_law 306 = .ok (.iconst 1, 1) := by decide +kernel
theorem dL_law_307 : decode cL_law 307 = .ok (.goto 4, 3) := by decide +kernel
theorem dL_law_310 : decode cL_law 310 = .ok (.iconst 0, 1) := by decide +kernel
theorem dL_law_311 : decode cL_law 311 = .ok (.invokevirtual 37, 3) := by decide +kernel
theorem dL_law_314 : decode cL_law 314 = .ok (.aload_n 2, 1) := by decide +kernel
theorem dL_law_315 : decode cL_law 315 = .ok (.aload_n 0, 1) := by decide +kernel
theorem dL_law_316 : decode cL_law 316 = .ok (.iload_n 3, 1) := by decide +kernel
theorem dL_law_317 : decode cL_law 317 = .ok (.iconst 1, 1) := by decide +kernel
theorem dL_law_318 : decode cL_law 318 = .ok (.iadd, 1) := by decide +kernel
theorem dL_law_319 : decode cL_law 319 = .ok (.iaload, 1) := by decide +kernel
theorem dL_law_320 : decode cL_law 320 = .ok (.aload_n 0, 1) := by decide +kernel
theorem dL_law_321 : decode cL_law 321 = .ok (.iload_n 3, 1) := by decide +kernel
theorem dL_law_322 : decode cL_law 322 = .ok (.iconst 2, 1) := by decide +kernel
theorem dL_law_323 : decode cL_law 323 = .ok (.iadd, 1) := by decide +kernel
theorem dL_law_324 : decode cL_law 324 = .ok (.iaload, 1) := by decide +kernel
theorem dL_law_325 : decode cL_law 325 = .ok (.aload_n 0, 1) := by decide +kernel
theorem dL_law_326 : decode cL_law 326 = .ok (.iload_n 3, 1) := by decide +kernel
theorem dL_law_327 : decode cL_law 327 = .ok (.iconst 3, 1) := by decide +kernel
theorem dL_law_328 : decode cL_law 328 = .ok (.iadd, 1) := by decide +kernel
theorem dL_law_329 : decode cL_law 329 = .ok (.iaload, 1) := by decide +kernel
theorem dL_law_330 : decode cL_law 330 = .ok (.ifCond .eq 7, 3) := by decide +kernel
theorem dL_law_333 : decode cL_law 333 = .ok (.iconst 1, 1) := by decide +kernel
theorem dL_law_334 : decode cL_law 334 = .ok (.goto 4, 3) := by decide +kernel
theorem dL_law_337 : decode cL_law 337 = .ok (.iconst 0, 1) := by decide +kernel
theorem dL_law_338 : decode cL_law 338 = .ok (.invokevirtual 41, 3) := by decide +kernel
theorem dL_law_341 : decode cL_law 341 = .ok (.if_icmp .eq 416, 3) := by decide +kernel
theorem dL_law_344 : decode cL_law 344 = .ok (.iconst 0, 1) := by decide +kernel
theorem dL_law_345 : decode cL_law 345 = .ok (.ireturn, 1) := by decide +kernel
theorem dL_law_346 : decode cL_law 346 = .ok (.aload_n 1, 1) := by decide +kernel
theorem dL_law_347 : decode cL_law 347 = .ok (.aload_n 0, 1) := by decide +kernel
theorem dL_law_348 : decode cL_law 348 = .ok (.iload_n 3, 1) := by decide +kernel
theorem dL_law_349 : decode cL_law 349 = .ok (.iconst 1, 1) := by decide +kernel
theorem dL_law_350 : decode cL_law 350 = .ok (.iadd, 1) := by decide +kernel
theorem dL_law_351 : decode cL_law 351 = .ok (.iaload, 1) := by decide +kernel
theorem dL_law_352 : decode cL_law 352 = .ok (.aload_n 0, 1) := by decide +kernel
theorem dL_law_353 : decode cL_law 353 = .ok (.iload_n 3, 1) := by decide +kernel
theorem dL_law_354 : decode cL_law 354 = .ok (.iconst 2, 1) := by decide +kernel
theorem dL_law_355 : decode cL_law 355 = .ok (.iadd, 1) := by decide +kernel
theorem dL_law_356 : decode cL_law 356 = .ok (.iaload, 1) := by decide +kernel
theorem dL_law_357 : decode cL_law 357 = .ok (.aload_n 0, 1) := by decide +kernel
theorem dL_law_358 : decode cL_law 358 = .ok (.iload_n 3, 1) := by decide +kernel
theorem dL_law_359 : decode cL_law 359 = .ok (.iconst 3, 1) := by decide +kernel
theorem dL_law_360 : decode cL_law 360 = .ok (.iadd, 1) := by decide +kernel
theorem dL_law_361 : decode cL_law 361 = .ok (.iaload, 1) := by decide +kernel
theorem dL_law_362 : decode cL_law 362 = .ok (.ifCond .eq 7, 3) := by decide +kernel
theorem dL_law_365 : decode cL_law 365 = .ok (.iconst 1, 1) := by decide +kernel
theorem dL_law_366 : decode cL_law 366 = .ok (.goto 4, 3) := by decide +kernel
theorem dL_law_369 : decode cL_law 369 = .ok (.iconst 0, 1) := by decide +kernel
theorem dL_law_370 : decode cL_law 370 = .ok (.invokevirtual 42, 3) := by decide +kernel
theorem dL_law_373 : decode cL_law 373 = .ok (.aload_n 2, 1) := by decide +kernel
theorem dL_law_374 : decode cL_law 374 = .ok (.aload_n 0, 1) := by decide +kernel
theorem dL_law_375 : decode cL_law 375 = .ok (.iload_n 3, 1) := by decide +kernel
theorem dL_law_376 : decode cL_law 376 = .ok (.iconst 1, 1) := by decide +kernel
theorem dL_law_377 : decode cL_law 377 = .ok (.iadd, 1) := by decide +kernel
theorem dL_law_378 : decode cL_law 378 = .ok (.iaload, 1) := by decide +kernel
theorem dL_law_379 : decode cL_law 379 = .ok (.aload_n 0, 1) := by decide +kernel
theorem dL_law_380 : decode cL_law 380 = .ok (.iload_n 3, 1) := by decide +kernel
theorem dL_law_381 : decode cL_law 381 = .ok (.iconst 2, 1) := by decide +kernel
theorem dL_law_382 : decode cL_law 382 = .ok (.iadd, 1) := by decide +kernel
theorem dL_law_383 : decode cL_law 383 = .ok (.iaload, 1) := by decide +kernel
theorem dL_law_384 : decode cL_law 384 = .ok (.aload_n 0, 1) := by decide +kernel
theorem dL_law_385 : decode cL_law 385 = .ok (.iload_n 3, 1) := by decide +kernel
theorem dL_law_386 : decode cL_law 386 = .ok (.iconst 3, 1) := by decide +kernel
theorem dL_law_387 : decode cL_law 387 = .ok (.iadd, 1) := by decide +kernel
theorem dL_law_388 : decode cL_law 388 = .ok (.iaload, 1) := by decide +kernel
theorem dL_law_389 : decode cL_law 389 = .ok (.ifCond .eq 7, 3) := by decide +kernel
theorem dL_law_392 : decode cL_law 392 = .ok (.iconst 1, 1) := by decide +kernel
theorem dL_law_393 : decode cL_law 393 = .ok (.goto 4, 3) := by decide +kernel
theorem dL_law_396 : decode cL_law 396 = .ok (.iconst 0, 1) := by decide +kernel
theorem dL_law_397 : decode cL_law 397 = .ok (.invokevirtual 45, 3) := by decide +kernel
theorem dL_law_400 : decode cL_law 400 = .ok (.if_icmp .eq 357, 3) := by decide +kernel
theorem dL_law_403 : decode cL_law 403 = .ok (.iconst 0, 1) := by decide +kernel
theorem dL_law_404 : decode cL_law 404 = .ok (.ireturn, 1) := by decide +kernel
theorem dL_law_405 : decode cL_law 405 = .ok (.aload_n 1, 1) := by decide +kernel
theorem dL_law_406 : decode cL_law 406 = .ok (.aload_n 0, 1) := by decide +kernel
theorem dL_law_407 : decode cL_law 407 = .ok (.iload_n 3, 1) := by decide +kernel
theorem dL_law_408 : decode cL_law 408 = .ok (.iconst 1, 1) := by decide +kernel
theorem dL_law_409 : decode cL_law 409 = .ok (.iadd, 1) := by decide +kernel
theorem dL_law_410 : decode cL_law 410 = .ok (.iaload, 1) := by decide +kernel
theorem dL_law_411 : decode cL_law 411 = .ok (.aload_n 0, 1) := by decide +kernel
theorem dL_law_412 : decode cL_law 412 = .ok (.iload_n 3, 1) := by decide +kernel
theorem dL_law_413 : decode cL_law 413 = .ok (.iconst 2, 1) := by decide +kernel
theorem dL_law_414 : decode cL_law 414 = .ok (.iadd, 1) := by decide +kernel
theorem dL_law_415 : decode cL_law 415 = .ok (.iaload, 1) := by decide +kernel
theorem dL_law_416 : decode cL_law 416 = .ok (.invokevirtual 46, 3) := by decide +kernel
theorem dL_law_419 : decode cL_law 419 = .ok (.aload_n 2, 1) := by decide +kernel
theorem dL_law_420 : decode cL_law 420 = .ok (.aload_n 0, 1) := by decide +kernel
theorem dL_law_421 : decode cL_law 421 = .ok (.iload_n 3, 1) := by decide +kernel
theorem dL_law_422 : decode cL_law 422 = .ok (.iconst 1, 1) := by decide +kernel
theorem dL_law_423 : decode cL_law 423 = .ok (.iadd, 1) := by decide +kernel
theorem dL_law_424 : decode cL_law 424 = .ok (.iaload, 1) := by decide +kernel
theorem dL_law_425 : decode cL_law 425 = .ok (.aload_n 0, 1) := by decide +kernel
theorem dL_law_426 : decode cL_law 426 = .ok (.iload_n 3, 1) := by decide +kernel
theorem dL_law_427 : decode cL_law 427 = .ok (.iconst 2, 1) := by decide +kernel
theorem dL_law_428 : decode cL_law 428 = .ok (.iadd, 1) := by decide +kernel
theorem dL_law_429 : decode cL_law 429 = .ok (.iaload, 1) := by decide +kernel
theorem dL_law_430 : decode cL_law 430 = .ok (.invokevirtual 49, 3) := by decide +kernel
theorem dL_law_433 : decode cL_law 433 = .ok (.if_icmp .eq 324, 3) := by decide +kernel
theorem dL_law_436 : decode cL_law 436 = .ok (.iconst 0, 1) := by decide +kernel
theorem dL_law_437 : decode cL_law 437 = .ok (.ireturn, 1) := by decide +kernel
theorem dL_law_438 : decode cL_law 438 = .ok (.aload_n 1, 1) := by decide +kernel
theorem dL_law_439 : decode cL_law 439 = .ok (.aload_n 0, 1) := by decide +kernel
theorem dL_law_440 : decode cL_law 440 = .ok (.iload_n 3, 1) := by decide +kernel
theorem dL_law_441 : decode cL_law 441 = .ok (.iconst 1, 1) := by decide +kernel
theorem dL_law_442 : decode cL_law 442 = .ok (.iadd, 1) := by decide +kernel
theorem dL_law_443 : decode cL_law 443 = .ok (.iaload, 1) := by decide +kernel
theorem dL_law_444 : decode cL_law 444 = .ok (.invokevirtual 50, 3) := by decide +kernel
theorem dL_law_447 : decode cL_law 447 = .ok (.aload_n 2, 1) := by decide +kernel
theorem dL_law_448 : decode cL_law 448 = .ok (.aload_n 0, 1) := by decide +kernel
theorem dL_law_449 : decode cL_law 449 = .ok (.iload_n 3, 1) := by decide +kernel
theorem dL_law_450 : decode cL_law 450 = .ok (.iconst 1, 1) := by decide +kernel
theorem dL_law_451 : decode cL_law 451 = .ok (.iadd, 1) := by decide +kernel
theorem dL_law_452 : decode cL_law 452 = .ok (.iaload, 1) := by decide +kernel
theorem dL_law_453 : decode cL_law 453 = .ok (.invokevirtual 53, 3) := by decide +kernel
theorem dL_law_456 : decode cL_law 456 = .ok (.if_icmp .eq 301, 3) := by decide +kernel
theorem dL_law_459 : decode cL_law 459 = .ok (.iconst 0, 1) := by decide +kernel
theorem dL_law_460 : decode cL_law 460 = .ok (.ireturn, 1) := by decide +kernel
theorem dL_law_461 : decode cL_law 461 = .ok (.aload_n 1, 1) := by decide +kernel
theorem dL_law_462 : decode cL_law 462 = .ok (.aload_n 0, 1) := by decide +kernel
theorem dL_law_463 : decode cL_law 463 = .ok (.iload_n 3, 1) := by decide +kernel
theorem dL_law_464 : decode cL_law 464 = .ok (.iconst 1, 1) := by decide +kernel
theorem dL_law_465 : decode cL_law 465 = .ok (.iadd, 1) := by decide +kernel
theorem dL_law_466 : decode cL_law 466 = .ok (.iaload, 1) := by decide +kernel
theorem dL_law_467 : decode cL_law 467 = .ok (.invokevirtual 54, 3) := by decide +kernel
theorem dL_law_470 : decode cL_law 470 = .ok (.aload_n 2, 1) := by decide +kernel
theorem dL_law_471 : decode cL_law 471 = .ok (.aload_n 0, 1) := by decide +kernel
theorem dL_law_472 : decode cL_law 472 = .ok (.iload_n 3, 1) := by decide +kernel
theorem dL_law_473 : decode cL_law 473 = .ok (.iconst 1, 1) := by decide +kernel
theorem dL_law_474 : decode cL_law 474 = .ok (.iadd, 1) := by decide +kernel
theorem dL_law_475 : decode cL_law 475 = .ok (.iaload, 1) := by decide +kernel
theorem dL_law_476 : decode cL_law 476 = .ok (.invokevirtual 57, 3) := by decide +kernel
theorem dL_law_479 : decode cL_law 479 = .ok (.if_icmp .eq 278, 3) := by decide +kernel
theorem dL_law_482 : decode cL_law 482 = .ok (.iconst 0, 1) := by decide +kernel
theorem dL_law_483 : decode cL_law 483 = .ok (.ireturn, 1) := by decide +kernel
theorem dL_law_484 : decode cL_law 484 = .ok (.aload_n 1, 1) := by decide +kernel
theorem dL_law_485 : decode cL_law 485 = .ok (.invokevirtual 58, 3) := by decide +kernel
theorem dL_law_488 : decode cL_law 488 = .ok (.aload_n 2, 1) := by decide +kernel
theorem dL_law_489 : decode cL_law 489 = .ok (.invokevirtual 61, 3) := by decide +kernel
theorem dL_law_492 : decode cL_law 492 = .ok (.if_icmp .eq 265, 3) := by decide +kernel
theorem dL_law_495 : decode cL_law 495 = .ok (.iconst 0, 1) := by decide +kernel
theorem dL_law_496 : decode cL_law 496 = .ok (.ireturn, 1) := by decide +kernel
theorem dL_law_497 : decode cL_law 497 = .ok (.aload_n 1, 1) := by decide +kernel
theorem dL_law_498 : decode cL_law 498 = .ok (.invokevirtual 62, 3) := by decide +kernel
theorem dL_law_501 : decode cL_law 501 = .ok (.aload_n 2, 1) := by decide +kernel
theorem dL_law_502 : decode cL_law 502 = .ok (.invokevirtual 65, 3) := by decide +kernel
theorem dL_law_505 : decode cL_law 505 = .ok (.if_icmp .eq 252, 3) := by decide +kernel
theorem dL_law_508 : decode cL_law 508 = .ok (.iconst 0, 1) := by decide +kernel
theorem dL_law_509 : decode cL_law 509 = .ok (.ireturn, 1) := by decide +kernel
theorem dL_law_510 : decode cL_law 510 = .ok (.aload_n 1, 1) := by decide +kernel
theorem dL_law_511 : decode cL_law 511 = .ok (.aload_n 0, 1) := by decide +kernel
theorem dL_law_512 : decode cL_law 512 = .ok (.iload_n 3, 1) := by decide +kernel
theorem dL_law_513 : decode cL_law 513 = .ok (.iconst 1, 1) := by decide +kernel
theorem dL_law_514 : decode cL_law 514 = .ok (.iadd, 1) := by decide +kernel
theorem dL_law_515 : decode cL_law 515 = .ok (.iaload, 1) := by decide +kernel
theorem dL_law_516 : decode cL_law 516 = .ok (.invokevirtual 66, 3) := by decide +kernel
theorem dL_law_519 : decode cL_law 519 = .ok (.aload_n 2, 1) := by decide +kernel
theorem dL_law_520 : decode cL_law 520 = .ok (.aload_n 0, 1) := by decide +kernel
theorem dL_law_521 : decode cL_law 521 = .ok (.iload_n 3, 1) := by decide +kernel
theorem dL_law_522 : decode cL_law 522 = .ok (.iconst 1, 1) := by decide +kernel
theorem dL_law_523 : decode cL_law 523 = .ok (.iadd, 1) := by decide +kernel
theorem dL_law_524 : decode cL_law 524 = .ok (.iaload, 1) := by decide +kernel
theorem dL_law_525 : decode cL_law 525 = .ok (.invokevirtual 69, 3) := by decide +kernel
theorem dL_law_528 : decode cL_law 528 = .ok (.if_icmp .eq 229, 3) := by decide +kernel
theorem dL_law_531 : decode cL_law 531 = .ok (.iconst 0, 1) := by decide +kernel
theorem dL_law_532 : decode cL_law 532 = .ok (.ireturn, 1) := by decide +kernel
theorem dL_law_533 : decode cL_law 533 = .ok (.aload_n 1, 1) := by decide +kernel
theorem dL_law_534 : decode cL_law 534 = .ok (.aload_n 0, 1) := by decide +kernel
theorem dL_law_535 : decode cL_law 535 = .ok (.iload_n 3, 1) := by decide +kernel
theorem dL_law_536 : decode cL_law 536 = .ok (.iconst 1, 1) := by decide +kernel
theorem dL_law_537 : decode cL_law 537 = .ok (.iadd, 1) := by decide +kernel
theorem dL_law_538 : decode cL_law 538 = .ok (.iaload, 1) := by decide +kernel
theorem dL_law_539 : decode cL_law 539 = .ok (.invokevirtual 70, 3) := by decide +kernel
theorem dL_law_542 : decode cL_law 542 = .ok (.aload_n 2, 1) := by decide +kernel
theorem dL_law_543 : decode cL_law 543 = .ok (.aload_n 0, 1) := by decide +kernel
theorem dL_law_544 : decode cL_law 544 = .ok (.iload_n 3, 1) := by decide +kernel
theorem dL_law_545 : decode cL_law 545 = .ok (.iconst 1, 1) := by decide +kernel
theorem dL_law_546 : decode cL_law 546 = .ok (.iadd, 1) := by decide +kernel
theorem dL_law_547 : decode cL_law 547 = .ok (.iaload, 1) := by decide +kernel
theorem dL_law_548 : decode cL_law 548 = .ok (.invokevirtual 73, 3) := by decide +kernel
theorem dL_law_551 : decode cL_law 551 = .ok (.if_icmp .eq 206, 3) := by decide +kernel
theorem dL_law_554 : decode cL_law 554 = .ok (.iconst 0, 1) := by decide +kernel
theorem dL_law_555 : decode cL_law 555 = .ok (.ireturn, 1) := by decide +kernel
theorem dL_law_556 : decode cL_law 556 = .ok (.aload_n 1, 1) := by decide +kernel
theorem dL_law_557 : decode cL_law 557 = .ok (.aload_n 0, 1) := by decide +kernel
theorem dL_law_558 : decode cL_law 558 = .ok (.iload_n 3, 1) := by decide +kernel
theorem dL_law_559 : decode cL_law 559 = .ok (.iconst 1, 1) := by decide +kernel
theorem dL_law_560 : decode cL_law 560 = .ok (.iadd, 1) := by decide +kernel
theorem dL_law_561 : decode cL_law 561 = .ok (.iaload, 1) := by decide +kernel
theorem dL_law_562 : decode cL_law 562 = .ok (.invokevirtual 74, 3) := by decide +kernel
theorem dL_law_565 : decode cL_law 565 = .ok (.aload_n 2, 1) := by decide +kernel
theorem dL_law_566 : decode cL_law 566 = .ok (.aload_n 0, 1) := by decide +kernel
theorem dL_law_567 : decode cL_law 567 = .ok (.iload_n 3, 1) := by decide +kernel
theorem dL_law_568 : decode cL_law 568 = .ok (.iconst 1, 1) := by decide +kernel
theorem dL_law_569 : decode cL_law 569 = .ok (.iadd, 1) := by decide +kernel
theorem dL_law_570 : decode cL_law 570 = .ok (.iaload, 1) := by decide +kernel
theorem dL_law_571 : decode cL_law 571 = .ok (.invokevirtual 77, 3) := by decide +kernel
theorem dL_law_574 : decode cL_law 574 = .ok (.if_icmp .eq 183, 3) := by decide +kernel
theorem dL_law_577 : decode cL_law 577 = .ok (.iconst 0, 1) := by decide +kernel
theorem dL_law_578 : decode cL_law 578 = .ok (.ireturn, 1) := by decide +kernel
theorem dL_law_579 : decode cL_law 579 = .ok (.aload_n 1, 1) := by decide +kernel
theorem dL_law_580 : decode cL_law 580 = .ok (.aload_n 0, 1) := by decide +kernel
theorem dL_law_581 : decode cL_law 581 = .ok (.iload_n 3, 1) := by decide +kernel
theorem dL_law_582 : decode cL_law 582 = .ok (.iconst 1, 1) := by decide +kernel
theorem dL_law_583 : decode cL_law 583 = .ok (.iadd, 1) := by decide +kernel
theorem dL_law_584 : decode cL_law 584 = .ok (.iaload, 1) := by decide +kernel
theorem dL_law_585 : decode cL_law 585 = .ok (.invokevirtual 78, 3) := by decide +kernel
theorem dL_law_588 : decode cL_law 588 = .ok (.aload_n 2, 1) := by decide +kernel
theorem dL_law_589 : decode cL_law 589 = .ok (.aload_n 0, 1) := by decide +kernel
theorem dL_law_590 : decode cL_law 590 = .ok (.iload_n 3, 1) := by decide +kernel
theorem dL_law_591 : decode cL_law 591 = .ok (.iconst 1, 1) := by decide +kernel
theorem dL_law_592 : decode cL_law 592 = .ok (.iadd, 1) := by decide +kernel
theorem dL_law_593 : decode cL_law 593 = .ok (.iaload, 1) := by decide +kernel
theorem dL_law_594 : decode cL_law 594 = .ok (.invokevirtual 81, 3) := by decide +kernel
theorem dL_law_597 : decode cL_law 597 = .ok (.if_icmp .eq 160, 3) := by decide +kernel
theorem dL_law_600 : decode cL_law 600 = .ok (.iconst 0, 1) := by decide +kernel
theorem dL_law_601 : decode cL_law 601 = .ok (.ireturn, 1) := by decide +kernel
theorem dL_law_602 : decode cL_law 602 = .ok (.aload_n 1, 1) := by decide +kernel
theorem dL_law_603 : decode cL_law 603 = .ok (.aload_n 0, 1) := by decide +kernel
theorem dL_law_604 : decode cL_law 604 = .ok (.iload_n 3, 1) := by decide +kernel
theorem dL_law_605 : decode cL_law 605 = .ok (.iconst 1, 1) := by decide +kernel
theorem dL_law_606 : decode cL_law 606 = .ok (.iadd, 1) := by decide +kernel
theorem dL_law_607 : decode cL_law 607 = .ok (.iaload, 1) := by decide +kernel
theorem dL_law_608 : decode cL_law 608 = .ok (.aload_n 0, 1) := by decide +kernel
theorem dL_law_609 : decode cL_law 609 = .ok (.iload_n 3, 1) := by decide +kernel
theorem dL_law_610 : decode cL_law 610 = .ok (.iconst 2, 1) := by decide +kernel
theorem dL_law_611 : decode cL_law 611 = .ok (.iadd, 1) := by decide +kernel
theorem dL_law_612 : decode cL_law 612 = .ok (.iaload, 1) := by decide +kernel
theorem dL_law_613 : decode cL_law 613 = .ok (.invokevirtual 82, 3) := by decide +kernel
theorem dL_law_616 : decode cL_law 616 = .ok (.aload_n 2, 1) := by decide +kernel
theorem dL_law_617 : decode cL_law 617 = .ok (.aload_n 0, 1) := by decide +kernel
theorem dL_law_618 : decode cL_law 618 = .ok (.iload_n 3, 1) := by decide +kernel
theorem dL_law_619 : decode cL_law 619 = .ok (.iconst 1, 1) := by decide +kernel
theorem dL_law_620 : decode cL_law 620 = .ok (.iadd, 1) := by decide +kernel
theorem dL_law_621 : decode cL_law 621 = .ok (.iaload, 1) := by decide +kernel
theorem dL_law_622 : decode cL_law 622 = .ok (.aload_n 0, 1) := by decide +kernel
theorem dL_law_623 : decode cL_law 623 = .ok (.iload_n 3, 1) := by decide +kernel
theorem dL_law_624 : decode cL_law 624 = .ok (.iconst 2, 1) := by decide +kernel
theorem dL_law_625 : decode cL_law 625 = .ok (.iadd, 1) := by decide +kernel
theorem dL_law_626 : decode cL_law 626 = .ok (.iaload, 1) := by decide +kernel
theorem dL_law_627 : decode cL_law 627 = .ok (.invokevirtual 85, 3) := by decide +kernel
theorem dL_law_630 : decode cL_law 630 = .ok (.if_icmp .eq 127, 3) := by decide +kernel
theorem dL_law_633 : decode cL_law 633 = .ok (.iconst 0, 1) := by decide +kernel
theorem dL_law_634 : decode cL_law 634 = .ok (.ireturn, 1) := by decide +kernel
theorem dL_law_635 : decode cL_law 635 = .ok (.aload_n 1, 1) := by decide +kernel
theorem dL_law_636 : decode cL_law 636 = .ok (.aload_n 0, 1) := by decide +kernel
theorem dL_law_637 : decode cL_law 637 = .ok (.iload_n 3, 1) := by decide +kernel
theorem dL_law_638 : decode cL_law 638 = .ok (.iconst 1, 1) := by decide +kernel
theorem dL_law_639 : decode cL_law 639 = .ok (.iadd, 1) := by decide +kernel
theorem dL_law_640 : decode cL_law 640 = .ok (.iaload, 1) := by decide +kernel
theorem dL_law_641 : decode cL_law 641 = .ok (.aload_n 0, 1) := by decide +kernel
theorem dL_law_642 : decode cL_law 642 = .ok (.iload_n 3, 1) := by decide +kernel
theorem dL_law_643 : decode cL_law 643 = .ok (.iconst 2, 1) := by decide +kernel
theorem dL_law_644 : decode cL_law 644 = .ok (.iadd, 1) := by decide +kernel
theorem dL_law_645 : decode cL_law 645 = .ok (.iaload, 1) := by decide +kernel
theorem dL_law_646 : decode cL_law 646 = .ok (.invokevirtual 86, 3) := by decide +kernel
theorem dL_law_649 : decode cL_law 649 = .ok (.aload_n 2, 1) := by decide +kernel
theorem dL_law_650 : decode cL_law 650 = .ok (.aload_n 0, 1) := by decide +kernel
theorem dL_law_651 : decode cL_law 651 = .ok (.iload_n 3, 1) := by decide +kernel
theorem dL_law_652 : decode cL_law 652 = .ok (.iconst 1, 1) := by decide +kernel
theorem dL_law_653 : decode cL_law 653 = .ok (.iadd, 1) := by decide +kernel
theorem dL_law_654 : decode cL_law 654 = .ok (.iaload, 1) := by decide +kernel
theorem dL_law_655 : decode cL_law 655 = .ok (.aload_n 0, 1) := by decide +kernel
theorem dL_law_656 : decode cL_law 656 = .ok (.iload_n 3, 1) := by decide +kernel
theorem dL_law_657 : decode cL_law 657 = .ok (.iconst 2, 1) := by decide +kernel
theorem dL_law_658 : decode cL_law 658 = .ok (.iadd, 1) := by decide +kernel
theorem dL_law_659 : decode cL_law 659 = .ok (.iaload, 1) := by decide +kernel
theorem dL_law_660 : decode cL_law 660 = .ok (.invokevirtual 89, 3) := by decide +kernel
theorem dL_law_663 : decode cL_law 663 = .ok (.if_icmp .eq 94, 3) := by decide +kernel
theorem dL_law_666 : decode cL_law 666 = .ok (.iconst 0, 1) := by decide +kernel
theorem dL_law_667 : decode cL_law 667 = .ok (.ireturn, 1) := by decide +kernel
theorem dL_law_668 : decode cL_law 668 = .ok (.aload_n 1, 1) := by decide +kernel
theorem dL_law_669 : decode cL_law 669 = .ok (.aload_n 0, 1) := by decide +kernel
theorem dL_law_670 : decode cL_law 670 = .ok (.iload_n 3, 1) := by decide +kernel
theorem dL_law_671 : decode cL_law 671 = .ok (.iconst 1, 1) := by decide +kernel
theorem dL_law_672 : decode cL_law 672 = .ok (.iadd, 1) := by decide +kernel
theorem dL_law_673 : decode cL_law 673 = .ok (.iaload, 1) := by decide +kernel
theorem dL_law_674 : decode cL_law 674 = .ok (.aload_n 0, 1) := by decide +kernel
theorem dL_law_675 : decode cL_law 675 = .ok (.iload_n 3, 1) := by decide +kernel
theorem dL_law_676 : decode cL_law 676 = .ok (.iconst 2, 1) := by decide +kernel
theorem dL_law_677 : decode cL_law 677 = .ok (.iadd, 1) := by decide +kernel
theorem dL_law_678 : decode cL_law 678 = .ok (.iaload, 1) := by decide +kernel
theorem dL_law_679 : decode cL_law 679 = .ok (.invokevirtual 90, 3) := by decide +kernel
theorem dL_law_682 : decode cL_law 682 = .ok (.aload_n 2, 1) := by decide +kernel
theorem dL_law_683 : decode cL_law 683 = .ok (.aload_n 0, 1) := by decide +kernel
theorem dL_law_684 : decode cL_law 684 = .ok (.iload_n 3, 1) := by decide +kernel
theorem dL_law_685 : decode cL_law 685 = .ok (.iconst 1, 1) := by decide +kernel
theorem dL_law_686 : decode cL_law 686 = .ok (.iadd, 1) := by decide +kernel
theorem dL_law_687 : decode cL_law 687 = .ok (.iaload, 1) := by decide +kernel
theorem dL_law_688 : decode cL_law 688 = .ok (.aload_n 0, 1) := by decide +kernel
theorem dL_law_689 : decode cL_law 689 = .ok (.iload_n 3, 1) := by decide +kernel
theorem dL_law_690 : decode cL_law 690 = .ok (.iconst 2, 1) := by decide +kernel
theorem dL_law_691 : decode cL_law 691 = .ok (.iadd, 1) := by decide +kernel
theorem dL_law_692 : decode cL_law 692 = .ok (.iaload, 1) := by decide +kernel
theorem dL_law_693 : decode cL_law 693 = .ok (.invokevirtual 93, 3) := by decide +kernel
theorem dL_law_696 : decode cL_law 696 = .ok (.if_icmp .eq 61, 3) := by decide +kernel
theorem dL_law_699 : decode cL_law 699 = .ok (.iconst 0, 1) := by decide +kernel
theorem dL_law_700 : decode cL_law 700 = .ok (.ireturn, 1) := by decide +kernel
theorem dL_law_701 : decode cL_law 701 = .ok (.aload_n 1, 1) := by decide +kernel
theorem dL_law_702 : decode cL_law 702 = .ok (.aload_n 0, 1) := by decide +kernel
theorem dL_law_703 : decode cL_law 703 = .ok (.iload_n 3, 1) := by decide +kernel
theorem dL_law_704 : decode cL_law 704 = .ok (.iconst 1, 1) := by decide +kernel
theorem dL_law_705 : decode cL_law 705 = .ok (.iadd, 1) := by decide +kernel
theorem dL_law_706 : decode cL_law 706 = .ok (.iaload, 1) := by decide +kernel
theorem dL_law_707 : decode cL_law 707 = .ok (.aload_n 0, 1) := by decide +kernel
theorem dL_law_708 : decode cL_law 708 = .ok (.iload_n 3, 1) := by decide +kernel
theorem dL_law_709 : decode cL_law 709 = .ok (.iconst 2, 1) := by decide +kernel
theorem dL_law_710 : decode cL_law 710 = .ok (.iadd, 1) := by decide +kernel
theorem dL_law_711 : decode cL_law 711 = .ok (.iaload, 1) := by decide +kernel
theorem dL_law_712 : decode cL_law 712 = .ok (.invokevirtual 94, 3) := by decide +kernel
theorem dL_law_715 : decode cL_law 715 = .ok (.aload_n 2, 1) := by decide +kernel
theorem dL_law_716 : decode cL_law 716 = .ok (.aload_n 0, 1) := by decide +kernel
theorem dL_law_717 : decode cL_law 717 = .ok (.iload_n 3, 1) := by decide +kernel
theorem dL_law_718 : decode cL_law 718 = .ok (.iconst 1, 1) := by decide +kernel
theorem dL_law_719 : decode cL_law 719 = .ok (.iadd, 1) := by decide +kernel
theorem dL_law_720 : decode cL_law 720 = .ok (.iaload, 1) := by decide +kernel
theorem dL_law_721 : decode cL_law 721 = .ok (.aload_n 0, 1) := by decide +kernel
theorem dL_law_722 : decode cL_law 722 = .ok (.iload_n 3, 1) := by decide +kernel
theorem dL_law_723 : decode cL_law 723 = .ok (.iconst 2, 1) := by decide +kernel
theorem dL_law_724 : decode cL_law 724 = .ok (.iadd, 1) := by decide +kernel
theorem dL_law_725 : decode cL_law 725 = .ok (.iaload, 1) := by decide +kernel
theorem dL_law_726 : decode cL_law 726 = .ok (.invokevirtual 97, 3) := by decide +kernel
theorem dL_law_729 : decode cL_law 729 = .ok (.if_icmp .eq 28, 3) := by decide +kernel
theorem dL_law_732 : decode cL_law 732 = .ok (.iconst 0, 1) := by decide +kernel
theorem dL_law_733 : decode cL_law 733 = .ok (.ireturn, 1) := by decide +kernel
theorem dL_law_734 : decode cL_law 734 = .ok (.aload_n 1, 1) := by decide +kernel
theorem dL_law_735 : decode cL_law 735 = .ok (.aload_n 0, 1) := by decide +kernel
theorem dL_law_736 : decode cL_law 736 = .ok (.iload_n 3, 1) := by decide +kernel
theorem dL_law_737 : decode cL_law 737 = .ok (.iconst 1, 1) := by decide +kernel
theorem dL_law_738 : decode cL_law 738 = .ok (.iadd, 1) := by decide +kernel
theorem dL_law_739 : decode cL_law 739 = .ok (.iaload, 1) := by decide +kernel
theorem dL_law_740 : decode cL_law 740 = .ok (.invokevirtual 98, 3) := by decide +kernel
theorem dL_law_743 : decode cL_law 743 = .ok (.aload_n 2, 1) := by decide +kernel
theorem dL_law_744 : decode cL_law 744 = .ok (.aload_n 0, 1) := by decide +kernel
theorem dL_law_745 : decode cL_law 745 = .ok (.iload_n 3, 1) := by decide +kernel
theorem dL_law_746 : decode cL_law 746 = .ok (.iconst 1, 1) := by decide +kernel
theorem dL_law_747 : decode cL_law 747 = .ok (.iadd, 1) := by decide +kernel
theorem dL_law_748 : decode cL_law 748 = .ok (.iaload, 1) := by decide +kernel
theorem dL_law_749 : decode cL_law 749 = .ok (.invokevirtual 101, 3) := by decide +kernel
theorem dL_law_752 : decode cL_law 752 = .ok (.if_icmp .eq 5, 3) := by decide +kernel
theorem dL_law_755 : decode cL_law 755 = .ok (.iconst 0, 1) := by decide +kernel
theorem dL_law_756 : decode cL_law 756 = .ok (.ireturn, 1) := by decide +kernel
theorem dL_law_757 : decode cL_law 757 = .ok (.iinc 3 4, 3) := by decide +kernel
theorem dL_law_760 : decode cL_law 760 = .ok (.goto (-742), 3) := by decide +kernel
theorem dL_law_763 : decode cL_law 763 = .ok (.iconst 1, 1) := by decide +kernel
theorem dL_law_764 : decode cL_law 764 = .ok (.ireturn, 1) := by decide +kernel
end
section
abbrev zRm (f lo : Nat) : Room := { frames := f, cells := 0, slots := 0, locals := lo }
def f_X0_addDaemon (p1 : Int32) (p2 : Int32) (σ : zS) : Option (Int32 × zS) :=
  if (σ 21 0) < 12 then
    zg (z_in (σ 21 0) 12) <|
    zl (zs σ 22 (σ 21 0).toNatClampNeg p1) fun σ3 =>
    zg (z_in (σ3 21 0) 12) <|
    zl (zs σ3 23 (σ3 21 0).toNatClampNeg p2) fun σ5 =>
    zl (zs σ5 21 0 ((σ5 21 0) + 1)) fun σ6 =>
    some ((σ6 21 0) - 1, σ6)
  else
    some ((-5), σ)
def f_X1_addDeed (p1 : Int32) (p2 : Int32) (p3 : Int32) (σ : zS) : Option (Int32 × zS) :=
  if (σ 5 0) < 40 then
    zg (z_in (σ 5 0) 40) <|
    zl (zs σ 6 (σ 5 0).toNatClampNeg p1) fun σ3 =>
    zg (z_in (σ3 5 0) 40) <|
    zl (zs σ3 7 (σ3 5 0).toNatClampNeg p2) fun σ5 =>
    zg (z_in (σ5 5 0) 40) <|
    zl (zs σ5 8 (σ5 5 0).toNatClampNeg p3) fun σ7 =>
    zg (z_in (σ7 5 0) 40) <|
    zl (zs σ7 9 (σ7 5 0).toNatClampNeg (-1)) fun σ9 =>
    zl (zs σ9 5 0 ((σ9 5 0) + 1)) fun σ10 =>
    some ((σ10 5 0) - 1, σ10)
  else
    some ((-5), σ)
def f_X2_addEvent (p1 : Int32) (p2 : Int32) (p3 : Int32) (σ : zS) : Option (Int32 × zS) :=
  if (σ 11 0) < 12 then
    zg (z_in (σ 11 0) 12) <|
    zl (zs σ 12 (σ 11 0).toNatClampNeg p1) fun σ3 =>
    zg (z_in (σ3 11 0) 12) <|
    zl (zs σ3 13 (σ3 11 0).toNatClampNeg p2) fun σ5 =>
    zg (z_in (σ5 11 0) 12) <|
    zl (zs σ5 14 (σ5 11 0).toNatClampNeg (vp_nar .boolean p3)) fun σ7 =>
    zl (zs σ7 11 0 ((σ7 11 0) + 1)) fun σ8 =>
    some ((σ8 11 0) - 1, σ8)
  else
    some ((-5), σ)
def b_X2_putInOrder_L10 (c1 : Int32) (c2 : Int32) (c3 : Int32) (a0 : Int32 × zS) : Option (Bool × (Int32 × zS)) :=
  if a0.1 ≤ 0 then
    some (false, (a0.1, a0.2))
  else
    zg (z_in (a0.1 - 1) 12) <|
    if (a0.2 16 (a0.1 - 1).toNatClampNeg) ≤ c2 then
      some (false, (a0.1, a0.2))
    else
      zg (z_in (a0.1 - 1) 12) <|
      zg (z_in a0.1 12) <|
      zl (zs a0.2 15 a0.1.toNatClampNeg (a0.2 15 (a0.1 - 1).toNatClampNeg)) fun σ7 =>
      zg (z_in (a0.1 - 1) 12) <|
      zg (z_in a0.1 12) <|
      zl (zs σ7 16 a0.1.toNatClampNeg (σ7 16 (a0.1 - 1).toNatClampNeg)) fun σ10 =>
      some (true, (a0.1 + (-1), σ10))
def f_X2_putInOrder (p1 : Int32) (p2 : Int32) (p3 : Int32) (σ : zS) : Option (Int32 × zS) :=
  if p3 < 12 then
    (z_loop (b_X2_putInOrder_L10 p1 p2 p3) zfuel (p3, σ)).bind fun a11 =>
    zg (z_in a11.1 12) <|
    zl (zs a11.2 15 a11.1.toNatClampNeg p1) fun σ13 =>
    zg (z_in a11.1 12) <|
    zl (zs σ13 16 a11.1.toNatClampNeg p2) fun σ15 =>
    some (0, σ15)
  else
    some (0, σ)
def f_X3_addDoor (p1 : Int32) (p2 : Int32) (σ : zS) : Option (Int32 × zS) :=
  if (σ 1 1) < 15 then
    zg (z_in (σ 1 1) 15) <|
    zl (zs σ 2 (σ 1 1).toNatClampNeg p1) fun σ3 =>
    zg (z_in (σ3 1 1) 15) <|
    zl (zs σ3 3 (σ3 1 1).toNatClampNeg p2) fun σ5 =>
    zl (zs σ5 1 1 ((σ5 1 1) + 1)) fun σ6 =>
    some ((σ6 1 1) - 1, σ6)
  else
    some ((-5), σ)
def f_X3_addRoom (σ : zS) : Option (Int32 × zS) :=
  if (σ 1 0) < 10 then
    zl (zs σ 1 0 ((σ 1 0) + 1)) fun σ2 =>
    some ((σ2 1 0) - 1, σ2)
  else
    some ((-5), σ)
def f_X3_addWalker (σ : zS) : Option (Int32 × zS) :=
  if (σ 1 2) < 4 then
    zl (zs σ 1 2 ((σ 1 2) + 1)) fun σ2 =>
    some ((σ2 1 2) - 1, σ2)
  else
    some ((-5), σ)
def f_X3_beyondDoor (p1 : Int32) (p2 : Int32) (σ : zS) : Option (Int32 × zS) :=
  zg (z_in p1 15) <|
  if (σ 2 p1.toNatClampNeg) = p2 then
    zg (z_in p1 15) <|
    some (σ 3 p1.toNatClampNeg, σ)
  else
    zg (z_in p1 15) <|
    if (σ 3 p1.toNatClampNeg) = p2 then
      zg (z_in p1 15) <|
      some (σ 2 p1.toNatClampNeg, σ)
    else
      some ((-1), σ)
def f_X3_isNearer (p1 : Int32) (p2 : Int32) (σ : zS) : Option (Int32 × zS) :=
  zg (z_in p1 10) <|
  if (σ 4 p1.toNatClampNeg) = (-1) then
    some (0, σ)
  else
    zg (z_in p1 10) <|
    zg (z_in p2 10) <|
    if (σ 4 p2.toNatClampNeg) ≤ (σ 4 p1.toNatClampNeg) then
      some (0, σ)
    else
      some (1, σ)
def f_X3_spread (p1 : Int32) (p2 : Int32) (p3 : Int32) (σ : zS) : Option (Int32 × zS) :=
  zg (z_in p1 10) <|
  if (σ 4 p1.toNatClampNeg) = p3 then
    zg (z_in p2 10) <|
    if (σ 4 p2.toNatClampNeg) = (-1) then
      zg (z_in p2 10) <|
      zl (zs σ 4 p2.toNatClampNeg (p3 + 1)) fun σ6 =>
      some (0, σ6)
    else
      some (0, σ)
  else
    some (0, σ)
def b_X3_measureTo_L2 (c1 : Int32) (a0 : Int32 × zS) : Option (Bool × (Int32 × zS)) :=
  if (a0.2 1 0) ≤ a0.1 then
    some (false, (a0.1, a0.2))
  else
    zg (z_in a0.1 10) <|
    zl (zs a0.2 4 a0.1.toNatClampNeg (-1)) fun σ3 =>
    some (true, (a0.1 + 1, σ3))
def b_X3_measureTo_L43 (c1 : Int32) (c3 : Int32) (a0 : Int32 × zS) : Option (Bool × (Int32 × zS)) :=
  if (a0.2 1 1) ≤ a0.1 then
    some (false, (a0.1, a0.2))
  else
    zg (z_in a0.1 15) <|
    if (a0.2 28 a0.1.toNatClampNeg) = 0 then
      zg (z_in a0.1 15) <|
      zg (z_in a0.1 15) <|
      zb (f_X3_spread (a0.2 2 a0.1.toNatClampNeg) (a0.2 3 a0.1.toNatClampNeg) c3 a0.2) fun r13 σ14 =>
      zg (z_in a0.1 15) <|
      zg (z_in a0.1 15) <|
      zb (f_X3_spread (σ14 3 a0.1.toNatClampNeg) (σ14 2 a0.1.toNatClampNeg) c3 σ14) fun r17 σ18 =>
      some (true, (a0.1 + 1, σ18))
    else
      some (true, (a0.1 + 1, a0.2))
def b_X3_measureTo_L32 (c1 : Int32) (a0 : Int32 × zS) : Option (Bool × (Int32 × zS)) :=
  if (a0.2 1 0) ≤ a0.1 then
    some (false, (a0.1, a0.2))
  else
    (z_loop (b_X3_measureTo_L43 c1 a0.1) zfuel (0, a0.2)).bind fun a19 =>
    some (true, (a0.1 + 1, a19.2))
def f_X3_measureTo (p1 : Int32) (σ : zS) : Option (Int32 × zS) :=
  (z_loop (b_X3_measureTo_L2 p1) zfuel (0, σ)).bind fun a4 =>
  zg (z_in p1 10) <|
  zl (zs a4.2 4 p1.toNatClampNeg 0) fun σ6 =>
  (z_loop (b_X3_measureTo_L32 p1) zfuel (0, σ6)).bind fun a20 =>
  some (0, a20.2)
def b_X3_nextRoom_L12 (c1 : Int32) (c2 : Int32) (a0 : Int32 × Int32 × zS) : Option (Bool × (Int32 × Int32 × zS)) :=
  if (a0.2.2 1 1) ≤ a0.2.1 then
    some (false, (a0.1, a0.2.1, a0.2.2))
  else
    zb (f_X3_beyondDoor a0.2.1 c1 a0.2.2) fun r4 σ5 =>
    zg (z_in a0.2.1 15) <|
    if (σ5 28 a0.2.1.toNatClampNeg) = 0 then
      if r4 = (-1) then
        some (true, (a0.1, a0.2.1 + 1, σ5))
      else
        zb (f_X3_isNearer r4 c1 σ5) fun r9 σ10 =>
        if r9 = 0 then
          some (true, (a0.1, a0.2.1 + 1, σ10))
        else
          if a0.1 = (-1) then
            some (true, (r4, a0.2.1 + 1, σ10))
          else
            if a0.1 ≤ r4 then
              some (true, (a0.1, a0.2.1 + 1, σ10))
            else
              some (true, (r4, a0.2.1 + 1, σ10))
    else
      some (true, (a0.1, a0.2.1 + 1, σ5))
def f_X3_nextRoom (p1 : Int32) (p2 : Int32) (σ : zS) : Option (Int32 × zS) :=
  zb (f_X3_measureTo p2 σ) fun r1 σ2 =>
  (z_loop (b_X3_nextRoom_L12 p1 p2) zfuel ((-1), 0, σ2)).bind fun a14 =>
  some (a14.1, a14.2.2)
def f_X4_addRow (p1 : Int32) (p2 : Int32) (σ : zS) : Option (Int32 × zS) :=
  if 40 ≤ (σ 24 5) then
    some (0, σ)
  else
    zg (z_in (σ 24 5) 40) <|
    zl (zs σ 25 (σ 24 5).toNatClampNeg p1) fun σ3 =>
    zg (z_in (σ3 24 5) 40) <|
    zl (zs σ3 26 (σ3 24 5).toNatClampNeg p2) fun σ5 =>
    zl (zs σ5 24 5 ((σ5 24 5) + 1)) fun σ6 =>
    some (0, σ6)
def b_X4_copyFlags_L2 (k1 : Nat) (k2 : Nat) (kl : Nat) (a0 : Int32 × zS) : Option (Bool × (Int32 × zS)) :=
  if (Int32.ofNat kl) ≤ a0.1 then
    some (false, (a0.1, a0.2))
  else
    if (Int32.ofNat kl) ≤ a0.1 then
      some (false, (a0.1, a0.2))
    else
      zg (z_in a0.1 kl) <|
      zg (z_in a0.1 kl) <|
      zl (zs a0.2 k2 a0.1.toNatClampNeg (vp_nar .boolean (a0.2 k1 a0.1.toNatClampNeg))) fun σ5 =>
      some (true, (a0.1 + 1, σ5))
def f_X4_copyFlags (k1 : Nat) (k2 : Nat) (kl : Nat) (σ : zS) : Option (Int32 × zS) :=
  (z_loop (b_X4_copyFlags_L2 k1 k2 kl) zfuel (0, σ)).bind fun a6 =>
  some (0, a6.2)
def f_X4_copyFrom (a : Nat) (b : Nat) (σ : zS) : Option (Int32 × zS) :=
  zl (zs σ (z_mo a) 0 (σ (z_mo b) 0)) fun σ1 =>
  zl (zs σ1 (z_mo a) 1 (σ1 (z_mo b) 1)) fun σ2 =>
  zl (zs σ2 (z_mo a) 2 (σ2 (z_mo b) 2)) fun σ3 =>
  zl (zs σ3 (z_mo a) 3 (σ3 (z_mo b) 3)) fun σ4 =>
  zl (zs σ4 (z_mo a) 4 (σ4 (z_mo b) 4)) fun σ5 =>
  zl (zs σ5 (z_mo a) 5 (σ5 (z_mo b) 5)) fun σ6 =>
  zl (va_up σ6 (z_mo a + 1) (va_cpy (σ6 (z_mo b + 1)) (σ6 (z_mo a + 1)) 0 0 40)) fun σ7 =>
  zl (va_up σ7 (z_mo a + 2) (va_cpy (σ7 (z_mo b + 2)) (σ7 (z_mo a + 2)) 0 0 40)) fun σ8 =>
  zl (va_up σ8 (z_mo a + 3) (va_cpy (σ8 (z_mo b + 3)) (σ8 (z_mo a + 3)) 0 0 8)) fun σ9 =>
  zb (f_X4_copyFlags (z_mo b + 4) (z_mo a + 4) 15 σ9) fun r10 σ11 =>
  zl (va_up σ11 (z_mo a + 5) (va_cpy (σ11 (z_mo b + 5)) (σ11 (z_mo a + 5)) 0 0 4)) fun σ12 =>
  zl (va_up σ12 (z_mo a + 6) (va_cpy (σ12 (z_mo b + 6)) (σ12 (z_mo a + 6)) 0 0 4)) fun σ13 =>
  zl (va_up σ13 (z_mo a + 7) (va_cpy (σ13 (z_mo b + 7)) (σ13 (z_mo a + 7)) 0 0 12)) fun σ14 =>
  zb (f_X4_copyFlags (z_mo b + 8) (z_mo a + 8) 12 σ14) fun r15 σ16 =>
  zb (f_X4_copyFlags (z_mo b + 9) (z_mo a + 9) 12 σ16) fun r17 σ18 =>
  some (0, σ18)
def f_X4_goOn (p1 : Int32) (σ : zS) : Option (Int32 × zS) :=
  zl (zs σ 24 0 ((σ 24 0) + p1)) fun σ1 =>
  if (σ1 24 0) < 1440 then
    some (0, σ1)
  else
    zl (zs σ1 24 0 ((σ1 24 0) - 1440)) fun σ3 =>
    zl (zs σ3 24 1 ((σ3 24 1) + 1)) fun σ4 =>
    some (0, σ4)
def f_X7_isThere (p0 : Int32) (p1 : Int32) (σ : zS) : Option (Int32 × zS) :=
  if p0 < 0 then
    some (0, σ)
  else
    if p1 ≤ p0 then
      some (0, σ)
    else
      some (1, σ)
def f_X7_isCounter (p0 : Int32) (σ : zS) : Option (Int32 × zS) :=
  zb (f_X7_isThere p0 8 σ) fun r1 σ2 =>
  zg (r1 = 0 ∨ r1 = 1) <|
  some (r1, σ2)
def f_X4_growCounter (p1 : Int32) (p2 : Int32) (σ : zS) : Option (Int32 × zS) :=
  zb (f_X7_isCounter p1 σ) fun r1 σ2 =>
  if r1 = 0 then
    some (0, σ2)
  else
    zg (z_in p1 8) <|
    zg (z_in p1 8) <|
    zl (zs σ2 27 p1.toNatClampNeg (if (-1000) < (if ((σ2 27 p1.toNatClampNeg) + p2) < 1000 then ((σ2 27 p1.toNatClampNeg) + p2) else 1000) then (if ((σ2 27 p1.toNatClampNeg) + p2) < 1000 then ((σ2 27 p1.toNatClampNeg) + p2) else 1000) else (-1000))) fun σ6 =>
    some (0, σ6)
def f_X6_addTimer (p1 : Int32) (p2 : Int32) (p3 : Int32) (σ : zS) : Option (Int32 × zS) :=
  if (σ 17 0) < 12 then
    zg (z_in (σ 17 0) 12) <|
    zl (zs σ 18 (σ 17 0).toNatClampNeg p1) fun σ3 =>
    zg (z_in (σ3 17 0) 12) <|
    zl (zs σ3 19 (σ3 17 0).toNatClampNeg p2) fun σ5 =>
    zg (z_in (σ5 17 0) 12) <|
    zl (zs σ5 20 (σ5 17 0).toNatClampNeg (vp_nar .boolean p3)) fun σ7 =>
    zl (zs σ7 17 0 ((σ7 17 0) + 1)) fun σ8 =>
    some ((σ8 17 0) - 1, σ8)
  else
    some ((-5), σ)
def b_X5_dropOldest_L9 (m1 : Nat) (a0 : Int32 × zS) : Option (Bool × (Int32 × zS)) :=
  if 8 ≤ a0.1 then
    some (false, (a0.1, a0.2))
  else
    zg (z_in a0.1 8) <|
    zg ((a0.2 35 a0.1.toNatClampNeg).toNatClampNeg < 9) <|
    zg (z_in (a0.1 - 1) 8) <|
    zl (zs a0.2 35 (a0.1 - 1).toNatClampNeg (a0.2 35 a0.1.toNatClampNeg)) fun σ7 =>
    some (true, (a0.1 + 1, σ7))
def f_X5_dropOldest (σ : zS) : Option (Int32 × zS) :=
  zg (z_in 0 8) <|
  zg ((σ 35 (0 : Int32).toNatClampNeg).toNatClampNeg < 9) <|
  (z_loop (b_X5_dropOldest_L9 ((σ 35 (0 : Int32).toNatClampNeg).toNatClampNeg)) zfuel (1, σ)).bind fun a8 =>
  zg (z_in 7 8) <|
  zl (zs a8.2 35 (7 : Int32).toNatClampNeg (σ 35 (0 : Int32).toNatClampNeg)) fun σ10 =>
  zl (zs σ10 34 0 7) fun σ11 =>
  some (0, σ11)
def f_X5_giveBack (σ : zS) : Option (Int32 × zS) :=
  if (σ 34 0) ≤ 0 then
    some (0, σ)
  else
    zl (zs σ 34 0 ((σ 34 0) - 1)) fun σ2 =>
    zg (z_in (σ2 34 0) 8) <|
    zg ((σ2 35 (σ2 34 0).toNatClampNeg).toNatClampNeg < 9) <|
    zb (f_X4_copyFrom 0 ((σ2 35 (σ2 34 0).toNatClampNeg).toNatClampNeg) σ2) fun r5 σ6 =>
    some (0, σ6)
def f_X5_keep (σ : zS) : Option (Int32 × zS) :=
  if (σ 34 0) < 8 then
    zg (z_in (σ 34 0) 8) <|
    zg ((σ 35 (σ 34 0).toNatClampNeg).toNatClampNeg < 9) <|
    zb (f_X4_copyFrom ((σ 35 (σ 34 0).toNatClampNeg).toNatClampNeg) 0 σ) fun r4 σ5 =>
    zl (zs σ5 34 0 ((σ5 34 0) + 1)) fun σ6 =>
    some (0, σ6)
  else
    zb (f_X5_dropOldest σ) fun r7 σ8 =>
    zg (z_in (σ8 34 0) 8) <|
    zg ((σ8 35 (σ8 34 0).toNatClampNeg).toNatClampNeg < 9) <|
    zb (f_X4_copyFrom ((σ8 35 (σ8 34 0).toNatClampNeg).toNatClampNeg) 0 σ8) fun r11 σ12 =>
    zl (zs σ12 34 0 ((σ12 34 0) + 1)) fun σ13 =>
    some (0, σ13)
def f_X7_startTimer (p1 : Int32) (σ : zS) : Option (Int32 × zS) :=
  zb (f_X7_isThere p1 (σ 17 0) σ) fun r1 σ2 =>
  if r1 = 0 then
    some (0, σ2)
  else
    zg (z_in p1 12) <|
    zg (z_in p1 12) <|
    zl (zs σ2 31 p1.toNatClampNeg (σ2 19 p1.toNatClampNeg)) fun σ6 =>
    zg (z_in p1 12) <|
    zl (zs σ6 116 p1.toNatClampNeg (vp_nar .boolean 1)) fun σ8 =>
    some (0, σ8)
def f_X7_stopTimer (p1 : Int32) (σ : zS) : Option (Int32 × zS) :=
  zb (f_X7_isThere p1 (σ 17 0) σ) fun r1 σ2 =>
  if r1 = 0 then
    some (0, σ2)
  else
    zg (z_in p1 12) <|
    zl (zs σ2 31 p1.toNatClampNeg 0) fun σ5 =>
    some (0, σ5)
def f_X7_switchDaemon (p1 : Int32) (p2 : Int32) (σ : zS) : Option (Int32 × zS) :=
  zb (f_X7_isThere p1 (σ 21 0) σ) fun r1 σ2 =>
  if r1 = 0 then
    some (0, σ2)
  else
    zg (z_in p1 12) <|
    zl (zs σ2 32 p1.toNatClampNeg (vp_nar .boolean p2)) fun σ5 =>
    some (0, σ5)
def f_X7_turnDoor (p1 : Int32) (σ : zS) : Option (Int32 × zS) :=
  zb (f_X7_isThere p1 (σ 1 1) σ) fun r1 σ2 =>
  if r1 = 0 then
    some (0, σ2)
  else
    zg (z_in p1 15) <|
    if (σ2 28 p1.toNatClampNeg) = 0 then
      zg (z_in p1 15) <|
      zl (zs σ2 28 p1.toNatClampNeg (vp_nar .boolean 1)) fun σ9 =>
      some (0, σ9)
    else
      zg (z_in p1 15) <|
      zl (zs σ2 28 p1.toNatClampNeg (vp_nar .boolean 0)) fun σ7 =>
      some (0, σ7)
def f_X7_giveGoal (p1 : Int32) (p2 : Int32) (σ : zS) : Option (Int32 × zS) :=
  zb (f_X7_isThere p1 (σ 1 2) σ) fun r1 σ2 =>
  if r1 = 0 then
    some (0, σ2)
  else
    zb (f_X7_isThere p2 (σ2 1 0) σ2) fun r4 σ5 =>
    if r4 = 0 then
      some (0, σ5)
    else
      zg (z_in p1 4) <|
      if (σ5 29 p1.toNatClampNeg) = p2 then
        zg (z_in p1 4) <|
        zl (zs σ5 30 p1.toNatClampNeg (-1)) fun σ12 =>
        some (0, σ12)
      else
        zg (z_in p1 4) <|
        zl (zs σ5 30 p1.toNatClampNeg p2) fun σ10 =>
        some (0, σ10)
def f_X7_carryOut (p1 : Int32) (p2 : Int32) (p3 : Int32) (σ : zS) : Option (Int32 × zS) :=
  if p1 = 0 then
    zb (f_X4_growCounter p2 p3 σ) fun r2 σ3 =>
    some (0, σ3)
  else
  if p1 = 1 then
    zb (f_X7_startTimer p2 σ) fun r5 σ6 =>
    some (0, σ6)
  else
  if p1 = 2 then
    zb (f_X7_stopTimer p2 σ) fun r8 σ9 =>
    some (0, σ9)
  else
  if p1 = 3 then
    zb (f_X7_switchDaemon p2 1 σ) fun r11 σ12 =>
    some (0, σ12)
  else
  if p1 = 4 then
    zb (f_X7_switchDaemon p2 0 σ) fun r14 σ15 =>
    some (0, σ15)
  else
  if p1 = 5 then
    zb (f_X7_turnDoor p2 σ) fun r17 σ18 =>
    some (0, σ18)
  else
  if p1 = 6 then
    zb (f_X7_giveGoal p2 p3 σ) fun r20 σ21 =>
    some (0, σ21)
  else
  if p1 = 7 then
    zl (zs σ 0 8 1) fun σ23 =>
    some (0, σ23)
  else
  if p1 = 8 then
    zl (zs σ 24 4 (if 600 < ((σ 24 4) + p3) then 600 else ((σ 24 4) + p3))) fun σ25 =>
    some (0, σ25)
  else
    some (0, σ)
def j_X7_doDeed_J38 (v1 : Int32) (v2 : Int32) (σ : zS) : Option (Int32 × zS) :=
  zg (z_in v1 40) <|
  zg (z_in v1 40) <|
  zg (z_in v1 40) <|
  zb (f_X7_carryOut (σ 6 v1.toNatClampNeg) (σ 7 v1.toNatClampNeg) (σ 8 v1.toNatClampNeg) σ) fun r6 σ7 =>
  some (1, σ7)
def f_X7_doDeed (p1 : Int32) (σ : zS) : Option (Int32 × zS) :=
  zg (z_in p1 40) <|
  if (σ 9 p1.toNatClampNeg) = (-1) then
    j_X7_doDeed_J38 p1 (σ 9 p1.toNatClampNeg) σ
  else
    zg (z_in (σ 9 p1.toNatClampNeg) 8) <|
    zg (z_in p1 40) <|
    if (σ 10 p1.toNatClampNeg) ≤ (σ 27 (σ 9 p1.toNatClampNeg).toNatClampNeg) then
      j_X7_doDeed_J38 p1 (σ 9 p1.toNatClampNeg) σ
    else
      some (0, σ)
def f_X7_closePast (p1 : Int32) (σ : zS) : Option (Int32 × zS) :=
  if p1 < 0 then
    some (p1, σ)
  else
    zl (zs σ 34 0 0) fun σ2 =>
    some (p1, σ2)
def f_X7_act (p1 : Int32) (σ : zS) : Option (Int32 × zS) :=
  zb (f_X7_isThere p1 (σ 5 0) σ) fun r1 σ2 =>
  if r1 = 0 then
    some ((-2), σ2)
  else
    zb (f_X7_doDeed p1 σ2) fun r4 σ5 =>
    if r4 = 0 then
      zb (f_X7_closePast 0 σ5) fun r7 σ8 =>
      some (r7, σ8)
    else
      zb (f_X7_closePast 1 σ5) fun r9 σ10 =>
      some (r9, σ10)
def f_X7_asNumber (p0 : Int32) (σ : zS) : Option (Int32 × zS) :=
  if p0 = 0 then
    some (0, σ)
  else
    some (1, σ)
def f_X7_back (σ : zS) : Option (Int32 × zS) :=
  if (σ 34 0) = 0 then
    some ((-4), σ)
  else
    zb (f_X5_giveBack σ) fun r2 σ3 =>
    some (σ3 34 0, σ3)
def j_X7_bringEvent_J25 (v1 : Int32) (s0 : Int32) (s1 : Int32) (σ : zS) : Option (Int32 × zS) :=
  zg (z_in s1 12) <|
  zl (zs σ 33 s1.toNatClampNeg (vp_nar .boolean s0)) fun σ4 =>
  zb (f_X4_addRow 0 v1 σ4) fun r5 σ6 =>
  zg (z_in v1 12) <|
  zb (f_X7_doDeed (σ6 12 v1.toNatClampNeg) σ6) fun r8 σ9 =>
  some (0, σ9)
def f_X7_bringEvent (p1 : Int32) (σ : zS) : Option (Int32 × zS) :=
  zg (z_in p1 12) <|
  if (σ 14 p1.toNatClampNeg) = 0 then
    j_X7_bringEvent_J25 p1 1 p1 σ
  else
    j_X7_bringEvent_J25 p1 0 p1 σ
def f_X7_minutesUntil (p1 : Int32) (σ : zS) : Option (Int32 × zS) :=
  if (p1 - (σ 24 0)) ≤ 0 then
    some ((p1 - (σ 24 0)) + 1440, σ)
  else
    some (p1 - (σ 24 0), σ)
def b_X7_lineUpEvents_L4 (c1 : Int32) (a0 : Int32 × Int32 × zS) : Option (Bool × (Int32 × Int32 × zS)) :=
  if (a0.2.2 11 0) ≤ a0.2.1 then
    some (false, (a0.1, a0.2.1, a0.2.2))
  else
    zg (z_in a0.2.1 12) <|
    zb (f_X7_minutesUntil (a0.2.2 13 a0.2.1.toNatClampNeg) a0.2.2) fun r3 σ4 =>
    zg (z_in a0.2.1 12) <|
    if (σ4 33 a0.2.1.toNatClampNeg) = 0 then
      if c1 < r3 then
        some (true, (a0.1, a0.2.1 + 1, σ4))
      else
        zb (f_X2_putInOrder a0.2.1 r3 a0.1 σ4) fun r8 σ9 =>
        some (true, (a0.1 + 1, a0.2.1 + 1, σ9))
    else
      some (true, (a0.1, a0.2.1 + 1, σ4))
def f_X7_lineUpEvents (p1 : Int32) (σ : zS) : Option (Int32 × zS) :=
  (z_loop (b_X7_lineUpEvents_L4 p1) zfuel (0, 0, σ)).bind fun a10 =>
  some (a10.1, a10.2.2)
def b_X7_bringEvents_L40 (c1 : Int32) (c2 : Int32) (a0 : Int32 × zS) : Option (Bool × (Int32 × zS)) :=
  if c2 ≤ a0.1 then
    some (false, (a0.1, a0.2))
  else
    if (a0.2 0 8) = 0 then
      zg (z_in a0.1 12) <|
      zb (f_X7_bringEvent (a0.2 15 a0.1.toNatClampNeg) a0.2) fun r9 σ10 =>
      some (true, (a0.1 + 1, σ10))
    else
      some (false, (a0.1, a0.2))
def f_X7_bringEvents (σ : zS) : Option (Int32 × zS) :=
  zl (zs σ 24 4 0) fun σ1 =>
  zb (f_X7_lineUpEvents ((σ 24 3) + (σ 24 4)) σ1) fun r2 σ3 =>
  zb (f_X4_goOn ((σ 24 3) + (σ 24 4)) σ3) fun r4 σ5 =>
  (z_loop (b_X7_bringEvents_L40 ((σ 24 3) + (σ 24 4)) r2) zfuel (0, σ5)).bind fun a11 =>
  some (0, a11.2)
def f_X7_isWithin (p0 : Int32) (p1 : Int32) (p2 : Int32) (σ : zS) : Option (Int32 × zS) :=
  if p0 < p1 then
    some (0, σ)
  else
    if p2 < p0 then
      some (0, σ)
    else
      some (1, σ)
def f_X7_isCounterValue (p0 : Int32) (σ : zS) : Option (Int32 × zS) :=
  zb (f_X7_isWithin p0 (-1000) 1000 σ) fun r1 σ2 =>
  zg (r1 = 0 ∨ r1 = 1) <|
  some (r1, σ2)
def j_X7_condition_J29 (v1 : Int32) (v2 : Int32) (v3 : Int32) (σ : zS) : Option (Int32 × zS) :=
  zb (f_X7_isCounterValue v3 σ) fun r5 σ6 =>
  if r5 = 0 then
    some ((-3), σ6)
  else
    zg (z_in v1 40) <|
    zl (zs σ6 9 v1.toNatClampNeg v2) fun σ9 =>
    zg (z_in v1 40) <|
    zl (zs σ9 10 v1.toNatClampNeg v3) fun σ11 =>
    zb (f_X7_closePast 1 σ11) fun r12 σ13 =>
    some (r12, σ13)
def f_X7_condition (p1 : Int32) (p2 : Int32) (p3 : Int32) (σ : zS) : Option (Int32 × zS) :=
  zb (f_X7_isThere p1 (σ 5 0) σ) fun r1 σ2 =>
  if r1 = 0 then
    some ((-2), σ2)
  else
    if p2 = (-1) then
      j_X7_condition_J29 p1 p2 p3 σ2
    else
      zb (f_X7_isCounter p2 σ2) fun r14 σ15 =>
      if r14 = 0 then
        some ((-3), σ15)
      else
        j_X7_condition_J29 p1 p2 p3 σ15
def f_X7_count (p1 : Int32) (σ : zS) : Option (Int32 × zS) :=
  if p1 = 0 then
    some (σ 1 0, σ)
  else
  if p1 = 1 then
    some (σ 1 1, σ)
  else
  if p1 = 2 then
    some (σ 1 2, σ)
  else
  if p1 = 3 then
    some (σ 5 0, σ)
  else
  if p1 = 4 then
    some (σ 11 0, σ)
  else
  if p1 = 5 then
    some (σ 17 0, σ)
  else
  if p1 = 6 then
    some (σ 21 0, σ)
  else
    some ((-3), σ)
def f_X7_counter (p1 : Int32) (σ : zS) : Option (Int32 × zS) :=
  zb (f_X7_isCounter p1 σ) fun r1 σ2 =>
  if r1 = 0 then
    some ((-3), σ2)
  else
    zg (z_in p1 8) <|
    some (σ2 27 p1.toNatClampNeg, σ2)
def f_X7_daemon (p1 : Int32) (p2 : Int32) (σ : zS) : Option (Int32 × zS) :=
  zb (f_X7_isThere p1 (σ 5 0) σ) fun r1 σ2 =>
  if r1 = 0 then
    some ((-2), σ2)
  else
    zb (f_X7_isWithin p2 0 9 σ2) fun r4 σ5 =>
    if r4 = 0 then
      some ((-3), σ5)
    else
      zb (f_X0_addDaemon p1 p2 σ5) fun r7 σ8 =>
      zb (f_X7_closePast r7 σ8) fun r9 σ10 =>
      some (r9, σ10)
def j_X7_deed_J34 (v1 : Int32) (v2 : Int32) (v3 : Int32) (σ : zS) : Option (Int32 × zS) :=
  if v1 = 8 then
    zb (f_X7_isWithin v3 1 600 σ) fun r10 σ11 =>
    if r10 = 0 then
      some ((-3), σ11)
    else
      zb (f_X1_addDeed v1 v2 v3 σ11) fun r13 σ14 =>
      zb (f_X7_closePast r13 σ14) fun r15 σ16 =>
      some (r15, σ16)
  else
    zb (f_X1_addDeed v1 v2 v3 σ) fun r6 σ7 =>
    zb (f_X7_closePast r6 σ7) fun r8 σ9 =>
    some (r8, σ9)
def f_X7_deed (p1 : Int32) (p2 : Int32) (p3 : Int32) (σ : zS) : Option (Int32 × zS) :=
  zb (f_X7_isWithin p1 0 8 σ) fun r1 σ2 =>
  if r1 = 0 then
    some ((-3), σ2)
  else
    if p1 = 0 then
      zb (f_X7_isCounter p2 σ2) fun r17 σ18 =>
      if r17 = 0 then
        some ((-3), σ18)
      else
        zb (f_X7_isCounterValue p3 σ18) fun r20 σ21 =>
        if r20 = 0 then
          some ((-3), σ21)
        else
          j_X7_deed_J34 p1 p2 p3 σ21
    else
      j_X7_deed_J34 p1 p2 p3 σ2
def f_X7_door (p1 : Int32) (p2 : Int32) (σ : zS) : Option (Int32 × zS) :=
  zb (f_X7_isThere p1 (σ 1 0) σ) fun r1 σ2 =>
  if r1 = 0 then
    some ((-2), σ2)
  else
    zb (f_X7_isThere p2 (σ2 1 0) σ2) fun r4 σ5 =>
    if r4 = 0 then
      some ((-2), σ5)
    else
      if p1 = p2 then
        some ((-3), σ5)
      else
        zb (f_X3_addDoor p1 p2 σ5) fun r8 σ9 =>
        zb (f_X7_closePast r8 σ9) fun r10 σ11 =>
        some (r10, σ11)
def f_X7_event (p1 : Int32) (p2 : Int32) (p3 : Int32) (σ : zS) : Option (Int32 × zS) :=
  zb (f_X7_isThere p1 (σ 5 0) σ) fun r1 σ2 =>
  if r1 = 0 then
    some ((-2), σ2)
  else
    zb (f_X7_isWithin p2 0 1439 σ2) fun r4 σ5 =>
    if r4 = 0 then
      some ((-3), σ5)
    else
      zb (f_X2_addEvent p1 p2 p3 σ5) fun r7 σ8 =>
      zb (f_X7_closePast r7 σ8) fun r9 σ10 =>
      some (r9, σ10)
def f_X7_is (p1 : Int32) (p2 : Int32) (σ : zS) : Option (Int32 × zS) :=
  if p1 = 0 then
    zb (f_X7_isThere p2 (σ 21 0) σ) fun r2 σ3 =>
    if r2 = 0 then
      some ((-2), σ3)
    else
      zg (z_in p2 12) <|
      zb (f_X7_asNumber (σ3 32 p2.toNatClampNeg) σ3) fun r6 σ7 =>
      some (r6, σ7)
  else
  if p1 = 1 then
    zb (f_X7_isThere p2 (σ 1 1) σ) fun r9 σ10 =>
    if r9 = 0 then
      some ((-2), σ10)
    else
      zg (z_in p2 15) <|
      if (σ10 28 p2.toNatClampNeg) = 0 then
        zb (f_X7_asNumber 1 σ10) fun r16 σ17 =>
        some (r16, σ17)
      else
        zb (f_X7_asNumber 0 σ10) fun r14 σ15 =>
        some (r14, σ15)
  else
  if p1 = 2 then
    zb (f_X7_isThere p2 (σ 11 0) σ) fun r19 σ20 =>
    if r19 = 0 then
      some ((-2), σ20)
    else
      zg (z_in p2 12) <|
      if (σ20 33 p2.toNatClampNeg) = 0 then
        zb (f_X7_asNumber 1 σ20) fun r26 σ27 =>
        some (r26, σ27)
      else
        zb (f_X7_asNumber 0 σ20) fun r24 σ25 =>
        some (r24, σ25)
  else
    some ((-3), σ)
def f_X7_left (p1 : Int32) (σ : zS) : Option (Int32 × zS) :=
  zb (f_X7_isThere p1 (σ 17 0) σ) fun r1 σ2 =>
  if r1 = 0 then
    some ((-2), σ2)
  else
    zg (z_in p1 12) <|
    some (σ2 31 p1.toNatClampNeg, σ2)
def f_X7_minutes (p1 : Int32) (σ : zS) : Option (Int32 × zS) :=
  zb (f_X7_isThere p1 (σ 11 0) σ) fun r1 σ2 =>
  if r1 = 0 then
    some ((-2), σ2)
  else
    zg (z_in p1 12) <|
    if (σ2 33 p1.toNatClampNeg) = 0 then
      zg (z_in p1 12) <|
      zb (f_X7_minutesUntil (σ2 13 p1.toNatClampNeg) σ2) fun r7 σ8 =>
      some (r7, σ8)
    else
      some ((-1), σ2)
def f_X7_moveWalker (p1 : Int32) (σ : zS) : Option (Int32 × zS) :=
  zg (z_in p1 4) <|
  zg (z_in p1 4) <|
  zb (f_X3_nextRoom (σ 29 p1.toNatClampNeg) (σ 30 p1.toNatClampNeg) σ) fun r3 σ4 =>
  if r3 = (-1) then
    some (0, σ4)
  else
    zg (z_in p1 4) <|
    zl (zs σ4 29 p1.toNatClampNeg r3) fun σ7 =>
    zg (z_in p1 4) <|
    if r3 = (σ7 30 p1.toNatClampNeg) then
      zg (z_in p1 4) <|
      zl (zs σ7 30 p1.toNatClampNeg (-1)) fun σ13 =>
      zb (f_X4_addRow 3 p1 σ13) fun r14 σ15 =>
      some (0, σ15)
    else
      zb (f_X4_addRow 3 p1 σ7) fun r10 σ11 =>
      some (0, σ11)
def b_X7_moveWalkers_L2 (a0 : Int32 × zS) : Option (Bool × (Int32 × zS)) :=
  if (a0.2 1 2) ≤ a0.1 then
    some (false, (a0.1, a0.2))
  else
    if (a0.2 0 8) = 0 then
      zg (z_in a0.1 4) <|
      if (a0.2 30 a0.1.toNatClampNeg) = (-1) then
        some (true, (a0.1 + 1, a0.2))
      else
        zb (f_X7_moveWalker a0.1 a0.2) fun r5 σ6 =>
        some (true, (a0.1 + 1, σ6))
    else
      some (false, (a0.1, a0.2))
def f_X7_moveWalkers (σ : zS) : Option (Int32 × zS) :=
  (z_loop (b_X7_moveWalkers_L2) zfuel (0, σ)).bind fun a7 =>
  some (0, a7.2)
def f_X7_pace (p1 : Int32) (σ : zS) : Option (Int32 × zS) :=
  zb (f_X7_isWithin p1 1 60 σ) fun r1 σ2 =>
  if r1 = 0 then
    some ((-3), σ2)
  else
    zl (zs σ2 24 3 p1) fun σ4 =>
    zb (f_X7_closePast (σ2 24 3) σ4) fun r5 σ6 =>
    some (r5, σ6)
def f_X7_room (σ : zS) : Option (Int32 × zS) :=
  zb (f_X3_addRoom σ) fun r1 σ2 =>
  zb (f_X7_closePast r1 σ2) fun r3 σ4 =>
  some (r3, σ4)
def f_X7_row (p1 : Int32) (p2 : Int32) (σ : zS) : Option (Int32 × zS) :=
  zb (f_X7_isWithin p2 0 1 σ) fun r1 σ2 =>
  if r1 = 0 then
    some ((-3), σ2)
  else
    zb (f_X7_isThere p1 (σ2 24 5) σ2) fun r4 σ5 =>
    if r4 = 0 then
      some ((-1), σ5)
    else
      if p2 = 0 then
        zg (z_in p1 40) <|
        some (σ5 25 p1.toNatClampNeg, σ5)
      else
        zg (z_in p1 40) <|
        some (σ5 26 p1.toNatClampNeg, σ5)
def b_X7_runDaemonsOf_L2 (c1 : Int32) (a0 : Int32 × zS) : Option (Bool × (Int32 × zS)) :=
  if (a0.2 21 0) ≤ a0.1 then
    some (false, (a0.1, a0.2))
  else
    if (a0.2 0 8) = 0 then
      zg (z_in a0.1 12) <|
      if (a0.2 23 a0.1.toNatClampNeg) = c1 then
        zg (z_in a0.1 12) <|
        if (a0.2 32 a0.1.toNatClampNeg) = 0 then
          some (true, (a0.1 + 1, a0.2))
        else
          zb (f_X4_addRow 2 a0.1 a0.2) fun r7 σ8 =>
          zg (z_in a0.1 12) <|
          zb (f_X7_doDeed (σ8 22 a0.1.toNatClampNeg) σ8) fun r10 σ11 =>
          some (true, (a0.1 + 1, σ11))
      else
        some (true, (a0.1 + 1, a0.2))
    else
      some (false, (a0.1, a0.2))
def f_X7_runDaemonsOf (p1 : Int32) (σ : zS) : Option (Int32 × zS) :=
  (z_loop (b_X7_runDaemonsOf_L2 p1) zfuel (0, σ)).bind fun a12 =>
  some (0, a12.2)
def b_X7_runDaemons_L2 (a0 : Int32 × zS) : Option (Bool × (Int32 × zS)) :=
  if 9 < a0.1 then
    some (false, (a0.1, a0.2))
  else
    zb (f_X7_runDaemonsOf a0.1 a0.2) fun r2 σ3 =>
    some (true, (a0.1 + 1, σ3))
def f_X7_runDaemons (σ : zS) : Option (Int32 × zS) :=
  (z_loop (b_X7_runDaemons_L2) zfuel (0, σ)).bind fun a4 =>
  some (0, a4.2)
def f_X7_runTimer (p1 : Int32) (σ : zS) : Option (Int32 × zS) :=
  zg (z_in p1 12) <|
  zg (z_in p1 12) <|
  zl (zs σ 31 p1.toNatClampNeg ((σ 31 p1.toNatClampNeg) - 1)) fun σ3 =>
  zg (z_in p1 12) <|
  if (σ3 31 p1.toNatClampNeg) ≤ 0 then
    zg (z_in p1 12) <|
    if (σ3 20 p1.toNatClampNeg) = 0 then
      zb (f_X4_addRow 1 p1 σ3) fun r8 σ9 =>
      zg (z_in p1 12) <|
      zb (f_X7_doDeed (σ9 18 p1.toNatClampNeg) σ9) fun r11 σ12 =>
      some (0, σ12)
    else
      zg (z_in p1 12) <|
      zg (z_in p1 12) <|
      zl (zs σ3 31 p1.toNatClampNeg (σ3 19 p1.toNatClampNeg)) fun σ15 =>
      zb (f_X4_addRow 1 p1 σ15) fun r16 σ17 =>
      zg (z_in p1 12) <|
      zb (f_X7_doDeed (σ17 18 p1.toNatClampNeg) σ17) fun r19 σ20 =>
      some (0, σ20)
  else
    some (0, σ3)
def b_X7_runTimers_L2 (a0 : Int32 × zS) : Option (Bool × (Int32 × zS)) :=
  if (a0.2 17 0) ≤ a0.1 then
    some (false, (a0.1, a0.2))
  else
    zg (z_in a0.1 12) <|
    zl (zs a0.2 116 a0.1.toNatClampNeg (vp_nar .boolean 0)) fun σ3 =>
    some (true, (a0.1 + 1, σ3))
def b_X7_runTimers_L28 (a0 : Int32 × zS) : Option (Bool × (Int32 × zS)) :=
  if (a0.2 17 0) ≤ a0.1 then
    some (false, (a0.1, a0.2))
  else
    if (a0.2 0 8) = 0 then
      zg (z_in a0.1 12) <|
      if (a0.2 31 a0.1.toNatClampNeg) ≤ 0 then
        some (true, (a0.1 + 1, a0.2))
      else
        zg (z_in a0.1 12) <|
        if (a0.2 116 a0.1.toNatClampNeg) = 0 then
          zb (f_X7_runTimer a0.1 a0.2) fun r11 σ12 =>
          some (true, (a0.1 + 1, σ12))
        else
          some (true, (a0.1 + 1, a0.2))
    else
      some (false, (a0.1, a0.2))
def f_X7_runTimers (σ : zS) : Option (Int32 × zS) :=
  (z_loop (b_X7_runTimers_L2) zfuel (0, σ)).bind fun a4 =>
  (z_loop (b_X7_runTimers_L28) zfuel (0, a4.2)).bind fun a13 =>
  some (0, a13.2)
def f_X7_timer (p1 : Int32) (p2 : Int32) (p3 : Int32) (σ : zS) : Option (Int32 × zS) :=
  zb (f_X7_isThere p1 (σ 5 0) σ) fun r1 σ2 =>
  if r1 = 0 then
    some ((-2), σ2)
  else
    zb (f_X7_isWithin p2 1 50 σ2) fun r4 σ5 =>
    if r4 = 0 then
      some ((-3), σ5)
    else
      zb (f_X6_addTimer p1 p2 p3 σ5) fun r7 σ8 =>
      zb (f_X7_closePast r7 σ8) fun r9 σ10 =>
      some (r9, σ10)
def f_X7_told (p1 : Int32) (σ : zS) : Option (Int32 × zS) :=
  if p1 = 0 then
    some (σ 24 0, σ)
  else
  if p1 = 1 then
    some (σ 24 1, σ)
  else
  if p1 = 2 then
    some (σ 24 2, σ)
  else
  if p1 = 3 then
    some (σ 24 3, σ)
  else
  if p1 = 4 then
    some (σ 24 4, σ)
  else
  if p1 = 5 then
    some (σ 34 0, σ)
  else
  if p1 = 6 then
    some (σ 24 5, σ)
  else
    some ((-3), σ)
def f_X7_turn (σ : zS) : Option (Int32 × zS) :=
  zb (f_X5_keep σ) fun r1 σ2 =>
  zl (zs σ2 24 2 ((σ2 24 2) + 1)) fun σ3 =>
  zl (zs σ3 24 5 0) fun σ4 =>
  zl (zs σ4 0 8 0) fun σ5 =>
  zb (f_X7_bringEvents σ5) fun r6 σ7 =>
  zb (f_X7_runTimers σ7) fun r8 σ9 =>
  zb (f_X7_runDaemons σ9) fun r10 σ11 =>
  zb (f_X7_moveWalkers σ11) fun r12 σ13 =>
  some (σ13 24 5, σ13)
def f_X7_walker (p1 : Int32) (σ : zS) : Option (Int32 × zS) :=
  zb (f_X7_isThere p1 (σ 1 0) σ) fun r1 σ2 =>
  if r1 = 0 then
    some ((-2), σ2)
  else
    zb (f_X3_addWalker σ2) fun r4 σ5 =>
    zb (f_X7_isThere r4 (σ5 1 2) σ5) fun r6 σ7 =>
    if r6 = 0 then
      zb (f_X7_closePast r4 σ7) fun r9 σ10 =>
      some (r9, σ10)
    else
      zg (z_in r4 4) <|
      zl (zs σ7 29 r4.toNatClampNeg p1) fun σ12 =>
      zg (z_in r4 4) <|
      zl (zs σ12 30 r4.toNatClampNeg (-1)) fun σ14 =>
      zb (f_X7_closePast r4 σ14) fun r15 σ16 =>
      some (r15, σ16)
def f_X7_walks (p1 : Int32) (p2 : Int32) (σ : zS) : Option (Int32 × zS) :=
  zb (f_X7_isThere p1 (σ 1 2) σ) fun r1 σ2 =>
  if r1 = 0 then
    some ((-2), σ2)
  else
    if p2 = 0 then
      zg (z_in p1 4) <|
      some (σ2 29 p1.toNatClampNeg, σ2)
    else
    if p2 = 1 then
      zg (z_in p1 4) <|
      some (σ2 30 p1.toNatClampNeg, σ2)
    else
      some ((-3), σ2)
def f_X7_way (p1 : Int32) (p2 : Int32) (σ : zS) : Option (Int32 × zS) :=
  zb (f_X7_isThere p1 (σ 1 0) σ) fun r1 σ2 =>
  if r1 = 0 then
    some ((-2), σ2)
  else
    zb (f_X7_isThere p2 (σ2 1 0) σ2) fun r4 σ5 =>
    if r4 = 0 then
      some ((-2), σ5)
    else
      zb (f_X3_measureTo p2 σ5) fun r7 σ8 =>
      zg (z_in p1 10) <|
      some (σ8 4 p1.toNatClampNeg, σ8)
end
section
def f_X8_in (p0 : Int32) (p1 : Int32) (p2 : Int32) (σ : zS) : Option (Int32 × zS) :=
  if p0 < p1 then
    some (0, σ)
  else
    if p2 < p0 then
      some (0, σ)
    else
      some (1, σ)
def f_X8_isOf (p0 : Int32) (p1 : Int32) (σ : zS) : Option (Int32 × zS) :=
  zb (f_X8_in p0 0 (p1 - 1) σ) fun r1 σ2 =>
  zg (r1 = 0 ∨ r1 = 1) <|
  some (r1, σ2)
def f_X8_holds (p1 : Int32) (σ : zS) : Option (Int32 × zS) :=
  zg (z_in p1 40) <|
  if (σ 8 p1.toNatClampNeg) = (-1) then
    some (1, σ)
  else
    zg (z_in p1 40) <|
    zg (z_in (4 + (σ 8 p1.toNatClampNeg)) 192) <|
    zg (z_in p1 40) <|
    if (σ 1 (4 + (σ 8 p1.toNatClampNeg)).toNatClampNeg) < (σ 9 p1.toNatClampNeg) then
      some (0, σ)
    else
      some (1, σ)
def f_X8_bound (p0 : Int32) (p1 : Int32) (p2 : Int32) (σ : zS) : Option (Int32 × zS) :=
  if p1 ≤ p0 then
    if p0 ≤ p2 then
      some (p0, σ)
    else
      some (p2, σ)
  else
    some (p1, σ)
def f_X8_perform (p1 : Int32) (σ : zS) : Option (Int32 × zS) :=
  zb (f_X8_holds p1 σ) fun r1 σ2 =>
  if r1 = 0 then
    some (0, σ2)
  else
    zg (z_in p1 40) <|
    zg (z_in p1 40) <|
    zg (z_in p1 40) <|
    if (σ2 5 p1.toNatClampNeg) = 0 then
      zg (z_in (4 + (σ2 6 p1.toNatClampNeg)) 192) <|
      zb (f_X8_bound ((σ2 1 (4 + (σ2 6 p1.toNatClampNeg)).toNatClampNeg) + (σ2 7 p1.toNatClampNeg)) (-1000) 1000 σ2) fun r9 σ10 =>
      zg (z_in (4 + (σ2 6 p1.toNatClampNeg)) 192) <|
      zl (zs σ10 1 (4 + (σ2 6 p1.toNatClampNeg)).toNatClampNeg r9) fun σ12 =>
      some (0, σ12)
    else
    if (σ2 5 p1.toNatClampNeg) = 1 then
      zb (f_X8_isOf (σ2 6 p1.toNatClampNeg) (σ2 0 19) σ2) fun r14 σ15 =>
      if r14 = 0 then
        some (0, σ15)
      else
        zg (z_in (σ2 6 p1.toNatClampNeg) 12) <|
        zg (z_in (47 + (σ2 6 p1.toNatClampNeg)) 192) <|
        zl (zs σ15 1 (47 + (σ2 6 p1.toNatClampNeg)).toNatClampNeg (σ15 14 (σ2 6 p1.toNatClampNeg).toNatClampNeg)) fun σ19 =>
        zg (z_in (σ2 6 p1.toNatClampNeg) 12) <|
        zl (zs σ19 18 (σ2 6 p1.toNatClampNeg).toNatClampNeg (vp_nar .boolean 1)) fun σ21 =>
        some (0, σ21)
    else
    if (σ2 5 p1.toNatClampNeg) = 2 then
      zb (f_X8_isOf (σ2 6 p1.toNatClampNeg) (σ2 0 19) σ2) fun r23 σ24 =>
      if r23 = 0 then
        some (0, σ24)
      else
        zg (z_in (47 + (σ2 6 p1.toNatClampNeg)) 192) <|
        zl (zs σ24 1 (47 + (σ2 6 p1.toNatClampNeg)).toNatClampNeg 0) fun σ27 =>
        some (0, σ27)
    else
    if (σ2 5 p1.toNatClampNeg) = 3 then
      zb (f_X8_isOf (σ2 6 p1.toNatClampNeg) (σ2 0 23) σ2) fun r29 σ30 =>
      if r29 = 0 then
        some (0, σ30)
      else
        zg (z_in (59 + (σ2 6 p1.toNatClampNeg)) 192) <|
        zl (zs σ30 1 (59 + (σ2 6 p1.toNatClampNeg)).toNatClampNeg 1) fun σ33 =>
        some (0, σ33)
    else
    if (σ2 5 p1.toNatClampNeg) = 4 then
      zb (f_X8_isOf (σ2 6 p1.toNatClampNeg) (σ2 0 23) σ2) fun r35 σ36 =>
      if r35 = 0 then
        some (0, σ36)
      else
        zg (z_in (59 + (σ2 6 p1.toNatClampNeg)) 192) <|
        zl (zs σ36 1 (59 + (σ2 6 p1.toNatClampNeg)).toNatClampNeg 0) fun σ39 =>
        some (0, σ39)
    else
    if (σ2 5 p1.toNatClampNeg) = 5 then
      zb (f_X8_isOf (σ2 6 p1.toNatClampNeg) (σ2 0 5) σ2) fun r41 σ42 =>
      if r41 = 0 then
        some (0, σ42)
      else
        zg (z_in (12 + (σ2 6 p1.toNatClampNeg)) 192) <|
        zg (z_in (12 + (σ2 6 p1.toNatClampNeg)) 192) <|
        zl (zs σ42 1 (12 + (σ2 6 p1.toNatClampNeg)).toNatClampNeg (1 - (σ42 1 (12 + (σ2 6 p1.toNatClampNeg)).toNatClampNeg))) fun σ46 =>
        some (0, σ46)
    else
    if (σ2 5 p1.toNatClampNeg) = 6 then
      zb (f_X8_isOf (σ2 6 p1.toNatClampNeg) (σ2 0 8) σ2) fun r48 σ49 =>
      if r48 = 0 then
        some (0, σ49)
      else
        zb (f_X8_isOf (σ2 7 p1.toNatClampNeg) (σ49 0 4) σ49) fun r51 σ52 =>
        if r51 = 0 then
          some (0, σ52)
        else
          zg (z_in (27 + (σ2 6 p1.toNatClampNeg)) 192) <|
          if (σ52 1 (27 + (σ2 6 p1.toNatClampNeg)).toNatClampNeg) = (σ2 7 p1.toNatClampNeg) then
            zg (z_in (31 + (σ2 6 p1.toNatClampNeg)) 192) <|
            zl (zs σ52 1 (31 + (σ2 6 p1.toNatClampNeg)).toNatClampNeg (-1)) fun σ59 =>
            some (0, σ59)
          else
            zg (z_in (31 + (σ2 6 p1.toNatClampNeg)) 192) <|
            zl (zs σ52 1 (31 + (σ2 6 p1.toNatClampNeg)).toNatClampNeg (σ2 7 p1.toNatClampNeg)) fun σ57 =>
            some (0, σ57)
    else
    if (σ2 5 p1.toNatClampNeg) = 7 then
      zg (σ2 0 26 = 0 ∨ σ2 0 26 = 1) <|
      zl (zs σ2 0 27 (σ2 0 26)) fun σ62 =>
      some (0, σ62)
    else
      zg (z_in 3 192) <|
      zb (f_X8_bound ((σ2 1 (3 : Int32).toNatClampNeg) + (σ2 7 p1.toNatClampNeg)) 0 600 σ2) fun r64 σ65 =>
      zg (z_in 3 192) <|
      zl (zs σ65 1 (3 : Int32).toNatClampNeg r64) fun σ67 =>
      some (0, σ67)
def f_X8_changed (p1 : Int32) (σ : zS) : Option (Int32 × zS) :=
  zl (zs σ 0 2 0) fun σ1 =>
  some (p1, σ1)
def f_X8_act (p1 : Int32) (σ : zS) : Option (Int32 × zS) :=
  zb (f_X8_isOf p1 (σ 0 9) σ) fun r1 σ2 =>
  if r1 = 0 then
    some ((-2), σ2)
  else
    zb (f_X8_holds p1 σ2) fun r4 σ5 =>
    if r4 = 0 then
      zb (f_X8_perform p1 σ5) fun r7 σ8 =>
      zb (f_X8_changed 0 σ8) fun r9 σ10 =>
      some (r9, σ10)
    else
      zb (f_X8_perform p1 σ5) fun r11 σ12 =>
      zb (f_X8_changed 1 σ12) fun r13 σ14 =>
      some (r13, σ14)
def b_X8_back_L22 (a0 : Int32 × zS) : Option (Bool × (Int32 × zS)) :=
  if 192 ≤ a0.1 then
    some (false, (a0.1, a0.2))
  else
    zg (z_in ((192 * (a0.2 0 2)) + a0.1) 1536) <|
    zg (z_in a0.1 192) <|
    zl (zs a0.2 1 a0.1.toNatClampNeg (a0.2 2 ((192 * (a0.2 0 2)) + a0.1).toNatClampNeg)) fun σ6 =>
    some (true, (a0.1 + 1, σ6))
def f_X8_back (σ : zS) : Option (Int32 × zS) :=
  if (σ 0 2) = 0 then
    some ((-4), σ)
  else
    zl (zs σ 0 2 ((σ 0 2) - 1)) fun σ2 =>
    (z_loop (b_X8_back_L22) zfuel (0, σ2)).bind fun a7 =>
    some (a7.2 0 2, a7.2)
def f_X8_condition (p1 : Int32) (p2 : Int32) (p3 : Int32) (σ : zS) : Option (Int32 × zS) :=
  zb (f_X8_isOf p1 (σ 0 9) σ) fun r1 σ2 =>
  if r1 = 0 then
    some ((-2), σ2)
  else
    zb (f_X8_in p2 (-1) 7 σ2) fun r4 σ5 =>
    if r4 = 0 then
      some ((-3), σ5)
    else
      zb (f_X8_in p3 (-1000) 1000 σ5) fun r7 σ8 =>
      if r7 = 0 then
        some ((-3), σ8)
      else
        zg (z_in p1 40) <|
        zl (zs σ8 8 p1.toNatClampNeg p2) fun σ11 =>
        zg (z_in p1 40) <|
        zl (zs σ11 9 p1.toNatClampNeg p3) fun σ13 =>
        zb (f_X8_changed 1 σ13) fun r14 σ15 =>
        some (r14, σ15)
def f_X8_count (p1 : Int32) (σ : zS) : Option (Int32 × zS) :=
  if p1 = 0 then
    some (σ 0 4, σ)
  else
  if p1 = 1 then
    some (σ 0 5, σ)
  else
  if p1 = 2 then
    some (σ 0 8, σ)
  else
  if p1 = 3 then
    some (σ 0 9, σ)
  else
  if p1 = 4 then
    some (σ 0 15, σ)
  else
  if p1 = 5 then
    some (σ 0 19, σ)
  else
    if p1 = 6 then
      some (σ 0 23, σ)
    else
      some ((-3), σ)
def f_X8_counter (p1 : Int32) (σ : zS) : Option (Int32 × zS) :=
  zb (f_X8_in p1 0 7 σ) fun r1 σ2 =>
  if r1 = 0 then
    some ((-3), σ2)
  else
    zg (z_in (4 + p1) 192) <|
    some (σ2 1 (4 + p1).toNatClampNeg, σ2)
def f_X8_daemon (p1 : Int32) (p2 : Int32) (σ : zS) : Option (Int32 × zS) :=
  zb (f_X8_isOf p1 (σ 0 9) σ) fun r1 σ2 =>
  if r1 = 0 then
    some ((-2), σ2)
  else
    zb (f_X8_in p2 0 9 σ2) fun r4 σ5 =>
    if r4 = 0 then
      some ((-3), σ5)
    else
      if (σ5 0 23) = 12 then
        some ((-5), σ5)
      else
        zg (z_in (σ5 0 23) 12) <|
        zl (zs σ5 16 (σ5 0 23).toNatClampNeg p1) fun σ9 =>
        zg (z_in (σ9 0 23) 12) <|
        zl (zs σ9 17 (σ9 0 23).toNatClampNeg p2) fun σ11 =>
        zg (z_in (59 + (σ11 0 23)) 192) <|
        zl (zs σ11 1 (59 + (σ11 0 23)).toNatClampNeg 0) fun σ13 =>
        zl (zs σ13 0 23 ((σ13 0 23) + 1)) fun σ14 =>
        zb (f_X8_changed ((σ14 0 23) - 1) σ14) fun r15 σ16 =>
        some (r15, σ16)
def j_X8_deed_J59 (v1 : Int32) (v2 : Int32) (v3 : Int32) (v4 : Int32) (σ : zS) : Option (Int32 × zS) :=
  if v4 = 0 then
    some ((-3), σ)
  else
    if (σ 0 9) = 40 then
      some ((-5), σ)
    else
      zg (z_in (σ 0 9) 40) <|
      zl (zs σ 5 (σ 0 9).toNatClampNeg v1) fun σ8 =>
      zg (z_in (σ8 0 9) 40) <|
      zl (zs σ8 6 (σ8 0 9).toNatClampNeg v2) fun σ10 =>
      zg (z_in (σ10 0 9) 40) <|
      zl (zs σ10 7 (σ10 0 9).toNatClampNeg v3) fun σ12 =>
      zg (z_in (σ12 0 9) 40) <|
      zl (zs σ12 8 (σ12 0 9).toNatClampNeg (-1)) fun σ14 =>
      zl (zs σ14 0 9 ((σ14 0 9) + 1)) fun σ15 =>
      zb (f_X8_changed ((σ15 0 9) - 1) σ15) fun r16 σ17 =>
      some (r16, σ17)
def j_X8_deed_J43 (v1 : Int32) (v2 : Int32) (v3 : Int32) (v4 : Int32) (σ : zS) : Option (Int32 × zS) :=
  if v1 = 8 then
    zb (f_X8_in v3 1 600 σ) fun r18 σ19 =>
    j_X8_deed_J59 v1 v2 v3 r18 σ19
  else
    j_X8_deed_J59 v1 v2 v3 v4 σ
def j_X8_deed_J41 (v1 : Int32) (v2 : Int32) (v3 : Int32) (v4 : Int32) (s0 : Int32) (σ : zS) : Option (Int32 × zS) :=
  j_X8_deed_J43 v1 v2 v3 s0 σ
def j_X8_deed_J40 (v1 : Int32) (v2 : Int32) (v3 : Int32) (v4 : Int32) (σ : zS) : Option (Int32 × zS) :=
  j_X8_deed_J41 v1 v2 v3 v4 0 σ
def f_X8_deed (p1 : Int32) (p2 : Int32) (p3 : Int32) (σ : zS) : Option (Int32 × zS) :=
  zb (f_X8_in p1 0 8 σ) fun r1 σ2 =>
  if p1 = 0 then
    zb (f_X8_in p2 0 7 σ2) fun r20 σ21 =>
    if r20 = 0 then
      j_X8_deed_J40 p1 p2 p3 r1 σ21
    else
      zb (f_X8_in p3 (-1000) 1000 σ21) fun r23 σ24 =>
      if r23 = 0 then
        j_X8_deed_J40 p1 p2 p3 r1 σ24
      else
        j_X8_deed_J41 p1 p2 p3 r1 1 σ24
  else
    j_X8_deed_J43 p1 p2 p3 r1 σ2
def f_X8_door (p1 : Int32) (p2 : Int32) (σ : zS) : Option (Int32 × zS) :=
  zb (f_X8_isOf p1 (σ 0 4) σ) fun r1 σ2 =>
  if r1 = 0 then
    some ((-2), σ2)
  else
    zb (f_X8_isOf p2 (σ2 0 4) σ2) fun r4 σ5 =>
    if r4 = 0 then
      some ((-2), σ5)
    else
      if p1 = p2 then
        some ((-3), σ5)
      else
        if (σ5 0 5) = 15 then
          some ((-5), σ5)
        else
          zg (z_in (σ5 0 5) 15) <|
          zl (zs σ5 3 (σ5 0 5).toNatClampNeg p1) fun σ10 =>
          zg (z_in (σ10 0 5) 15) <|
          zl (zs σ10 4 (σ10 0 5).toNatClampNeg p2) fun σ12 =>
          zg (z_in (12 + (σ12 0 5)) 192) <|
          zl (zs σ12 1 (12 + (σ12 0 5)).toNatClampNeg 1) fun σ14 =>
          zl (zs σ14 0 5 ((σ14 0 5) + 1)) fun σ15 =>
          zb (f_X8_changed ((σ15 0 5) - 1) σ15) fun r16 σ17 =>
          some (r16, σ17)
def f_X8_event (p1 : Int32) (p2 : Int32) (p3 : Int32) (σ : zS) : Option (Int32 × zS) :=
  zb (f_X8_isOf p1 (σ 0 9) σ) fun r1 σ2 =>
  if r1 = 0 then
    some ((-2), σ2)
  else
    zb (f_X8_in p2 0 1439 σ2) fun r4 σ5 =>
    if r4 = 0 then
      some ((-3), σ5)
    else
      if (σ5 0 15) = 12 then
        some ((-5), σ5)
      else
        zg (z_in (σ5 0 15) 12) <|
        zl (zs σ5 10 (σ5 0 15).toNatClampNeg p1) fun σ9 =>
        zg (z_in (σ9 0 15) 12) <|
        zl (zs σ9 11 (σ9 0 15).toNatClampNeg p2) fun σ11 =>
        zg (z_in (σ11 0 15) 12) <|
        zl (zs σ11 12 (σ11 0 15).toNatClampNeg (vp_nar .boolean p3)) fun σ13 =>
        zg (z_in (35 + (σ13 0 15)) 192) <|
        zl (zs σ13 1 (35 + (σ13 0 15)).toNatClampNeg 0) fun σ15 =>
        zl (zs σ15 0 15 ((σ15 0 15) + 1)) fun σ16 =>
        zb (f_X8_changed ((σ16 0 15) - 1) σ16) fun r17 σ18 =>
        some (r17, σ18)
def f_X8_step (p1 : Int32) (p2 : Int32) (σ : zS) : Option (Int32 × zS) :=
  zg (z_in p1 10) <|
  if (σ 20 p1.toNatClampNeg) = (-1) then
    some (0, σ)
  else
    zg (z_in p2 10) <|
    if (σ 20 p2.toNatClampNeg) = (-1) then
      zg (z_in p1 10) <|
      zg (z_in p2 10) <|
      zl (zs σ 20 p2.toNatClampNeg ((σ 20 p1.toNatClampNeg) + 1)) fun σ7 =>
      some (0, σ7)
    else
      zg (z_in p2 10) <|
      zg (z_in p1 10) <|
      if (σ 20 p2.toNatClampNeg) ≤ ((σ 20 p1.toNatClampNeg) + 1) then
        some (0, σ)
      else
        zg (z_in p1 10) <|
        zg (z_in p2 10) <|
        zl (zs σ 20 p2.toNatClampNeg ((σ 20 p1.toNatClampNeg) + 1)) fun σ13 =>
        some (0, σ13)
def b_X8_findWays_L2 (c1 : Int32) (a0 : Int32 × zS) : Option (Bool × (Int32 × zS)) :=
  if (a0.2 0 4) ≤ a0.1 then
    some (false, (a0.1, a0.2))
  else
    if a0.1 = c1 then
      zg (z_in a0.1 10) <|
      zl (zs a0.2 20 a0.1.toNatClampNeg 0) fun σ6 =>
      some (true, (a0.1 + 1, σ6))
    else
      zg (z_in a0.1 10) <|
      zl (zs a0.2 20 a0.1.toNatClampNeg (-1)) fun σ4 =>
      some (true, (a0.1 + 1, σ4))
def b_X8_findWays_L44 (c1 : Int32) (c2 : Int32) (a0 : Int32 × zS) : Option (Bool × (Int32 × zS)) :=
  if (a0.2 0 5) ≤ a0.1 then
    some (false, (a0.1, a0.2))
  else
    zg (z_in (12 + a0.1) 192) <|
    if (a0.2 1 (12 + a0.1).toNatClampNeg) = 1 then
      zg (z_in a0.1 15) <|
      zg (z_in a0.1 15) <|
      zb (f_X8_step (a0.2 3 a0.1.toNatClampNeg) (a0.2 4 a0.1.toNatClampNeg) a0.2) fun r14 σ15 =>
      zg (z_in a0.1 15) <|
      zg (z_in a0.1 15) <|
      zb (f_X8_step (σ15 4 a0.1.toNatClampNeg) (σ15 3 a0.1.toNatClampNeg) σ15) fun r18 σ19 =>
      some (true, (a0.1 + 1, σ19))
    else
      some (true, (a0.1 + 1, a0.2))
def b_X8_findWays_L34 (c1 : Int32) (a0 : Int32 × zS) : Option (Bool × (Int32 × zS)) :=
  if (a0.2 0 4) ≤ a0.1 then
    some (false, (a0.1, a0.2))
  else
    (z_loop (b_X8_findWays_L44 c1 a0.1) zfuel (0, a0.2)).bind fun a20 =>
    some (true, (a0.1 + 1, a20.2))
def f_X8_findWays (p1 : Int32) (σ : zS) : Option (Int32 × zS) :=
  (z_loop (b_X8_findWays_L2 p1) zfuel (0, σ)).bind fun a7 =>
  (z_loop (b_X8_findWays_L34 p1) zfuel (0, a7.2)).bind fun a21 =>
  some (0, a21.2)
def f_X8_tell (p1 : Int32) (p2 : Int32) (σ : zS) : Option (Int32 × zS) :=
  zl (zs σ 0 28 ((σ 0 28) + 1)) fun σ1 =>
  zg (z_in 71 192) <|
  if 60 ≤ (σ1 1 (71 : Int32).toNatClampNeg) then
    some (0, σ1)
  else
    zg (z_in 71 192) <|
    zg (z_in (72 + (2 * (σ1 1 (71 : Int32).toNatClampNeg))) 192) <|
    zl (zs σ1 1 (72 + (2 * (σ1 1 (71 : Int32).toNatClampNeg))).toNatClampNeg p1) fun σ6 =>
    zg (z_in 71 192) <|
    zg (z_in ((72 + (2 * (σ6 1 (71 : Int32).toNatClampNeg))) + 1) 192) <|
    zl (zs σ6 1 ((72 + (2 * (σ6 1 (71 : Int32).toNatClampNeg))) + 1).toNatClampNeg p2) fun σ9 =>
    zg (z_in 71 192) <|
    zg (z_in 71 192) <|
    zl (zs σ9 1 (71 : Int32).toNatClampNeg ((σ9 1 (71 : Int32).toNatClampNeg) + 1)) fun σ12 =>
    some (0, σ12)
def b_X8_goDaemons_L10 (c1 : Int32) (a0 : Int32 × zS) : Option (Bool × (Int32 × zS)) :=
  if (a0.2 0 23) ≤ a0.1 then
    some (false, (a0.1, a0.2))
  else
    if (a0.2 0 27) = 0 then
      zg (z_in a0.1 12) <|
      if (a0.2 17 a0.1.toNatClampNeg) = c1 then
        zg (z_in (59 + a0.1) 192) <|
        if (a0.2 1 (59 + a0.1).toNatClampNeg) = 1 then
          zb (f_X8_tell 2 a0.1 a0.2) fun r8 σ9 =>
          zg (z_in a0.1 12) <|
          zb (f_X8_perform (σ9 16 a0.1.toNatClampNeg) σ9) fun r11 σ12 =>
          some (true, (a0.1 + 1, σ12))
        else
          some (true, (a0.1 + 1, a0.2))
      else
        some (true, (a0.1 + 1, a0.2))
    else
      some (false, (a0.1, a0.2))
def b_X8_goDaemons_L2 (a0 : Int32 × zS) : Option (Bool × (Int32 × zS)) :=
  if 9 < a0.1 then
    some (false, (a0.1, a0.2))
  else
    (z_loop (b_X8_goDaemons_L10 a0.1) zfuel (0, a0.2)).bind fun a13 =>
    some (true, (a0.1 + 1, a13.2))
def f_X8_goDaemons (σ : zS) : Option (Int32 × zS) :=
  (z_loop (b_X8_goDaemons_L2) zfuel (0, σ)).bind fun a14 =>
  some (0, a14.2)
def b_X8_goTime_L90 (c1 : Int32) (c2 : Int32) (c3 : Int32) (c4 : Int32) (c5 : Int32) (a0 : Int32 × zS) : Option (Bool × (Int32 × zS)) :=
  if (a0.2 0 15) ≤ a0.1 then
    some (false, (a0.1, a0.2))
  else
    if (a0.2 0 27) = 0 then
      zg (z_in a0.1 12) <|
      if (a0.2 11 a0.1.toNatClampNeg) = c5 then
        zg (z_in (35 + a0.1) 192) <|
        if (a0.2 1 (35 + a0.1).toNatClampNeg) = 0 then
          zg (z_in a0.1 12) <|
          if (a0.2 12 a0.1.toNatClampNeg) = 0 then
            zg (z_in (35 + a0.1) 192) <|
            zl (zs a0.2 1 (35 + a0.1).toNatClampNeg 1) fun σ21 =>
            zb (f_X8_tell 0 a0.1 σ21) fun r22 σ23 =>
            zg (z_in a0.1 12) <|
            zb (f_X8_perform (σ23 10 a0.1.toNatClampNeg) σ23) fun r25 σ26 =>
            some (true, (a0.1 + 1, σ26))
          else
            zg (z_in (35 + a0.1) 192) <|
            zl (zs a0.2 1 (35 + a0.1).toNatClampNeg 0) fun σ28 =>
            zb (f_X8_tell 0 a0.1 σ28) fun r29 σ30 =>
            zg (z_in a0.1 12) <|
            zb (f_X8_perform (σ30 10 a0.1.toNatClampNeg) σ30) fun r32 σ33 =>
            some (true, (a0.1 + 1, σ33))
        else
          some (true, (a0.1 + 1, a0.2))
      else
        some (true, (a0.1 + 1, a0.2))
    else
      some (false, (a0.1, a0.2))
def b_X8_goTime_L64 (c1 : Int32) (c2 : Int32) (c3 : Int32) (a0 : Int32 × zS) : Option (Bool × (Int32 × zS)) :=
  if c1 < a0.1 then
    some (false, (a0.1, a0.2))
  else
    if (a0.2 0 27) = 0 then
      (z_loop (b_X8_goTime_L90 c1 c2 c3 a0.1 ((c3 + a0.1) - (c3 + a0.1) / 1440 * 1440)) zfuel (0, a0.2)).bind fun a34 =>
      some (true, (a0.1 + 1, a34.2))
    else
      some (false, (a0.1, a0.2))
def f_X8_goTime (σ : zS) : Option (Int32 × zS) :=
  zg (z_in 3 192) <|
  zg (z_in 1 192) <|
  zg (z_in 0 192) <|
  zg (z_in 3 192) <|
  zl (zs σ 1 (3 : Int32).toNatClampNeg 0) fun σ5 =>
  zg (z_in 0 192) <|
  zl (zs σ5 1 (0 : Int32).toNatClampNeg (((σ 1 (0 : Int32).toNatClampNeg) + ((σ 0 3) + (σ 1 (3 : Int32).toNatClampNeg))) - ((σ 1 (0 : Int32).toNatClampNeg) + ((σ 0 3) + (σ 1 (3 : Int32).toNatClampNeg))) / 1440 * 1440)) fun σ7 =>
  zg (z_in 1 192) <|
  zl (zs σ7 1 (1 : Int32).toNatClampNeg ((σ 1 (1 : Int32).toNatClampNeg) + (((σ 1 (0 : Int32).toNatClampNeg) + ((σ 0 3) + (σ 1 (3 : Int32).toNatClampNeg))) / 1440))) fun σ9 =>
  (z_loop (b_X8_goTime_L64 ((σ 0 3) + (σ 1 (3 : Int32).toNatClampNeg)) (σ 1 (1 : Int32).toNatClampNeg) (σ 1 (0 : Int32).toNatClampNeg)) zfuel (1, σ9)).bind fun a35 =>
  some (0, a35.2)
def b_X8_goTimers_L2 (a0 : Int32 × zS) : Option (Bool × (Int32 × zS)) :=
  if (a0.2 0 19) ≤ a0.1 then
    some (false, (a0.1, a0.2))
  else
    zg (z_in (47 + a0.1) 192) <|
    if (a0.2 1 (47 + a0.1).toNatClampNeg) ≤ 0 then
      zg (z_in a0.1 12) <|
      zl (zs a0.2 19 a0.1.toNatClampNeg (vp_nar .boolean 0)) fun σ5 =>
      zg (z_in a0.1 12) <|
      zl (zs σ5 18 a0.1.toNatClampNeg (vp_nar .boolean 0)) fun σ7 =>
      some (true, (a0.1 + 1, σ7))
    else
      zg (z_in a0.1 12) <|
      zl (zs a0.2 19 a0.1.toNatClampNeg (vp_nar .boolean 1)) fun σ9 =>
      zg (z_in a0.1 12) <|
      zl (zs σ9 18 a0.1.toNatClampNeg (vp_nar .boolean 0)) fun σ11 =>
      some (true, (a0.1 + 1, σ11))
def b_X8_goTimers_L48 (a0 : Int32 × zS) : Option (Bool × (Int32 × zS)) :=
  if (a0.2 0 19) ≤ a0.1 then
    some (false, (a0.1, a0.2))
  else
    if (a0.2 0 27) = 0 then
      zg (z_in a0.1 12) <|
      if (a0.2 19 a0.1.toNatClampNeg) = 0 then
        some (true, (a0.1 + 1, a0.2))
      else
        zg (z_in a0.1 12) <|
        if (a0.2 18 a0.1.toNatClampNeg) = 0 then
          zg (z_in (47 + a0.1) 192) <|
          if (a0.2 1 (47 + a0.1).toNatClampNeg) ≤ 0 then
            some (true, (a0.1 + 1, a0.2))
          else
            zg (z_in (47 + a0.1) 192) <|
            zg (z_in (47 + a0.1) 192) <|
            zl (zs a0.2 1 (47 + a0.1).toNatClampNeg ((a0.2 1 (47 + a0.1).toNatClampNeg) - 1)) fun σ23 =>
            zg (z_in (47 + a0.1) 192) <|
            if (σ23 1 (47 + a0.1).toNatClampNeg) = 0 then
              zg (z_in a0.1 12) <|
              if (σ23 15 a0.1.toNatClampNeg) = 0 then
                zg (z_in (47 + a0.1) 192) <|
                zl (zs σ23 1 (47 + a0.1).toNatClampNeg 0) fun σ29 =>
                zb (f_X8_tell 1 a0.1 σ29) fun r30 σ31 =>
                zg (z_in a0.1 12) <|
                zb (f_X8_perform (σ31 13 a0.1.toNatClampNeg) σ31) fun r33 σ34 =>
                some (true, (a0.1 + 1, σ34))
              else
                zg (z_in a0.1 12) <|
                zg (z_in (47 + a0.1) 192) <|
                zl (zs σ23 1 (47 + a0.1).toNatClampNeg (σ23 14 a0.1.toNatClampNeg)) fun σ37 =>
                zb (f_X8_tell 1 a0.1 σ37) fun r38 σ39 =>
                zg (z_in a0.1 12) <|
                zb (f_X8_perform (σ39 13 a0.1.toNatClampNeg) σ39) fun r41 σ42 =>
                some (true, (a0.1 + 1, σ42))
            else
              some (true, (a0.1 + 1, σ23))
        else
          some (true, (a0.1 + 1, a0.2))
    else
      some (false, (a0.1, a0.2))
def f_X8_goTimers (σ : zS) : Option (Int32 × zS) :=
  (z_loop (b_X8_goTimers_L2) zfuel (0, σ)).bind fun a12 =>
  (z_loop (b_X8_goTimers_L48) zfuel (0, a12.2)).bind fun a43 =>
  some (0, a43.2)
def j_X8_isJoined_J63 (v1 : Int32) (v2 : Int32) (v3 : Int32) (v4 : Int32) (s0 : Int32) (σ : zS) : Option (Bool × (Int32 × Int32 × zS)) :=
  if v3 = 0 then
    if s0 = 0 then
      some (true, (0, v4 + 1, σ))
    else
      zg (z_in (12 + v4) 192) <|
      if (σ 1 (12 + v4).toNatClampNeg) = 1 then
        some (true, (1, v4 + 1, σ))
      else
        some (true, (0, v4 + 1, σ))
  else
    some (true, (1, v4 + 1, σ))
def j_X8_isJoined_J62 (v1 : Int32) (v2 : Int32) (v3 : Int32) (v4 : Int32) (σ : zS) : Option (Bool × (Int32 × Int32 × zS)) :=
  j_X8_isJoined_J63 v1 v2 v3 v4 0 σ
def j_X8_isJoined_J58 (v1 : Int32) (v2 : Int32) (v3 : Int32) (v4 : Int32) (σ : zS) : Option (Bool × (Int32 × Int32 × zS)) :=
  j_X8_isJoined_J63 v1 v2 v3 v4 1 σ
def j_X8_isJoined_J36 (v1 : Int32) (v2 : Int32) (v3 : Int32) (v4 : Int32) (σ : zS) : Option (Bool × (Int32 × Int32 × zS)) :=
  zg (z_in v4 15) <|
  if (σ 3 v4.toNatClampNeg) = v2 then
    zg (z_in v4 15) <|
    if (σ 4 v4.toNatClampNeg) = v1 then
      j_X8_isJoined_J58 v1 v2 v3 v4 σ
    else
      j_X8_isJoined_J62 v1 v2 v3 v4 σ
  else
    j_X8_isJoined_J62 v1 v2 v3 v4 σ
def b_X8_isJoined_L5 (c1 : Int32) (c2 : Int32) (a0 : Int32 × Int32 × zS) : Option (Bool × (Int32 × Int32 × zS)) :=
  if (a0.2.2 0 5) ≤ a0.2.1 then
    some (false, (a0.1, a0.2.1, a0.2.2))
  else
    zg (z_in a0.2.1 15) <|
    if (a0.2.2 3 a0.2.1.toNatClampNeg) = c1 then
      zg (z_in a0.2.1 15) <|
      if (a0.2.2 4 a0.2.1.toNatClampNeg) = c2 then
        j_X8_isJoined_J58 c1 c2 a0.1 a0.2.1 a0.2.2
      else
        j_X8_isJoined_J36 c1 c2 a0.1 a0.2.1 a0.2.2
    else
      j_X8_isJoined_J36 c1 c2 a0.1 a0.2.1 a0.2.2
def f_X8_isJoined (p1 : Int32) (p2 : Int32) (σ : zS) : Option (Int32 × zS) :=
  (z_loop (b_X8_isJoined_L5 p1 p2) zfuel (0, 0, σ)).bind fun a14 =>
  zg (a14.1 = 0 ∨ a14.1 = 1) <|
  some (a14.1, a14.2.2)
def b_X8_goWalkers_L58 (c1 : Int32) (c2 : Int32) (c3 : Int32) (a0 : Int32 × Int32 × zS) : Option (Bool × (Int32 × Int32 × zS)) :=
  if a0.2.1 < 0 then
    some (false, (a0.1, a0.2.1, a0.2.2))
  else
    if c2 = (-1) then
      some (false, (a0.1, a0.2.1, a0.2.2))
    else
      zg (z_in c3 10) <|
      if (a0.2.2 20 c3.toNatClampNeg) ≤ 0 then
        some (true, (a0.1, a0.2.1 + (-1), a0.2.2))
      else
        zg (z_in a0.2.1 10) <|
        zg (z_in c3 10) <|
        if (a0.2.2 20 a0.2.1.toNatClampNeg) = ((a0.2.2 20 c3.toNatClampNeg) - 1) then
          zb (f_X8_isJoined c3 a0.2.1 a0.2.2) fun r13 σ14 =>
          if r13 = 0 then
            some (true, (a0.1, a0.2.1 + (-1), σ14))
          else
            some (true, (a0.2.1, a0.2.1 + (-1), σ14))
        else
          some (true, (a0.1, a0.2.1 + (-1), a0.2.2))
def j_X8_goWalkers_J120 (v1 : Int32) (v2 : Int32) (v3 : Int32) (v4 : Int32) (v5 : Int32) (σ : zS) : Option (Bool × (Int32 × zS)) :=
  if v4 = (-1) then
    some (true, (v1 + 1, σ))
  else
    zg (z_in (27 + v1) 192) <|
    zl (zs σ 1 (27 + v1).toNatClampNeg v4) fun σ19 =>
    if v4 = v2 then
      zg (z_in (31 + v1) 192) <|
      zl (zs σ19 1 (31 + v1).toNatClampNeg (-1)) fun σ26 =>
      zb (f_X8_tell 3 v1 σ26) fun r27 σ28 =>
      some (true, (v1 + 1, σ28))
    else
      zg (z_in (31 + v1) 192) <|
      zl (zs σ19 1 (31 + v1).toNatClampNeg v2) fun σ22 =>
      zb (f_X8_tell 3 v1 σ22) fun r23 σ24 =>
      some (true, (v1 + 1, σ24))
def j_X8_goWalkers_J50 (v1 : Int32) (v2 : Int32) (v3 : Int32) (v4 : Int32) (σ : zS) : Option (Bool × (Int32 × zS)) :=
  (z_loop (b_X8_goWalkers_L58 v1 v2 v3) zfuel (v4, (σ 0 4) - 1, σ)).bind fun a16 =>
  j_X8_goWalkers_J120 v1 v2 v3 a16.1 a16.2.1 a16.2.2
def b_X8_goWalkers_L2 (a0 : Int32 × zS) : Option (Bool × (Int32 × zS)) :=
  if (a0.2 0 8) ≤ a0.1 then
    some (false, (a0.1, a0.2))
  else
    if (a0.2 0 27) = 0 then
      zg (z_in (31 + a0.1) 192) <|
      zg (z_in (27 + a0.1) 192) <|
      if (a0.2 1 (31 + a0.1).toNatClampNeg) = (-1) then
        j_X8_goWalkers_J50 a0.1 (a0.2 1 (31 + a0.1).toNatClampNeg) (a0.2 1 (27 + a0.1).toNatClampNeg) (-1) a0.2
      else
        zb (f_X8_findWays (a0.2 1 (31 + a0.1).toNatClampNeg) a0.2) fun r29 σ30 =>
        j_X8_goWalkers_J50 a0.1 (a0.2 1 (31 + a0.1).toNatClampNeg) (a0.2 1 (27 + a0.1).toNatClampNeg) (-1) σ30
    else
      some (false, (a0.1, a0.2))
def f_X8_goWalkers (σ : zS) : Option (Int32 × zS) :=
  (z_loop (b_X8_goWalkers_L2) zfuel (0, σ)).bind fun a31 =>
  some (0, a31.2)
def j_X8_is_J40 (v1 : Int32) (v2 : Int32) (s0 : Int32) (s1 : Int32) (σ : zS) : Option (Int32 × zS) :=
  zb (f_X8_isOf s1 s0 σ) fun r6 σ7 =>
  if r6 = 0 then
    some ((-2), σ7)
  else
    if v1 = 0 then
      zg (z_in (59 + v2) 192) <|
      some (σ7 1 (59 + v2).toNatClampNeg, σ7)
    else
      if v1 = 1 then
        zg (z_in (12 + v2) 192) <|
        some (σ7 1 (12 + v2).toNatClampNeg, σ7)
      else
        zg (z_in (35 + v2) 192) <|
        some (1 - (σ7 1 (35 + v2).toNatClampNeg), σ7)
def f_X8_is (p1 : Int32) (p2 : Int32) (σ : zS) : Option (Int32 × zS) :=
  zb (f_X8_in p1 0 2 σ) fun r1 σ2 =>
  if r1 = 0 then
    some ((-3), σ2)
  else
    if p1 = 0 then
      j_X8_is_J40 p1 p2 (σ2 0 23) p2 σ2
    else
      if p1 = 1 then
        j_X8_is_J40 p1 p2 (σ2 0 5) p2 σ2
      else
        j_X8_is_J40 p1 p2 (σ2 0 15) p2 σ2
def f_X8_left (p1 : Int32) (σ : zS) : Option (Int32 × zS) :=
  zb (f_X8_isOf p1 (σ 0 19) σ) fun r1 σ2 =>
  if r1 = 0 then
    some ((-2), σ2)
  else
    zg (z_in (47 + p1) 192) <|
    some (σ2 1 (47 + p1).toNatClampNeg, σ2)
def f_X8_minutes (p1 : Int32) (σ : zS) : Option (Int32 × zS) :=
  zb (f_X8_isOf p1 (σ 0 15) σ) fun r1 σ2 =>
  if r1 = 0 then
    some ((-2), σ2)
  else
    zg (z_in p1 12) <|
    zg (z_in 0 192) <|
    zg (z_in (35 + p1) 192) <|
    if (σ2 1 (35 + p1).toNatClampNeg) = 1 then
      some ((-1), σ2)
    else
      if ((((σ2 11 p1.toNatClampNeg) - (σ2 1 (0 : Int32).toNatClampNeg)) + 1440) - (((σ2 11 p1.toNatClampNeg) - (σ2 1 (0 : Int32).toNatClampNeg)) + 1440) / 1440 * 1440) = 0 then
        some (1440, σ2)
      else
        some ((((σ2 11 p1.toNatClampNeg) - (σ2 1 (0 : Int32).toNatClampNeg)) + 1440) - (((σ2 11 p1.toNatClampNeg) - (σ2 1 (0 : Int32).toNatClampNeg)) + 1440) / 1440 * 1440, σ2)
def f_X8_pace (p1 : Int32) (σ : zS) : Option (Int32 × zS) :=
  zb (f_X8_in p1 1 60 σ) fun r1 σ2 =>
  if r1 = 0 then
    some ((-3), σ2)
  else
    zl (zs σ2 0 3 p1) fun σ4 =>
    zb (f_X8_changed (σ2 0 3) σ4) fun r5 σ6 =>
    some (r5, σ6)
def f_X8_room (σ : zS) : Option (Int32 × zS) :=
  if (σ 0 4) = 10 then
    some ((-5), σ)
  else
    zl (zs σ 0 4 ((σ 0 4) + 1)) fun σ2 =>
    zb (f_X8_changed ((σ2 0 4) - 1) σ2) fun r3 σ4 =>
    some (r3, σ4)
def f_X8_row (p1 : Int32) (p2 : Int32) (σ : zS) : Option (Int32 × zS) :=
  zb (f_X8_in p2 0 1 σ) fun r1 σ2 =>
  if r1 = 0 then
    some ((-3), σ2)
  else
    zg (z_in 71 192) <|
    zb (f_X8_isOf p1 (σ2 1 (71 : Int32).toNatClampNeg) σ2) fun r5 σ6 =>
    if r5 = 0 then
      some ((-1), σ6)
    else
      zg (z_in ((72 + (2 * p1)) + p2) 192) <|
      some (σ6 1 ((72 + (2 * p1)) + p2).toNatClampNeg, σ6)
def f_X8_timer (p1 : Int32) (p2 : Int32) (p3 : Int32) (σ : zS) : Option (Int32 × zS) :=
  zb (f_X8_isOf p1 (σ 0 9) σ) fun r1 σ2 =>
  if r1 = 0 then
    some ((-2), σ2)
  else
    zb (f_X8_in p2 1 50 σ2) fun r4 σ5 =>
    if r4 = 0 then
      some ((-3), σ5)
    else
      if (σ5 0 19) = 12 then
        some ((-5), σ5)
      else
        zg (z_in (σ5 0 19) 12) <|
        zl (zs σ5 13 (σ5 0 19).toNatClampNeg p1) fun σ9 =>
        zg (z_in (σ9 0 19) 12) <|
        zl (zs σ9 14 (σ9 0 19).toNatClampNeg p2) fun σ11 =>
        zg (z_in (σ11 0 19) 12) <|
        zl (zs σ11 15 (σ11 0 19).toNatClampNeg (vp_nar .boolean p3)) fun σ13 =>
        zg (z_in (47 + (σ13 0 19)) 192) <|
        zl (zs σ13 1 (47 + (σ13 0 19)).toNatClampNeg 0) fun σ15 =>
        zl (zs σ15 0 19 ((σ15 0 19) + 1)) fun σ16 =>
        zb (f_X8_changed ((σ16 0 19) - 1) σ16) fun r17 σ18 =>
        some (r17, σ18)
def f_X8_told (p1 : Int32) (σ : zS) : Option (Int32 × zS) :=
  if p1 = 0 then
    zg (z_in 0 192) <|
    some (σ 1 (0 : Int32).toNatClampNeg, σ)
  else
  if p1 = 1 then
    zg (z_in 1 192) <|
    some (σ 1 (1 : Int32).toNatClampNeg, σ)
  else
  if p1 = 2 then
    zg (z_in 2 192) <|
    some (σ 1 (2 : Int32).toNatClampNeg, σ)
  else
  if p1 = 3 then
    some (σ 0 3, σ)
  else
  if p1 = 4 then
    zg (z_in 3 192) <|
    some (σ 1 (3 : Int32).toNatClampNeg, σ)
  else
  if p1 = 5 then
    some (σ 0 2, σ)
  else
    if p1 = 6 then
      zg (z_in 71 192) <|
      some (σ 1 (71 : Int32).toNatClampNeg, σ)
    else
      some ((-3), σ)
def b_X8_turn_L48 (a0 : Int32 × zS) : Option (Bool × (Int32 × zS)) :=
  if 192 ≤ a0.1 then
    some (false, (a0.1, a0.2))
  else
    zg (z_in a0.1 192) <|
    zg (z_in ((192 * (a0.2 0 2)) + a0.1) 1536) <|
    zl (zs a0.2 2 ((192 * (a0.2 0 2)) + a0.1).toNatClampNeg (a0.2 1 a0.1.toNatClampNeg)) fun σ5 =>
    some (true, (a0.1 + 1, σ5))
def j_X8_turn_J46 (σ : zS) : Option (Int32 × zS) :=
  (z_loop (b_X8_turn_L48) zfuel (0, σ)).bind fun a6 =>
  zl (zs a6.2 0 2 ((a6.2 0 2) + 1)) fun σ7 =>
  zl (zs σ7 0 26 1) fun σ8 =>
  zl (zs σ8 0 27 0) fun σ9 =>
  zl (zs σ9 0 28 0) fun σ10 =>
  zg (z_in 71 192) <|
  zl (zs σ10 1 (71 : Int32).toNatClampNeg 0) fun σ12 =>
  zg (z_in 2 192) <|
  zg (z_in 2 192) <|
  zl (zs σ12 1 (2 : Int32).toNatClampNeg ((σ12 1 (2 : Int32).toNatClampNeg) + 1)) fun σ15 =>
  zb (f_X8_goTime σ15) fun r16 σ17 =>
  zb (f_X8_goTimers σ17) fun r18 σ19 =>
  zb (f_X8_goDaemons σ19) fun r20 σ21 =>
  zb (f_X8_goWalkers σ21) fun r22 σ23 =>
  zl (zs σ23 0 26 0) fun σ24 =>
  zl (zs σ24 0 27 0) fun σ25 =>
  some (σ25 0 28, σ25)
def b_X8_turn_L11 (a0 : Int32 × zS) : Option (Bool × (Int32 × zS)) :=
  if 1344 ≤ a0.1 then
    some (false, (a0.1, a0.2))
  else
    zg (z_in (a0.1 + 192) 1536) <|
    zg (z_in a0.1 1536) <|
    zl (zs a0.2 2 a0.1.toNatClampNeg (a0.2 2 (a0.1 + 192).toNatClampNeg)) fun σ29 =>
    some (true, (a0.1 + 1, σ29))
def f_X8_turn (σ : zS) : Option (Int32 × zS) :=
  if (σ 0 2) = 8 then
    (z_loop (b_X8_turn_L11) zfuel (0, σ)).bind fun a30 =>
    zl (zs a30.2 0 2 7) fun σ31 =>
    j_X8_turn_J46 σ31
  else
    j_X8_turn_J46 σ
def f_X8_walker (p1 : Int32) (σ : zS) : Option (Int32 × zS) :=
  zb (f_X8_isOf p1 (σ 0 4) σ) fun r1 σ2 =>
  if r1 = 0 then
    some ((-2), σ2)
  else
    if (σ2 0 8) = 4 then
      some ((-5), σ2)
    else
      zg (z_in (27 + (σ2 0 8)) 192) <|
      zl (zs σ2 1 (27 + (σ2 0 8)).toNatClampNeg p1) fun σ6 =>
      zg (z_in (31 + (σ6 0 8)) 192) <|
      zl (zs σ6 1 (31 + (σ6 0 8)).toNatClampNeg (-1)) fun σ8 =>
      zl (zs σ8 0 8 ((σ8 0 8) + 1)) fun σ9 =>
      zb (f_X8_changed ((σ9 0 8) - 1) σ9) fun r10 σ11 =>
      some (r10, σ11)
def f_X8_walks (p1 : Int32) (p2 : Int32) (σ : zS) : Option (Int32 × zS) :=
  zb (f_X8_isOf p1 (σ 0 8) σ) fun r1 σ2 =>
  if r1 = 0 then
    some ((-2), σ2)
  else
    if p2 = 0 then
      zg (z_in (27 + p1) 192) <|
      some (σ2 1 (27 + p1).toNatClampNeg, σ2)
    else
      if p2 = 1 then
        zg (z_in (31 + p1) 192) <|
        some (σ2 1 (31 + p1).toNatClampNeg, σ2)
      else
        some ((-3), σ2)
def f_X8_way (p1 : Int32) (p2 : Int32) (σ : zS) : Option (Int32 × zS) :=
  zb (f_X8_isOf p1 (σ 0 4) σ) fun r1 σ2 =>
  if r1 = 0 then
    some ((-2), σ2)
  else
    zb (f_X8_isOf p2 (σ2 0 4) σ2) fun r4 σ5 =>
    if r4 = 0 then
      some ((-2), σ5)
    else
      zb (f_X8_findWays p2 σ5) fun r7 σ8 =>
      zg (z_in p1 10) <|
      some (σ8 20 p1.toNatClampNeg, σ8)
end
section
set_option maxRecDepth 100000 in
set_option maxHeartbeats 4000000 in
theorem w_X0_addDaemon {Γ : zG} {ad : Nat → Nat} (hC : zX Γ layC nC ad cX0_addDaemon RX0 3 (zRm 0 0) (some .int)) (p1 : Int32) (p2 : Int32) (σ : zS) : zK Γ layC nC ad 3 (some .int) 0 [some (.ref (ad 21)), some (.int p1), some (.int p2)] [] σ (f_X0_addDaemon p1 p2 σ) some := by
  unfold f_X0_addDaemon
  refine z_aload_n hC dX0_addDaemon_0 rfl ?_
  refine z_geti hC wf_X0_18 dX0_addDaemon_1 ltC_21 layC_21 rfl ?_
  refine z_bipush hC dX0_addDaemon_4 kb_12 ?_
  refine z_icmp_lt hC 12 dX0_addDaemon_6 (by decide) (fun h1 => ?_) (fun h1 => ?_)
  · refine z_aload_n hC dX0_addDaemon_12 rfl ?_
    refine z_getr hC wf_X0_9 dX0_addDaemon_13 ltC_21 layC_21 rfl ?_
    refine z_aload_n hC dX0_addDaemon_16 rfl ?_
    refine z_geti hC wf_X0_18 dX0_addDaemon_17 ltC_21 layC_21 rfl ?_
    refine z_iload_n hC dX0_addDaemon_20 rfl ?_
    refine z_iast hC dX0_addDaemon_21 ltC_22 layC_22 (fun h2 => ?_)
    refine z_let (fun σ3 _ => ?_)
    refine z_aload_n hC dX0_addDaemon_22 rfl ?_
    refine z_getr hC wf_X0_15 dX0_addDaemon_23 ltC_21 layC_21 rfl ?_
    refine z_aload_n hC dX0_addDaemon_26 rfl ?_
    refine z_geti hC wf_X0_18 dX0_addDaemon_27 ltC_21 layC_21 rfl ?_
    refine z_iload_n hC dX0_addDaemon_30 rfl ?_
    refine z_iast hC dX0_addDaemon_31 ltC_23 layC_23 (fun h4 => ?_)
    refine z_let (fun σ5 _ => ?_)
    refine z_aload_n hC dX0_addDaemon_32 rfl ?_
    refine z_dup hC dX0_addDaemon_33 rfl ?_
    refine z_geti hC wf_X0_18 dX0_addDaemon_34 ltC_21 layC_21 rfl ?_
    refine z_iconst hC dX0_addDaemon_37 ki_1 ?_
    refine z_iadd hC dX0_addDaemon_38 ?_
    refine z_puti hC wp_X0_18 dX0_addDaemon_39 ltC_21 layC_21 rfl ?_
    refine z_let (fun σ6 _ => ?_)
    refine z_aload_n hC dX0_addDaemon_42 rfl ?_
    refine z_geti hC wf_X0_18 dX0_addDaemon_43 ltC_21 layC_21 rfl ?_
    refine z_iconst hC dX0_addDaemon_46 ki_1 ?_
    refine z_isub hC dX0_addDaemon_47 ?_
    exact z_iret hC dX0_addDaemon_48
  · refine z_bipush hC dX0_addDaemon_9 kb_m5 ?_
    exact z_iret hC dX0_addDaemon_11
theorem c_X0_addDaemon (p1 : Int32) (p2 : Int32) : zM layC nC yX0_addDaemon cX0_addDaemon 3 (some .int) (zRm 0 0) (fun ad => [.ref (ad 21), .int p1, .int p2]) (f_X0_addDaemon p1 p2) := zM_of (own := RX0) (by decide) rfl (fun ad w hw => by simp only [List.mem_cons, List.not_mem_nil, or_false] at hw; (first | exact hw.elim | (rcases hw with rfl | rfl | rfl <;> rfl))) (fun ad => Nat.le_of_ble_eq_true rfl) (fun Γ ad hC σ => w_X0_addDaemon hC p1 p2 σ)
set_option maxRecDepth 100000 in
set_option maxHeartbeats 4000000 in
theorem w_X1_addDeed {Γ : zG} {ad : Nat → Nat} (hC : zX Γ layC nC ad cX1_addDeed RX1 4 (zRm 0 0) (some .int)) (p1 : Int32) (p2 : Int32) (p3 : Int32) (σ : zS) : zK Γ layC nC ad 4 (some .int) 0 [some (.ref (ad 5)), some (.int p1), some (.int p2), some (.int p3)] [] σ (f_X1_addDeed p1 p2 p3 σ) some := by
  unfold f_X1_addDeed
  refine z_aload_n hC dX1_addDeed_0 rfl ?_
  refine z_geti hC wf_X1_27 dX1_addDeed_1 ltC_5 layC_5 rfl ?_
  refine z_bipush hC dX1_addDeed_4 kb_40 ?_
  refine z_icmp_lt hC 12 dX1_addDeed_6 (by decide) (fun h1 => ?_) (fun h1 => ?_)
  · refine z_aload_n hC dX1_addDeed_12 rfl ?_
    refine z_getr hC wf_X1_9 dX1_addDeed_13 ltC_5 layC_5 rfl ?_
    refine z_aload_n hC dX1_addDeed_16 rfl ?_
    refine z_geti hC wf_X1_27 dX1_addDeed_17 ltC_5 layC_5 rfl ?_
    refine z_iload_n hC dX1_addDeed_20 rfl ?_
    refine z_iast hC dX1_addDeed_21 ltC_6 layC_6 (fun h2 => ?_)
    refine z_let (fun σ3 _ => ?_)
    refine z_aload_n hC dX1_addDeed_22 rfl ?_
    refine z_getr hC wf_X1_15 dX1_addDeed_23 ltC_5 layC_5 rfl ?_
    refine z_aload_n hC dX1_addDeed_26 rfl ?_
    refine z_geti hC wf_X1_27 dX1_addDeed_27 ltC_5 layC_5 rfl ?_
    refine z_iload_n hC dX1_addDeed_30 rfl ?_
    refine z_iast hC dX1_addDeed_31 ltC_7 layC_7 (fun h4 => ?_)
    refine z_let (fun σ5 _ => ?_)
    refine z_aload_n hC dX1_addDeed_32 rfl ?_
    refine z_getr hC wf_X1_18 dX1_addDeed_33 ltC_5 layC_5 rfl ?_
    refine z_aload_n hC dX1_addDeed_36 rfl ?_
    refine z_geti hC wf_X1_27 dX1_addDeed_37 ltC_5 layC_5 rfl ?_
    refine z_iload_n hC dX1_addDeed_40 rfl ?_
    refine z_iast hC dX1_addDeed_41 ltC_8 layC_8 (fun h6 => ?_)
    refine z_let (fun σ7 _ => ?_)
    refine z_aload_n hC dX1_addDeed_42 rfl ?_
    refine z_getr hC wf_X1_21 dX1_addDeed_43 ltC_5 layC_5 rfl ?_
    refine z_aload_n hC dX1_addDeed_46 rfl ?_
    refine z_geti hC wf_X1_27 dX1_addDeed_47 ltC_5 layC_5 rfl ?_
    refine z_iconst hC dX1_addDeed_50 ki_m1 ?_
    refine z_iast hC dX1_addDeed_51 ltC_9 layC_9 (fun h8 => ?_)
    refine z_let (fun σ9 _ => ?_)
    refine z_aload_n hC dX1_addDeed_52 rfl ?_
    refine z_dup hC dX1_addDeed_53 rfl ?_
    refine z_geti hC wf_X1_27 dX1_addDeed_54 ltC_5 layC_5 rfl ?_
    refine z_iconst hC dX1_addDeed_57 ki_1 ?_
    refine z_iadd hC dX1_addDeed_58 ?_
    refine z_puti hC wp_X1_27 dX1_addDeed_59 ltC_5 layC_5 rfl ?_
    refine z_let (fun σ10 _ => ?_)
    refine z_aload_n hC dX1_addDeed_62 rfl ?_
    refine z_geti hC wf_X1_27 dX1_addDeed_63 ltC_5 layC_5 rfl ?_
    refine z_iconst hC dX1_addDeed_66 ki_1 ?_
    refine z_isub hC dX1_addDeed_67 ?_
    exact z_iret hC dX1_addDeed_68
  · refine z_bipush hC dX1_addDeed_9 kb_m5 ?_
    exact z_iret hC dX1_addDeed_11
theorem c_X1_addDeed (p1 : Int32) (p2 : Int32) (p3 : Int32) : zM layC nC yX1_addDeed cX1_addDeed 4 (some .int) (zRm 0 0) (fun ad => [.ref (ad 5), .int p1, .int p2, .int p3]) (f_X1_addDeed p1 p2 p3) := zM_of (own := RX1) (by decide) rfl (fun ad w hw => by simp only [List.mem_cons, List.not_mem_nil, or_false] at hw; (first | exact hw.elim | (rcases hw with rfl | rfl | rfl | rfl <;> rfl))) (fun ad => Nat.le_of_ble_eq_true rfl) (fun Γ ad hC σ => w_X1_addDeed hC p1 p2 p3 σ)
set_option maxRecDepth 100000 in
set_option maxHeartbeats 4000000 in
theorem w_X2_addEvent {Γ : zG} {ad : Nat → Nat} (hC : zX Γ layC nC ad cX2_addEvent RX2 4 (zRm 0 0) (some .int)) (p1 : Int32) (p2 : Int32) (p3 : Int32) (σ : zS) : zK Γ layC nC ad 4 (some .int) 0 [some (.ref (ad 11)), some (.int p1), some (.int p2), some (.int p3)] [] σ (f_X2_addEvent p1 p2 p3 σ) some := by
  unfold f_X2_addEvent
  refine z_aload_n hC dX2_addEvent_0 rfl ?_
  refine z_geti hC wf_X2_28 dX2_addEvent_1 ltC_11 layC_11 rfl ?_
  refine z_bipush hC dX2_addEvent_4 kb_12 ?_
  refine z_icmp_lt hC 12 dX2_addEvent_6 (by decide) (fun h1 => ?_) (fun h1 => ?_)
  · refine z_aload_n hC dX2_addEvent_12 rfl ?_
    refine z_getr hC wf_X2_9 dX2_addEvent_13 ltC_11 layC_11 rfl ?_
    refine z_aload_n hC dX2_addEvent_16 rfl ?_
    refine z_geti hC wf_X2_28 dX2_addEvent_17 ltC_11 layC_11 rfl ?_
    refine z_iload_n hC dX2_addEvent_20 rfl ?_
    refine z_iast hC dX2_addEvent_21 ltC_12 layC_12 (fun h2 => ?_)
    refine z_let (fun σ3 _ => ?_)
    refine z_aload_n hC dX2_addEvent_22 rfl ?_
    refine z_getr hC wf_X2_15 dX2_addEvent_23 ltC_11 layC_11 rfl ?_
    refine z_aload_n hC dX2_addEvent_26 rfl ?_
    refine z_geti hC wf_X2_28 dX2_addEvent_27 ltC_11 layC_11 rfl ?_
    refine z_iload_n hC dX2_addEvent_30 rfl ?_
    refine z_iast hC dX2_addEvent_31 ltC_13 layC_13 (fun h4 => ?_)
    refine z_let (fun σ5 _ => ?_)
    refine z_aload_n hC dX2_addEvent_32 rfl ?_
    refine z_getr hC wf_X2_18 dX2_addEvent_33 ltC_11 layC_11 rfl ?_
    refine z_aload_n hC dX2_addEvent_36 rfl ?_
    refine z_geti hC wf_X2_28 dX2_addEvent_37 ltC_11 layC_11 rfl ?_
    refine z_iload_n hC dX2_addEvent_40 rfl ?_
    refine z_zast hC dX2_addEvent_41 ltC_14 layC_14 (fun h6 => ?_)
    refine z_let (fun σ7 _ => ?_)
    refine z_aload_n hC dX2_addEvent_42 rfl ?_
    refine z_dup hC dX2_addEvent_43 rfl ?_
    refine z_geti hC wf_X2_28 dX2_addEvent_44 ltC_11 layC_11 rfl ?_
    refine z_iconst hC dX2_addEvent_47 ki_1 ?_
    refine z_iadd hC dX2_addEvent_48 ?_
    refine z_puti hC wp_X2_28 dX2_addEvent_49 ltC_11 layC_11 rfl ?_
    refine z_let (fun σ8 _ => ?_)
    refine z_aload_n hC dX2_addEvent_52 rfl ?_
    refine z_geti hC wf_X2_28 dX2_addEvent_53 ltC_11 layC_11 rfl ?_
    refine z_iconst hC dX2_addEvent_56 ki_1 ?_
    refine z_isub hC dX2_addEvent_57 ?_
    exact z_iret hC dX2_addEvent_58
  · refine z_bipush hC dX2_addEvent_9 kb_m5 ?_
    exact z_iret hC dX2_addEvent_11
theorem c_X2_addEvent (p1 : Int32) (p2 : Int32) (p3 : Int32) : zM layC nC yX2_addEvent cX2_addEvent 4 (some .int) (zRm 0 0) (fun ad => [.ref (ad 11), .int p1, .int p2, .int p3]) (f_X2_addEvent p1 p2 p3) := zM_of (own := RX2) (by decide) rfl (fun ad w hw => by simp only [List.mem_cons, List.not_mem_nil, or_false] at hw; (first | exact hw.elim | (rcases hw with rfl | rfl | rfl | rfl <;> rfl))) (fun ad => Nat.le_of_ble_eq_true rfl) (fun Γ ad hC σ => w_X2_addEvent hC p1 p2 p3 σ)
set_option maxRecDepth 100000 in
set_option maxHeartbeats 4000000 in
theorem t_X2_putInOrder_L10 {Γ : zG} {ad : Nat → Nat} (hC : zX Γ layC nC ad cX2_putInOrder RX2 5 (zRm 0 0) none) (c1 : Int32) (c2 : Int32) (c3 : Int32) (a0 : Int32 × zS) (K : Bool × (Int32 × zS) → Option (Int32 × zS)) (hc : ∀ (x0 : Int32) (s' : zS), zZ Γ layC nC ad 5 none 10 [some (.ref (ad 11)), some (.int c1), some (.int c2), some (.int c3), some (.int x0)] [] s' (K (true, (x0, s')))) (hx : ∀ (x0 : Int32) (s' : zS), zZ Γ layC nC ad 5 none 66 [some (.ref (ad 11)), some (.int c1), some (.int c2), some (.int c3), some (.int x0)] [] s' (K (false, (x0, s')))) : zK Γ layC nC ad 5 none 10 [some (.ref (ad 11)), some (.int c1), some (.int c2), some (.int c3), some (.int a0.1)] [] (a0.2) (b_X2_putInOrder_L10 c1 c2 c3 a0) K := by
  unfold b_X2_putInOrder_L10
  refine z_iload hC dX2_putInOrder_10 rfl ?_
  refine z_if_le hC 66 dX2_putInOrder_12 (by decide) (fun h2 => ?_) (fun h2 => ?_)
  · exact z_leaf (hx a0.1 a0.2)
  · refine z_aload_n hC dX2_putInOrder_15 rfl ?_
    refine z_getr hC wf_X2_25 dX2_putInOrder_16 ltC_11 layC_11 rfl ?_
    refine z_iload hC dX2_putInOrder_19 rfl ?_
    refine z_iconst hC dX2_putInOrder_21 ki_1 ?_
    refine z_isub hC dX2_putInOrder_22 ?_
    refine z_iald hC dX2_putInOrder_23 ltC_16 layC_16 (fun h3 => ?_)
    refine z_iload_n hC dX2_putInOrder_24 rfl ?_
    refine z_icmp_le hC 66 dX2_putInOrder_25 (by decide) (fun h4 => ?_) (fun h4 => ?_)
    · exact z_leaf (hx a0.1 a0.2)
    · refine z_aload_n hC dX2_putInOrder_28 rfl ?_
      refine z_getr hC wf_X2_22 dX2_putInOrder_29 ltC_11 layC_11 rfl ?_
      refine z_iload hC dX2_putInOrder_32 rfl ?_
      refine z_aload_n hC dX2_putInOrder_34 rfl ?_
      refine z_getr hC wf_X2_22 dX2_putInOrder_35 ltC_11 layC_11 rfl ?_
      refine z_iload hC dX2_putInOrder_38 rfl ?_
      refine z_iconst hC dX2_putInOrder_40 ki_1 ?_
      refine z_isub hC dX2_putInOrder_41 ?_
      refine z_iald hC dX2_putInOrder_42 ltC_15 layC_15 (fun h5 => ?_)
      refine z_iast hC dX2_putInOrder_43 ltC_15 layC_15 (fun h6 => ?_)
      refine z_let (fun σ7 _ => ?_)
      refine z_aload_n hC dX2_putInOrder_44 rfl ?_
      refine z_getr hC wf_X2_25 dX2_putInOrder_45 ltC_11 layC_11 rfl ?_
      refine z_iload hC dX2_putInOrder_48 rfl ?_
      refine z_aload_n hC dX2_putInOrder_50 rfl ?_
      refine z_getr hC wf_X2_25 dX2_putInOrder_51 ltC_11 layC_11 rfl ?_
      refine z_iload hC dX2_putInOrder_54 rfl ?_
      refine z_iconst hC dX2_putInOrder_56 ki_1 ?_
      refine z_isub hC dX2_putInOrder_57 ?_
      refine z_iald hC dX2_putInOrder_58 ltC_16 layC_16 (fun h8 => ?_)
      refine z_iast hC dX2_putInOrder_59 ltC_16 layC_16 (fun h9 => ?_)
      refine z_let (fun σ10 _ => ?_)
      refine z_iinc hC dX2_putInOrder_60 (lv' := [some (.ref (ad 11)), some (.int c1), some (.int c2), some (.int c3), some (.int (a0.1 + (-1)))]) rfl (by decide) ki_m1 rfl ?_
      refine z_goto hC 10 dX2_putInOrder_63 (by decide) ?_
      exact z_leaf (hc (a0.1 + (-1)) σ10)
set_option maxRecDepth 100000 in
set_option maxHeartbeats 4000000 in
theorem w_X2_putInOrder {Γ : zG} {ad : Nat → Nat} (hC : zX Γ layC nC ad cX2_putInOrder RX2 5 (zRm 0 0) none) (p1 : Int32) (p2 : Int32) (p3 : Int32) (σ : zS) : zK Γ layC nC ad 5 none 0 [some (.ref (ad 11)), some (.int p1), some (.int p2), some (.int p3), none] [] σ (f_X2_putInOrder p1 p2 p3 σ) some := by
  unfold f_X2_putInOrder
  refine z_iload_n hC dX2_putInOrder_0 rfl ?_
  refine z_bipush hC dX2_putInOrder_1 kb_12 ?_
  refine z_icmp_lt hC 7 dX2_putInOrder_3 (by decide) (fun h1 => ?_) (fun h1 => ?_)
  · refine z_iload_n hC dX2_putInOrder_7 rfl ?_
    refine z_istore hC dX2_putInOrder_8 (lv' := [some (.ref (ad 11)), some (.int p1), some (.int p2), some (.int p3), some (.int p3)]) (by decide) rfl ?_
    refine z_lpb (lvf := fun z : Int32 × zS => [some (.ref (ad 11)), some (.int p1), some (.int p2), some (.int p3), some (.int z.1)]) (sg := fun z => z.2) (x := 66) zfuel (p3, σ) rfl rfl (fun z K hc hx => t_X2_putInOrder_L10 hC p1 p2 p3 z K (fun x0 s' => hc (x0, s')) (fun x0 s' => hx (x0, s'))) (fun a11 => ?_)
    refine z_aload_n hC dX2_putInOrder_66 rfl ?_
    refine z_getr hC wf_X2_22 dX2_putInOrder_67 ltC_11 layC_11 rfl ?_
    refine z_iload hC dX2_putInOrder_70 rfl ?_
    refine z_iload_n hC dX2_putInOrder_72 rfl ?_
    refine z_iast hC dX2_putInOrder_73 ltC_15 layC_15 (fun h12 => ?_)
    refine z_let (fun σ13 _ => ?_)
    refine z_aload_n hC dX2_putInOrder_74 rfl ?_
    refine z_getr hC wf_X2_25 dX2_putInOrder_75 ltC_11 layC_11 rfl ?_
    refine z_iload hC dX2_putInOrder_78 rfl ?_
    refine z_iload_n hC dX2_putInOrder_80 rfl ?_
    refine z_iast hC dX2_putInOrder_81 ltC_16 layC_16 (fun h14 => ?_)
    refine z_let (fun σ15 _ => ?_)
    exact z_vret hC dX2_putInOrder_82
  · exact z_vret hC dX2_putInOrder_6
theorem c_X2_putInOrder (p1 : Int32) (p2 : Int32) (p3 : Int32) : zM layC nC yX2_putInOrder cX2_putInOrder 5 none (zRm 0 0) (fun ad => [.ref (ad 11), .int p1, .int p2, .int p3]) (f_X2_putInOrder p1 p2 p3) := zM_of (own := RX2) (by decide) rfl (fun ad w hw => by simp only [List.mem_cons, List.not_mem_nil, or_false] at hw; (first | exact hw.elim | (rcases hw with rfl | rfl | rfl | rfl <;> rfl))) (fun ad => Nat.le_of_ble_eq_true rfl) (fun Γ ad hC σ => w_X2_putInOrder hC p1 p2 p3 σ)
set_option maxRecDepth 100000 in
set_option maxHeartbeats 4000000 in
theorem w_X3_addDoor {Γ : zG} {ad : Nat → Nat} (hC : zX Γ layC nC ad cX3_addDoor RX3 3 (zRm 0 0) (some .int)) (p1 : Int32) (p2 : Int32) (σ : zS) : zK Γ layC nC ad 3 (some .int) 0 [some (.ref (ad 1)), some (.int p1), some (.int p2)] [] σ (f_X3_addDoor p1 p2 σ) some := by
  unfold f_X3_addDoor
  refine z_aload_n hC dX3_addDoor_0 rfl ?_
  refine z_geti hC wf_X3_25 dX3_addDoor_1 ltC_1 layC_1 rfl ?_
  refine z_bipush hC dX3_addDoor_4 kb_15 ?_
  refine z_icmp_lt hC 12 dX3_addDoor_6 (by decide) (fun h1 => ?_) (fun h1 => ?_)
  · refine z_aload_n hC dX3_addDoor_12 rfl ?_
    refine z_getr hC wf_X3_9 dX3_addDoor_13 ltC_1 layC_1 rfl ?_
    refine z_aload_n hC dX3_addDoor_16 rfl ?_
    refine z_geti hC wf_X3_25 dX3_addDoor_17 ltC_1 layC_1 rfl ?_
    refine z_iload_n hC dX3_addDoor_20 rfl ?_
    refine z_iast hC dX3_addDoor_21 ltC_2 layC_2 (fun h2 => ?_)
    refine z_let (fun σ3 _ => ?_)
    refine z_aload_n hC dX3_addDoor_22 rfl ?_
    refine z_getr hC wf_X3_15 dX3_addDoor_23 ltC_1 layC_1 rfl ?_
    refine z_aload_n hC dX3_addDoor_26 rfl ?_
    refine z_geti hC wf_X3_25 dX3_addDoor_27 ltC_1 layC_1 rfl ?_
    refine z_iload_n hC dX3_addDoor_30 rfl ?_
    refine z_iast hC dX3_addDoor_31 ltC_3 layC_3 (fun h4 => ?_)
    refine z_let (fun σ5 _ => ?_)
    refine z_aload_n hC dX3_addDoor_32 rfl ?_
    refine z_dup hC dX3_addDoor_33 rfl ?_
    refine z_geti hC wf_X3_25 dX3_addDoor_34 ltC_1 layC_1 rfl ?_
    refine z_iconst hC dX3_addDoor_37 ki_1 ?_
    refine z_iadd hC dX3_addDoor_38 ?_
    refine z_puti hC wp_X3_25 dX3_addDoor_39 ltC_1 layC_1 rfl ?_
    refine z_let (fun σ6 _ => ?_)
    refine z_aload_n hC dX3_addDoor_42 rfl ?_
    refine z_geti hC wf_X3_25 dX3_addDoor_43 ltC_1 layC_1 rfl ?_
    refine z_iconst hC dX3_addDoor_46 ki_1 ?_
    refine z_isub hC dX3_addDoor_47 ?_
    exact z_iret hC dX3_addDoor_48
  · refine z_bipush hC dX3_addDoor_9 kb_m5 ?_
    exact z_iret hC dX3_addDoor_11
theorem c_X3_addDoor (p1 : Int32) (p2 : Int32) : zM layC nC yX3_addDoor cX3_addDoor 3 (some .int) (zRm 0 0) (fun ad => [.ref (ad 1), .int p1, .int p2]) (f_X3_addDoor p1 p2) := zM_of (own := RX3) (by decide) rfl (fun ad w hw => by simp only [List.mem_cons, List.not_mem_nil, or_false] at hw; (first | exact hw.elim | (rcases hw with rfl | rfl | rfl <;> rfl))) (fun ad => Nat.le_of_ble_eq_true rfl) (fun Γ ad hC σ => w_X3_addDoor hC p1 p2 σ)
set_option maxRecDepth 100000 in
set_option maxHeartbeats 4000000 in
theorem w_X3_addRoom {Γ : zG} {ad : Nat → Nat} (hC : zX Γ layC nC ad cX3_addRoom RX3 1 (zRm 0 0) (some .int)) (σ : zS) : zK Γ layC nC ad 1 (some .int) 0 [some (.ref (ad 1))] [] σ (f_X3_addRoom σ) some := by
  unfold f_X3_addRoom
  refine z_aload_n hC dX3_addRoom_0 rfl ?_
  refine z_geti hC wf_X3_21 dX3_addRoom_1 ltC_1 layC_1 rfl ?_
  refine z_bipush hC dX3_addRoom_4 kb_10 ?_
  refine z_icmp_lt hC 12 dX3_addRoom_6 (by decide) (fun h1 => ?_) (fun h1 => ?_)
  · refine z_aload_n hC dX3_addRoom_12 rfl ?_
    refine z_dup hC dX3_addRoom_13 rfl ?_
    refine z_geti hC wf_X3_21 dX3_addRoom_14 ltC_1 layC_1 rfl ?_
    refine z_iconst hC dX3_addRoom_17 ki_1 ?_
    refine z_iadd hC dX3_addRoom_18 ?_
    refine z_puti hC wp_X3_21 dX3_addRoom_19 ltC_1 layC_1 rfl ?_
    refine z_let (fun σ2 _ => ?_)
    refine z_aload_n hC dX3_addRoom_22 rfl ?_
    refine z_geti hC wf_X3_21 dX3_addRoom_23 ltC_1 layC_1 rfl ?_
    refine z_iconst hC dX3_addRoom_26 ki_1 ?_
    refine z_isub hC dX3_addRoom_27 ?_
    exact z_iret hC dX3_addRoom_28
  · refine z_bipush hC dX3_addRoom_9 kb_m5 ?_
    exact z_iret hC dX3_addRoom_11
theorem c_X3_addRoom : zM layC nC yX3_addRoom cX3_addRoom 1 (some .int) (zRm 0 0) (fun ad => [.ref (ad 1)]) (f_X3_addRoom) := zM_of (own := RX3) (by decide) rfl (fun ad w hw => by simp only [List.mem_cons, List.not_mem_nil, or_false] at hw; (first | exact hw.elim | (rcases hw with rfl <;> rfl))) (fun ad => Nat.le_of_ble_eq_true rfl) (fun Γ ad hC σ => w_X3_addRoom hC σ)
set_option maxRecDepth 100000 in
set_option maxHeartbeats 4000000 in
theorem w_X3_addWalker {Γ : zG} {ad : Nat → Nat} (hC : zX Γ layC nC ad cX3_addWalker RX3 1 (zRm 0 0) (some .int)) (σ : zS) : zK Γ layC nC ad 1 (some .int) 0 [some (.ref (ad 1))] [] σ (f_X3_addWalker σ) some := by
  unfold f_X3_addWalker
  refine z_aload_n hC dX3_addWalker_0 rfl ?_
  refine z_geti hC wf_X3_28 dX3_addWalker_1 ltC_1 layC_1 rfl ?_
  refine z_iconst hC dX3_addWalker_4 ki_4 ?_
  refine z_icmp_lt hC 11 dX3_addWalker_5 (by decide) (fun h1 => ?_) (fun h1 => ?_)
  · refine z_aload_n hC dX3_addWalker_11 rfl ?_
    refine z_dup hC dX3_addWalker_12 rfl ?_
    refine z_geti hC wf_X3_28 dX3_addWalker_13 ltC_1 layC_1 rfl ?_
    refine z_iconst hC dX3_addWalker_16 ki_1 ?_
    refine z_iadd hC dX3_addWalker_17 ?_
    refine z_puti hC wp_X3_28 dX3_addWalker_18 ltC_1 layC_1 rfl ?_
    refine z_let (fun σ2 _ => ?_)
    refine z_aload_n hC dX3_addWalker_21 rfl ?_
    refine z_geti hC wf_X3_28 dX3_addWalker_22 ltC_1 layC_1 rfl ?_
    refine z_iconst hC dX3_addWalker_25 ki_1 ?_
    refine z_isub hC dX3_addWalker_26 ?_
    exact z_iret hC dX3_addWalker_27
  · refine z_bipush hC dX3_addWalker_8 kb_m5 ?_
    exact z_iret hC dX3_addWalker_10
theorem c_X3_addWalker : zM layC nC yX3_addWalker cX3_addWalker 1 (some .int) (zRm 0 0) (fun ad => [.ref (ad 1)]) (f_X3_addWalker) := zM_of (own := RX3) (by decide) rfl (fun ad w hw => by simp only [List.mem_cons, List.not_mem_nil, or_false] at hw; (first | exact hw.elim | (rcases hw with rfl <;> rfl))) (fun ad => Nat.le_of_ble_eq_true rfl) (fun Γ ad hC σ => w_X3_addWalker hC σ)
set_option maxRecDepth 100000 in
set_option maxHeartbeats 4000000 in
theorem w_X3_beyondDoor {Γ : zG} {ad : Nat → Nat} (hC : zX Γ layC nC ad cX3_beyondDoor RX3 3 (zRm 0 0) (some .int)) (p1 : Int32) (p2 : Int32) (σ : zS) : zK Γ layC nC ad 3 (some .int) 0 [some (.ref (ad 1)), some (.int p1), some (.int p2)] [] σ (f_X3_beyondDoor p1 p2 σ) some := by
  unfold f_X3_beyondDoor
  refine z_aload_n hC dX3_beyondDoor_0 rfl ?_
  refine z_getr hC wf_X3_9 dX3_beyondDoor_1 ltC_1 layC_1 rfl ?_
  refine z_iload_n hC dX3_beyondDoor_4 rfl ?_
  refine z_iald hC dX3_beyondDoor_5 ltC_2 layC_2 (fun h1 => ?_)
  refine z_iload_n hC dX3_beyondDoor_6 rfl ?_
  refine z_icmp_ne hC 17 dX3_beyondDoor_7 (by decide) (fun h2 => ?_) (fun h2 => ?_)
  · refine z_aload_n hC dX3_beyondDoor_17 rfl ?_
    refine z_getr hC wf_X3_15 dX3_beyondDoor_18 ltC_1 layC_1 rfl ?_
    refine z_iload_n hC dX3_beyondDoor_21 rfl ?_
    refine z_iald hC dX3_beyondDoor_22 ltC_3 layC_3 (fun h3 => ?_)
    refine z_iload_n hC dX3_beyondDoor_23 rfl ?_
    refine z_icmp_ne hC 36 dX3_beyondDoor_24 (by decide) (fun h4 => ?_) (fun h4 => ?_)
    · refine z_iconst hC dX3_beyondDoor_36 ki_m1 ?_
      exact z_iret hC dX3_beyondDoor_37
    · refine z_aload_n hC dX3_beyondDoor_27 rfl ?_
      refine z_getr hC wf_X3_9 dX3_beyondDoor_28 ltC_1 layC_1 rfl ?_
      refine z_iload_n hC dX3_beyondDoor_31 rfl ?_
      refine z_iald hC dX3_beyondDoor_32 ltC_2 layC_2 (fun h5 => ?_)
      refine z_goto hC 37 dX3_beyondDoor_33 (by decide) ?_
      exact z_iret hC dX3_beyondDoor_37
  · refine z_aload_n hC dX3_beyondDoor_10 rfl ?_
    refine z_getr hC wf_X3_15 dX3_beyondDoor_11 ltC_1 layC_1 rfl ?_
    refine z_iload_n hC dX3_beyondDoor_14 rfl ?_
    refine z_iald hC dX3_beyondDoor_15 ltC_3 layC_3 (fun h6 => ?_)
    exact z_iret hC dX3_beyondDoor_16
theorem c_X3_beyondDoor (p1 : Int32) (p2 : Int32) : zM layC nC yX3_beyondDoor cX3_beyondDoor 3 (some .int) (zRm 0 0) (fun ad => [.ref (ad 1), .int p1, .int p2]) (f_X3_beyondDoor p1 p2) := zM_of (own := RX3) (by decide) rfl (fun ad w hw => by simp only [List.mem_cons, List.not_mem_nil, or_false] at hw; (first | exact hw.elim | (rcases hw with rfl | rfl | rfl <;> rfl))) (fun ad => Nat.le_of_ble_eq_true rfl) (fun Γ ad hC σ => w_X3_beyondDoor hC p1 p2 σ)
set_option maxRecDepth 100000 in
set_option maxHeartbeats 4000000 in
theorem w_X3_isNearer {Γ : zG} {ad : Nat → Nat} (hC : zX Γ layC nC ad cX3_isNearer RX3 3 (zRm 0 0) (some .boolean)) (p1 : Int32) (p2 : Int32) (σ : zS) : zK Γ layC nC ad 3 (some .boolean) 0 [some (.ref (ad 1)), some (.int p1), some (.int p2)] [] σ (f_X3_isNearer p1 p2 σ) some := by
  unfold f_X3_isNearer
  refine z_aload_n hC dX3_isNearer_0 rfl ?_
  refine z_getr hC wf_X3_18 dX3_isNearer_1 ltC_1 layC_1 rfl ?_
  refine z_iload_n hC dX3_isNearer_4 rfl ?_
  refine z_iald hC dX3_isNearer_5 ltC_4 layC_4 (fun h1 => ?_)
  refine z_iconst hC dX3_isNearer_6 ki_m1 ?_
  refine z_icmp_eq hC 29 dX3_isNearer_7 (by decide) (fun h2 => ?_) (fun h2 => ?_)
  · refine z_iconst hC dX3_isNearer_29 ki_0 ?_
    exact z_zret hC (by decide) dX3_isNearer_30
  · refine z_aload_n hC dX3_isNearer_10 rfl ?_
    refine z_getr hC wf_X3_18 dX3_isNearer_11 ltC_1 layC_1 rfl ?_
    refine z_iload_n hC dX3_isNearer_14 rfl ?_
    refine z_iald hC dX3_isNearer_15 ltC_4 layC_4 (fun h3 => ?_)
    refine z_aload_n hC dX3_isNearer_16 rfl ?_
    refine z_getr hC wf_X3_18 dX3_isNearer_17 ltC_1 layC_1 rfl ?_
    refine z_iload_n hC dX3_isNearer_20 rfl ?_
    refine z_iald hC dX3_isNearer_21 ltC_4 layC_4 (fun h4 => ?_)
    refine z_icmp_ge hC 29 dX3_isNearer_22 (by decide) (fun h5 => ?_) (fun h5 => ?_)
    · refine z_iconst hC dX3_isNearer_29 ki_0 ?_
      exact z_zret hC (by decide) dX3_isNearer_30
    · refine z_iconst hC dX3_isNearer_25 ki_1 ?_
      refine z_goto hC 30 dX3_isNearer_26 (by decide) ?_
      exact z_zret hC (by decide) dX3_isNearer_30
theorem c_X3_isNearer (p1 : Int32) (p2 : Int32) : zM layC nC yX3_isNearer cX3_isNearer 3 (some .boolean) (zRm 0 0) (fun ad => [.ref (ad 1), .int p1, .int p2]) (f_X3_isNearer p1 p2) := zM_of (own := RX3) (by decide) rfl (fun ad w hw => by simp only [List.mem_cons, List.not_mem_nil, or_false] at hw; (first | exact hw.elim | (rcases hw with rfl | rfl | rfl <;> rfl))) (fun ad => Nat.le_of_ble_eq_true rfl) (fun Γ ad hC σ => w_X3_isNearer hC p1 p2 σ)
set_option maxRecDepth 100000 in
set_option maxHeartbeats 4000000 in
theorem w_X3_spread {Γ : zG} {ad : Nat → Nat} (hC : zX Γ layC nC ad cX3_spread RX3 4 (zRm 0 0) none) (p1 : Int32) (p2 : Int32) (p3 : Int32) (σ : zS) : zK Γ layC nC ad 4 none 0 [some (.ref (ad 1)), some (.int p1), some (.int p2), some (.int p3)] [] σ (f_X3_spread p1 p2 p3 σ) some := by
  unfold f_X3_spread
  refine z_aload_n hC dX3_spread_0 rfl ?_
  refine z_getr hC wf_X3_18 dX3_spread_1 ltC_1 layC_1 rfl ?_
  refine z_iload_n hC dX3_spread_4 rfl ?_
  refine z_iald hC dX3_spread_5 ltC_4 layC_4 (fun h1 => ?_)
  refine z_iload_n hC dX3_spread_6 rfl ?_
  refine z_icmp_ne hC 29 dX3_spread_7 (by decide) (fun h2 => ?_) (fun h2 => ?_)
  · exact z_vret hC dX3_spread_29
  · refine z_aload_n hC dX3_spread_10 rfl ?_
    refine z_getr hC wf_X3_18 dX3_spread_11 ltC_1 layC_1 rfl ?_
    refine z_iload_n hC dX3_spread_14 rfl ?_
    refine z_iald hC dX3_spread_15 ltC_4 layC_4 (fun h3 => ?_)
    refine z_iconst hC dX3_spread_16 ki_m1 ?_
    refine z_icmp_ne hC 29 dX3_spread_17 (by decide) (fun h4 => ?_) (fun h4 => ?_)
    · exact z_vret hC dX3_spread_29
    · refine z_aload_n hC dX3_spread_20 rfl ?_
      refine z_getr hC wf_X3_18 dX3_spread_21 ltC_1 layC_1 rfl ?_
      refine z_iload_n hC dX3_spread_24 rfl ?_
      refine z_iload_n hC dX3_spread_25 rfl ?_
      refine z_iconst hC dX3_spread_26 ki_1 ?_
      refine z_iadd hC dX3_spread_27 ?_
      refine z_iast hC dX3_spread_28 ltC_4 layC_4 (fun h5 => ?_)
      refine z_let (fun σ6 _ => ?_)
      exact z_vret hC dX3_spread_29
theorem c_X3_spread (p1 : Int32) (p2 : Int32) (p3 : Int32) : zM layC nC yX3_spread cX3_spread 4 none (zRm 0 0) (fun ad => [.ref (ad 1), .int p1, .int p2, .int p3]) (f_X3_spread p1 p2 p3) := zM_of (own := RX3) (by decide) rfl (fun ad w hw => by simp only [List.mem_cons, List.not_mem_nil, or_false] at hw; (first | exact hw.elim | (rcases hw with rfl | rfl | rfl | rfl <;> rfl))) (fun ad => Nat.le_of_ble_eq_true rfl) (fun Γ ad hC σ => w_X3_spread hC p1 p2 p3 σ)
set_option maxRecDepth 100000 in
set_option maxHeartbeats 4000000 in
theorem t_X3_measureTo_L2 {Γ : zG} {ad : Nat → Nat} (hC : zX Γ layC nC ad cX3_measureTo RX3 5 (zRm 1 23) none) (c1 : Int32) (a0 : Int32 × zS) (K : Bool × (Int32 × zS) → Option (Int32 × zS)) (hc : ∀ (x0 : Int32) (s' : zS), zZ Γ layC nC ad 5 none 2 [some (.ref (ad 1)), some (.int c1), some (.ref (ad 28)), some (.int x0), none] [] s' (K (true, (x0, s')))) (hx : ∀ (x0 : Int32) (s' : zS), zZ Γ layC nC ad 5 none 23 [some (.ref (ad 1)), some (.int c1), some (.ref (ad 28)), some (.int x0), none] [] s' (K (false, (x0, s')))) : zK Γ layC nC ad 5 none 2 [some (.ref (ad 1)), some (.int c1), some (.ref (ad 28)), some (.int a0.1), none] [] (a0.2) (b_X3_measureTo_L2 c1 a0) K := by
  unfold b_X3_measureTo_L2
  refine z_iload_n hC dX3_measureTo_2 rfl ?_
  refine z_aload_n hC dX3_measureTo_3 rfl ?_
  refine z_geti hC wf_X3_21 dX3_measureTo_4 ltC_1 layC_1 rfl ?_
  refine z_icmp_ge hC 23 dX3_measureTo_7 (by decide) (fun h1 => ?_) (fun h1 => ?_)
  · exact z_leaf (hx a0.1 a0.2)
  · refine z_aload_n hC dX3_measureTo_10 rfl ?_
    refine z_getr hC wf_X3_18 dX3_measureTo_11 ltC_1 layC_1 rfl ?_
    refine z_iload_n hC dX3_measureTo_14 rfl ?_
    refine z_iconst hC dX3_measureTo_15 ki_m1 ?_
    refine z_iast hC dX3_measureTo_16 ltC_4 layC_4 (fun h2 => ?_)
    refine z_let (fun σ3 _ => ?_)
    refine z_iinc hC dX3_measureTo_17 (lv' := [some (.ref (ad 1)), some (.int c1), some (.ref (ad 28)), some (.int (a0.1 + 1)), none]) rfl (by decide) ki_1 rfl ?_
    refine z_goto hC 2 dX3_measureTo_20 (by decide) ?_
    exact z_leaf (hc (a0.1 + 1) σ3)
set_option maxRecDepth 100000 in
set_option maxHeartbeats 4000000 in
theorem t_X3_measureTo_L43 {Γ : zG} {ad : Nat → Nat} (hC : zX Γ layC nC ad cX3_measureTo RX3 5 (zRm 1 23) none) (c1 : Int32) (c3 : Int32) (a0 : Int32 × zS) (K : Bool × (Int32 × zS) → Option (Int32 × zS)) (hc : ∀ (x0 : Int32) (s' : zS), zZ Γ layC nC ad 5 none 43 [some (.ref (ad 1)), some (.int c1), some (.ref (ad 28)), some (.int c3), some (.int x0)] [] s' (K (true, (x0, s')))) (hx : ∀ (x0 : Int32) (s' : zS), zZ Γ layC nC ad 5 none 103 [some (.ref (ad 1)), some (.int c1), some (.ref (ad 28)), some (.int c3), some (.int x0)] [] s' (K (false, (x0, s')))) : zK Γ layC nC ad 5 none 43 [some (.ref (ad 1)), some (.int c1), some (.ref (ad 28)), some (.int c3), some (.int a0.1)] [] (a0.2) (b_X3_measureTo_L43 c1 c3 a0) K := by
  unfold b_X3_measureTo_L43
  refine z_iload hC dX3_measureTo_43 rfl ?_
  refine z_aload_n hC dX3_measureTo_45 rfl ?_
  refine z_geti hC wf_X3_25 dX3_measureTo_46 ltC_1 layC_1 rfl ?_
  refine z_icmp_ge hC 103 dX3_measureTo_49 (by decide) (fun h8 => ?_) (fun h8 => ?_)
  · exact z_leaf (hx a0.1 a0.2)
  · refine z_aload_n hC dX3_measureTo_52 rfl ?_
    refine z_iload hC dX3_measureTo_53 rfl ?_
    refine z_zald hC dX3_measureTo_55 ltC_28 layC_28 (fun h9 => ?_)
    refine z_if_ne hC 97 dX3_measureTo_56 (by decide) (fun h10 => ?_) (fun h10 => ?_)
    · refine z_iinc hC dX3_measureTo_97 (lv' := [some (.ref (ad 1)), some (.int c1), some (.ref (ad 28)), some (.int c3), some (.int (a0.1 + 1))]) rfl (by decide) ki_1 rfl ?_
      refine z_goto hC 43 dX3_measureTo_100 (by decide) ?_
      exact z_leaf (hc (a0.1 + 1) a0.2)
    · refine z_aload_n hC dX3_measureTo_59 rfl ?_
      refine z_aload_n hC dX3_measureTo_60 rfl ?_
      refine z_getr hC wf_X3_9 dX3_measureTo_61 ltC_1 layC_1 rfl ?_
      refine z_iload hC dX3_measureTo_64 rfl ?_
      refine z_iald hC dX3_measureTo_66 ltC_2 layC_2 (fun h11 => ?_)
      refine z_aload_n hC dX3_measureTo_67 rfl ?_
      refine z_getr hC wf_X3_15 dX3_measureTo_68 ltC_1 layC_1 rfl ?_
      refine z_iload hC dX3_measureTo_71 rfl ?_
      refine z_iald hC dX3_measureTo_73 ltC_3 layC_3 (fun h12 => ?_)
      refine z_iload_n hC dX3_measureTo_74 rfl ?_
      refine z_callVv hC [.int (a0.2 2 a0.1.toNatClampNeg), .int (a0.2 3 a0.1.toNatClampNeg), .int c3] (c_X3_spread (a0.2 2 a0.1.toNatClampNeg) (a0.2 3 a0.1.toNatClampNeg) c3) yy_X3_spread wl_X3_43 dX3_measureTo_75 ltC_1 layC_1 vcz_X3 rfl rfl rfl (Nat.le_of_ble_eq_true rfl) (by decide) (fun r13 σ14 _ => ?_)
      refine z_aload_n hC dX3_measureTo_78 rfl ?_
      refine z_aload_n hC dX3_measureTo_79 rfl ?_
      refine z_getr hC wf_X3_15 dX3_measureTo_80 ltC_1 layC_1 rfl ?_
      refine z_iload hC dX3_measureTo_83 rfl ?_
      refine z_iald hC dX3_measureTo_85 ltC_3 layC_3 (fun h15 => ?_)
      refine z_aload_n hC dX3_measureTo_86 rfl ?_
      refine z_getr hC wf_X3_9 dX3_measureTo_87 ltC_1 layC_1 rfl ?_
      refine z_iload hC dX3_measureTo_90 rfl ?_
      refine z_iald hC dX3_measureTo_92 ltC_2 layC_2 (fun h16 => ?_)
      refine z_iload_n hC dX3_measureTo_93 rfl ?_
      refine z_callVv hC [.int (σ14 3 a0.1.toNatClampNeg), .int (σ14 2 a0.1.toNatClampNeg), .int c3] (c_X3_spread (σ14 3 a0.1.toNatClampNeg) (σ14 2 a0.1.toNatClampNeg) c3) yy_X3_spread wl_X3_43 dX3_measureTo_94 ltC_1 layC_1 vcz_X3 rfl rfl rfl (Nat.le_of_ble_eq_true rfl) (by decide) (fun r17 σ18 _ => ?_)
      refine z_iinc hC dX3_measureTo_97 (lv' := [some (.ref (ad 1)), some (.int c1), some (.ref (ad 28)), some (.int c3), some (.int (a0.1 + 1))]) rfl (by decide) ki_1 rfl ?_
      refine z_goto hC 43 dX3_measureTo_100 (by decide) ?_
      exact z_leaf (hc (a0.1 + 1) σ18)
set_option maxRecDepth 100000 in
set_option maxHeartbeats 4000000 in
theorem t_X3_measureTo_L32 {Γ : zG} {ad : Nat → Nat} (hC : zX Γ layC nC ad cX3_measureTo RX3 5 (zRm 1 23) none) (c1 : Int32) (a0 : Int32 × zS) (K : Bool × (Int32 × zS) → Option (Int32 × zS)) (hc : ∀ (x0 : Int32) (s' : zS), zZ Γ layC nC ad 5 none 32 [some (.ref (ad 1)), some (.int c1), some (.ref (ad 28)), some (.int x0), none] [] s' (K (true, (x0, s')))) (hx : ∀ (x0 : Int32) (s' : zS), zZ Γ layC nC ad 5 none 109 [some (.ref (ad 1)), some (.int c1), some (.ref (ad 28)), some (.int x0), none] [] s' (K (false, (x0, s')))) : zK Γ layC nC ad 5 none 32 [some (.ref (ad 1)), some (.int c1), some (.ref (ad 28)), some (.int a0.1), none] [] (a0.2) (b_X3_measureTo_L32 c1 a0) K := by
  unfold b_X3_measureTo_L32
  refine z_iload_n hC dX3_measureTo_32 rfl ?_
  refine z_aload_n hC dX3_measureTo_33 rfl ?_
  refine z_geti hC wf_X3_21 dX3_measureTo_34 ltC_1 layC_1 rfl ?_
  refine z_icmp_ge hC 109 dX3_measureTo_37 (by decide) (fun h7 => ?_) (fun h7 => ?_)
  · exact z_leaf (hx a0.1 a0.2)
  · refine z_iconst hC dX3_measureTo_40 ki_0 ?_
    refine z_istore hC dX3_measureTo_41 (lv' := [some (.ref (ad 1)), some (.int c1), some (.ref (ad 28)), some (.int a0.1), some (.int 0)]) (by decide) rfl ?_
    refine z_lpb (lvf := fun z : Int32 × zS => [some (.ref (ad 1)), some (.int c1), some (.ref (ad 28)), some (.int a0.1), some (.int z.1)]) (sg := fun z => z.2) (x := 103) zfuel (0, a0.2) rfl rfl (fun z K hc hx => t_X3_measureTo_L43 hC c1 a0.1 z K (fun x0 s' => hc (x0, s')) (fun x0 s' => hx (x0, s'))) (fun a19 => ?_)
    refine z_iinc hC dX3_measureTo_103 (lv' := [some (.ref (ad 1)), some (.int c1), some (.ref (ad 28)), some (.int (a0.1 + 1)), some (.int a19.1)]) rfl (by decide) ki_1 rfl ?_
    refine z_goto hC 32 dX3_measureTo_106 (by decide) ?_
    refine z_forget [4] (lv' := [some (.ref (ad 1)), some (.int c1), some (.ref (ad 28)), some (.int (a0.1 + 1)), none]) rfl ?_
    exact z_leaf (hc (a0.1 + 1) a19.2)
set_option maxRecDepth 100000 in
set_option maxHeartbeats 4000000 in
theorem w_X3_measureTo {Γ : zG} {ad : Nat → Nat} (hC : zX Γ layC nC ad cX3_measureTo RX3 5 (zRm 1 23) none) (p1 : Int32) (σ : zS) : zK Γ layC nC ad 5 none 0 [some (.ref (ad 1)), some (.int p1), some (.ref (ad 28)), none, none] [] σ (f_X3_measureTo p1 σ) some := by
  unfold f_X3_measureTo
  refine z_iconst hC dX3_measureTo_0 ki_0 ?_
  refine z_istore_n hC dX3_measureTo_1 (lv' := [some (.ref (ad 1)), some (.int p1), some (.ref (ad 28)), some (.int 0), none]) (by decide) rfl ?_
  refine z_lpb (lvf := fun z : Int32 × zS => [some (.ref (ad 1)), some (.int p1), some (.ref (ad 28)), some (.int z.1), none]) (sg := fun z => z.2) (x := 23) zfuel (0, σ) rfl rfl (fun z K hc hx => t_X3_measureTo_L2 hC p1 z K (fun x0 s' => hc (x0, s')) (fun x0 s' => hx (x0, s'))) (fun a4 => ?_)
  refine z_aload_n hC dX3_measureTo_23 rfl ?_
  refine z_getr hC wf_X3_18 dX3_measureTo_24 ltC_1 layC_1 rfl ?_
  refine z_iload_n hC dX3_measureTo_27 rfl ?_
  refine z_iconst hC dX3_measureTo_28 ki_0 ?_
  refine z_iast hC dX3_measureTo_29 ltC_4 layC_4 (fun h5 => ?_)
  refine z_let (fun σ6 _ => ?_)
  refine z_iconst hC dX3_measureTo_30 ki_0 ?_
  refine z_istore_n hC dX3_measureTo_31 (lv' := [some (.ref (ad 1)), some (.int p1), some (.ref (ad 28)), some (.int 0), none]) (by decide) rfl ?_
  refine z_lpb (lvf := fun z : Int32 × zS => [some (.ref (ad 1)), some (.int p1), some (.ref (ad 28)), some (.int z.1), none]) (sg := fun z => z.2) (x := 109) zfuel (0, σ6) rfl rfl (fun z K hc hx => t_X3_measureTo_L32 hC p1 z K (fun x0 s' => hc (x0, s')) (fun x0 s' => hx (x0, s'))) (fun a20 => ?_)
  exact z_vret hC dX3_measureTo_109
theorem c_X3_measureTo (p1 : Int32) : zM layC nC yX3_measureTo cX3_measureTo 5 none (zRm 1 23) (fun ad => [.ref (ad 1), .int p1, .ref (ad 28)]) (f_X3_measureTo p1) := zM_of (own := RX3) (by decide) rfl (fun ad w hw => by simp only [List.mem_cons, List.not_mem_nil, or_false] at hw; (first | exact hw.elim | (rcases hw with rfl | rfl | rfl <;> rfl))) (fun ad => Nat.le_of_ble_eq_true rfl) (fun Γ ad hC σ => w_X3_measureTo hC p1 σ)
set_option maxRecDepth 100000 in
set_option maxHeartbeats 4000000 in
theorem t_X3_nextRoom_L12 {Γ : zG} {ad : Nat → Nat} (hC : zX Γ layC nC ad cX3_nextRoom RX3 7 (zRm 2 47) (some .int)) (c1 : Int32) (c2 : Int32) (a0 : Int32 × Int32 × zS) (K : Bool × (Int32 × Int32 × zS) → Option (Int32 × zS)) (hc : ∀ (x0 : Int32) (x1 : Int32) (s' : zS), zZ Γ layC nC ad 7 (some .int) 12 [some (.ref (ad 1)), some (.int c1), some (.int c2), some (.ref (ad 28)), some (.int x0), some (.int x1), none] [] s' (K (true, (x0, x1, s')))) (hx : ∀ (x0 : Int32) (x1 : Int32) (s' : zS), zZ Γ layC nC ad 7 (some .int) 76 [some (.ref (ad 1)), some (.int c1), some (.int c2), some (.ref (ad 28)), some (.int x0), some (.int x1), none] [] s' (K (false, (x0, x1, s')))) : zK Γ layC nC ad 7 (some .int) 12 [some (.ref (ad 1)), some (.int c1), some (.int c2), some (.ref (ad 28)), some (.int a0.1), some (.int a0.2.1), none] [] (a0.2.2) (b_X3_nextRoom_L12 c1 c2 a0) K := by
  unfold b_X3_nextRoom_L12
  refine z_iload hC dX3_nextRoom_12 rfl ?_
  refine z_aload_n hC dX3_nextRoom_14 rfl ?_
  refine z_geti hC wf_X3_25 dX3_nextRoom_15 ltC_1 layC_1 rfl ?_
  refine z_icmp_ge hC 76 dX3_nextRoom_18 (by decide) (fun h3 => ?_) (fun h3 => ?_)
  · exact z_leaf (hx a0.1 a0.2.1 a0.2.2)
  · refine z_aload_n hC dX3_nextRoom_21 rfl ?_
    refine z_iload hC dX3_nextRoom_22 rfl ?_
    refine z_iload_n hC dX3_nextRoom_24 rfl ?_
    refine z_callVi hC [.int a0.2.1, .int c1] (c_X3_beyondDoor a0.2.1 c1) yy_X3_beyondDoor wl_X3_35 dX3_nextRoom_25 ltC_1 layC_1 vcz_X3 rfl rfl rfl (Nat.le_of_ble_eq_true rfl) (by decide) (fun r4 σ5 _ => ?_)
    refine z_istore hC dX3_nextRoom_28 (lv' := [some (.ref (ad 1)), some (.int c1), some (.int c2), some (.ref (ad 28)), some (.int a0.1), some (.int a0.2.1), some (.int r4)]) (by decide) rfl ?_
    refine z_aload_n hC dX3_nextRoom_30 rfl ?_
    refine z_iload hC dX3_nextRoom_31 rfl ?_
    refine z_zald hC dX3_nextRoom_33 ltC_28 layC_28 (fun h6 => ?_)
    refine z_if_ne hC 70 dX3_nextRoom_34 (by decide) (fun h7 => ?_) (fun h7 => ?_)
    · refine z_iinc hC dX3_nextRoom_70 (lv' := [some (.ref (ad 1)), some (.int c1), some (.int c2), some (.ref (ad 28)), some (.int a0.1), some (.int (a0.2.1 + 1)), some (.int r4)]) rfl (by decide) ki_1 rfl ?_
      refine z_goto hC 12 dX3_nextRoom_73 (by decide) ?_
      refine z_forget [6] (lv' := [some (.ref (ad 1)), some (.int c1), some (.int c2), some (.ref (ad 28)), some (.int a0.1), some (.int (a0.2.1 + 1)), none]) rfl ?_
      exact z_leaf (hc a0.1 (a0.2.1 + 1) σ5)
    · refine z_iload hC dX3_nextRoom_37 rfl ?_
      refine z_iconst hC dX3_nextRoom_39 ki_m1 ?_
      refine z_icmp_eq hC 70 dX3_nextRoom_40 (by decide) (fun h8 => ?_) (fun h8 => ?_)
      · refine z_iinc hC dX3_nextRoom_70 (lv' := [some (.ref (ad 1)), some (.int c1), some (.int c2), some (.ref (ad 28)), some (.int a0.1), some (.int (a0.2.1 + 1)), some (.int r4)]) rfl (by decide) ki_1 rfl ?_
        refine z_goto hC 12 dX3_nextRoom_73 (by decide) ?_
        refine z_forget [6] (lv' := [some (.ref (ad 1)), some (.int c1), some (.int c2), some (.ref (ad 28)), some (.int a0.1), some (.int (a0.2.1 + 1)), none]) rfl ?_
        exact z_leaf (hc a0.1 (a0.2.1 + 1) σ5)
      · refine z_aload_n hC dX3_nextRoom_43 rfl ?_
        refine z_iload hC dX3_nextRoom_44 rfl ?_
        refine z_iload_n hC dX3_nextRoom_46 rfl ?_
        refine z_callVi hC [.int r4, .int c1] (c_X3_isNearer r4 c1) yy_X3_isNearer wl_X3_39 dX3_nextRoom_47 ltC_1 layC_1 vcz_X3 rfl rfl rfl (Nat.le_of_ble_eq_true rfl) (by decide) (fun r9 σ10 _ => ?_)
        refine z_if_eq hC 70 dX3_nextRoom_50 (by decide) (fun h11 => ?_) (fun h11 => ?_)
        · refine z_iinc hC dX3_nextRoom_70 (lv' := [some (.ref (ad 1)), some (.int c1), some (.int c2), some (.ref (ad 28)), some (.int a0.1), some (.int (a0.2.1 + 1)), some (.int r4)]) rfl (by decide) ki_1 rfl ?_
          refine z_goto hC 12 dX3_nextRoom_73 (by decide) ?_
          refine z_forget [6] (lv' := [some (.ref (ad 1)), some (.int c1), some (.int c2), some (.ref (ad 28)), some (.int a0.1), some (.int (a0.2.1 + 1)), none]) rfl ?_
          exact z_leaf (hc a0.1 (a0.2.1 + 1) σ10)
        · refine z_iload hC dX3_nextRoom_53 rfl ?_
          refine z_iconst hC dX3_nextRoom_55 ki_m1 ?_
          refine z_icmp_eq hC 66 dX3_nextRoom_56 (by decide) (fun h12 => ?_) (fun h12 => ?_)
          · refine z_iload hC dX3_nextRoom_66 rfl ?_
            refine z_istore hC dX3_nextRoom_68 (lv' := [some (.ref (ad 1)), some (.int c1), some (.int c2), some (.ref (ad 28)), some (.int r4), some (.int a0.2.1), some (.int r4)]) (by decide) rfl ?_
            refine z_iinc hC dX3_nextRoom_70 (lv' := [some (.ref (ad 1)), some (.int c1), some (.int c2), some (.ref (ad 28)), some (.int r4), some (.int (a0.2.1 + 1)), some (.int r4)]) rfl (by decide) ki_1 rfl ?_
            refine z_goto hC 12 dX3_nextRoom_73 (by decide) ?_
            refine z_forget [6] (lv' := [some (.ref (ad 1)), some (.int c1), some (.int c2), some (.ref (ad 28)), some (.int r4), some (.int (a0.2.1 + 1)), none]) rfl ?_
            exact z_leaf (hc r4 (a0.2.1 + 1) σ10)
          · refine z_iload hC dX3_nextRoom_59 rfl ?_
            refine z_iload hC dX3_nextRoom_61 rfl ?_
            refine z_icmp_ge hC 70 dX3_nextRoom_63 (by decide) (fun h13 => ?_) (fun h13 => ?_)
            · refine z_iinc hC dX3_nextRoom_70 (lv' := [some (.ref (ad 1)), some (.int c1), some (.int c2), some (.ref (ad 28)), some (.int a0.1), some (.int (a0.2.1 + 1)), some (.int r4)]) rfl (by decide) ki_1 rfl ?_
              refine z_goto hC 12 dX3_nextRoom_73 (by decide) ?_
              refine z_forget [6] (lv' := [some (.ref (ad 1)), some (.int c1), some (.int c2), some (.ref (ad 28)), some (.int a0.1), some (.int (a0.2.1 + 1)), none]) rfl ?_
              exact z_leaf (hc a0.1 (a0.2.1 + 1) σ10)
            · refine z_iload hC dX3_nextRoom_66 rfl ?_
              refine z_istore hC dX3_nextRoom_68 (lv' := [some (.ref (ad 1)), some (.int c1), some (.int c2), some (.ref (ad 28)), some (.int r4), some (.int a0.2.1), some (.int r4)]) (by decide) rfl ?_
              refine z_iinc hC dX3_nextRoom_70 (lv' := [some (.ref (ad 1)), some (.int c1), some (.int c2), some (.ref (ad 28)), some (.int r4), some (.int (a0.2.1 + 1)), some (.int r4)]) rfl (by decide) ki_1 rfl ?_
              refine z_goto hC 12 dX3_nextRoom_73 (by decide) ?_
              refine z_forget [6] (lv' := [some (.ref (ad 1)), some (.int c1), some (.int c2), some (.ref (ad 28)), some (.int r4), some (.int (a0.2.1 + 1)), none]) rfl ?_
              exact z_leaf (hc r4 (a0.2.1 + 1) σ10)
set_option maxRecDepth 100000 in
set_option maxHeartbeats 4000000 in
theorem w_X3_nextRoom {Γ : zG} {ad : Nat → Nat} (hC : zX Γ layC nC ad cX3_nextRoom RX3 7 (zRm 2 47) (some .int)) (p1 : Int32) (p2 : Int32) (σ : zS) : zK Γ layC nC ad 7 (some .int) 0 [some (.ref (ad 1)), some (.int p1), some (.int p2), some (.ref (ad 28)), none, none, none] [] σ (f_X3_nextRoom p1 p2 σ) some := by
  unfold f_X3_nextRoom
  refine z_aload_n hC dX3_nextRoom_0 rfl ?_
  refine z_iload_n hC dX3_nextRoom_1 rfl ?_
  refine z_aload_n hC dX3_nextRoom_2 rfl ?_
  refine z_callVv hC [.int p2, .ref (ad 28)] (c_X3_measureTo p2) yy_X3_measureTo wl_X3_31 dX3_nextRoom_3 ltC_1 layC_1 vcz_X3 rfl rfl rfl (Nat.le_of_ble_eq_true rfl) (by decide) (fun r1 σ2 _ => ?_)
  refine z_iconst hC dX3_nextRoom_6 ki_m1 ?_
  refine z_istore hC dX3_nextRoom_7 (lv' := [some (.ref (ad 1)), some (.int p1), some (.int p2), some (.ref (ad 28)), some (.int (-1)), none, none]) (by decide) rfl ?_
  refine z_iconst hC dX3_nextRoom_9 ki_0 ?_
  refine z_istore hC dX3_nextRoom_10 (lv' := [some (.ref (ad 1)), some (.int p1), some (.int p2), some (.ref (ad 28)), some (.int (-1)), some (.int 0), none]) (by decide) rfl ?_
  refine z_lpb (lvf := fun z : Int32 × Int32 × zS => [some (.ref (ad 1)), some (.int p1), some (.int p2), some (.ref (ad 28)), some (.int z.1), some (.int z.2.1), none]) (sg := fun z => z.2.2) (x := 76) zfuel ((-1), 0, σ2) rfl rfl (fun z K hc hx => t_X3_nextRoom_L12 hC p1 p2 z K (fun x0 x1 s' => hc (x0, x1, s')) (fun x0 x1 s' => hx (x0, x1, s'))) (fun a14 => ?_)
  refine z_iload hC dX3_nextRoom_76 rfl ?_
  exact z_iret hC dX3_nextRoom_78
theorem c_X3_nextRoom (p1 : Int32) (p2 : Int32) : zM layC nC yX3_nextRoom cX3_nextRoom 7 (some .int) (zRm 2 47) (fun ad => [.ref (ad 1), .int p1, .int p2, .ref (ad 28)]) (f_X3_nextRoom p1 p2) := zM_of (own := RX3) (by decide) rfl (fun ad w hw => by simp only [List.mem_cons, List.not_mem_nil, or_false] at hw; (first | exact hw.elim | (rcases hw with rfl | rfl | rfl | rfl <;> rfl))) (fun ad => Nat.le_of_ble_eq_true rfl) (fun Γ ad hC σ => w_X3_nextRoom hC p1 p2 σ)
set_option maxRecDepth 100000 in
set_option maxHeartbeats 4000000 in
theorem w_X4_addRow {Γ : zG} {ad : Nat → Nat} (hC : zX Γ layC nC ad cX4_addRow RX4 3 (zRm 0 0) none) (p1 : Int32) (p2 : Int32) (σ : zS) : zK Γ layC nC ad 3 none 0 [some (.ref (ad 24)), some (.int p1), some (.int p2)] [] σ (f_X4_addRow p1 p2 σ) some := by
  unfold f_X4_addRow
  refine z_aload_n hC dX4_addRow_0 rfl ?_
  refine z_geti hC wf_X4_63 dX4_addRow_1 ltC_24 layC_24 rfl ?_
  refine z_bipush hC dX4_addRow_4 kb_40 ?_
  refine z_icmp_ge hC 39 dX4_addRow_6 (by decide) (fun h1 => ?_) (fun h1 => ?_)
  · exact z_vret hC dX4_addRow_39
  · refine z_aload_n hC dX4_addRow_9 rfl ?_
    refine z_getr hC wf_X4_15 dX4_addRow_10 ltC_24 layC_24 rfl ?_
    refine z_aload_n hC dX4_addRow_13 rfl ?_
    refine z_geti hC wf_X4_63 dX4_addRow_14 ltC_24 layC_24 rfl ?_
    refine z_iload_n hC dX4_addRow_17 rfl ?_
    refine z_iast hC dX4_addRow_18 ltC_25 layC_25 (fun h2 => ?_)
    refine z_let (fun σ3 _ => ?_)
    refine z_aload_n hC dX4_addRow_19 rfl ?_
    refine z_getr hC wf_X4_19 dX4_addRow_20 ltC_24 layC_24 rfl ?_
    refine z_aload_n hC dX4_addRow_23 rfl ?_
    refine z_geti hC wf_X4_63 dX4_addRow_24 ltC_24 layC_24 rfl ?_
    refine z_iload_n hC dX4_addRow_27 rfl ?_
    refine z_iast hC dX4_addRow_28 ltC_26 layC_26 (fun h4 => ?_)
    refine z_let (fun σ5 _ => ?_)
    refine z_aload_n hC dX4_addRow_29 rfl ?_
    refine z_dup hC dX4_addRow_30 rfl ?_
    refine z_geti hC wf_X4_63 dX4_addRow_31 ltC_24 layC_24 rfl ?_
    refine z_iconst hC dX4_addRow_34 ki_1 ?_
    refine z_iadd hC dX4_addRow_35 ?_
    refine z_puti hC wp_X4_63 dX4_addRow_36 ltC_24 layC_24 rfl ?_
    refine z_let (fun σ6 _ => ?_)
    exact z_vret hC dX4_addRow_39
theorem c_X4_addRow (p1 : Int32) (p2 : Int32) : zM layC nC yX4_addRow cX4_addRow 3 none (zRm 0 0) (fun ad => [.ref (ad 24), .int p1, .int p2]) (f_X4_addRow p1 p2) := zM_of (own := RX4) (by decide) rfl (fun ad w hw => by simp only [List.mem_cons, List.not_mem_nil, or_false] at hw; (first | exact hw.elim | (rcases hw with rfl | rfl | rfl <;> rfl))) (fun ad => Nat.le_of_ble_eq_true rfl) (fun Γ ad hC σ => w_X4_addRow hC p1 p2 σ)
set_option maxRecDepth 100000 in
set_option maxHeartbeats 4000000 in
theorem t_X4_copyFlags_L2 {Γ : zG} {ad : Nat → Nat} (k1 : Nat) (k2 : Nat) (kl : Nat) (hC : zX Γ layC nC ad cX4_copyFlags RX4 3 (zRm 0 0) none) (hbq1 : k1 < nC) (hq1 : layC k1 = .inl (1, kl)) (hbq2 : k2 < nC) (hq2 : layC k2 = .inl (1, kl)) (a0 : Int32 × zS) (K : Bool × (Int32 × zS) → Option (Int32 × zS)) (hc : ∀ (x0 : Int32) (s' : zS), zZ Γ layC nC ad 3 none 2 [some (.ref (ad k1)), some (.ref (ad k2)), some (.int x0)] [] s' (K (true, (x0, s')))) (hx : ∀ (x0 : Int32) (s' : zS), zZ Γ layC nC ad 3 none 26 [some (.ref (ad k1)), some (.ref (ad k2)), some (.int x0)] [] s' (K (false, (x0, s')))) : zK Γ layC nC ad 3 none 2 [some (.ref (ad k1)), some (.ref (ad k2)), some (.int a0.1)] [] (a0.2) (b_X4_copyFlags_L2 k1 k2 kl a0) K := by
  unfold b_X4_copyFlags_L2
  refine z_iload_n hC dX4_copyFlags_2 rfl ?_
  refine z_aload_n hC dX4_copyFlags_3 rfl ?_
  refine z_alenZ hC dX4_copyFlags_4 hbq1 hq1 rfl ?_
  refine z_icmp_ge hC 26 dX4_copyFlags_5 (by decide) (fun h1 => ?_) (fun h1 => ?_)
  · exact z_leaf (hx a0.1 a0.2)
  · refine z_iload_n hC dX4_copyFlags_8 rfl ?_
    refine z_aload_n hC dX4_copyFlags_9 rfl ?_
    refine z_alenZ hC dX4_copyFlags_10 hbq2 hq2 rfl ?_
    refine z_icmp_ge hC 26 dX4_copyFlags_11 (by decide) (fun h2 => ?_) (fun h2 => ?_)
    · exact z_leaf (hx a0.1 a0.2)
    · refine z_aload_n hC dX4_copyFlags_14 rfl ?_
      refine z_iload_n hC dX4_copyFlags_15 rfl ?_
      refine z_aload_n hC dX4_copyFlags_16 rfl ?_
      refine z_iload_n hC dX4_copyFlags_17 rfl ?_
      refine z_zald hC dX4_copyFlags_18 hbq1 hq1 (fun h3 => ?_)
      refine z_zast hC dX4_copyFlags_19 hbq2 hq2 (fun h4 => ?_)
      refine z_let (fun σ5 _ => ?_)
      refine z_iinc hC dX4_copyFlags_20 (lv' := [some (.ref (ad k1)), some (.ref (ad k2)), some (.int (a0.1 + 1))]) rfl (by decide) ki_1 rfl ?_
      refine z_goto hC 2 dX4_copyFlags_23 (by decide) ?_
      exact z_leaf (hc (a0.1 + 1) σ5)
set_option maxRecDepth 100000 in
set_option maxHeartbeats 4000000 in
theorem w_X4_copyFlags {Γ : zG} {ad : Nat → Nat} (k1 : Nat) (k2 : Nat) (kl : Nat) (hC : zX Γ layC nC ad cX4_copyFlags RX4 3 (zRm 0 0) none) (hbq1 : k1 < nC) (hq1 : layC k1 = .inl (1, kl)) (hbq2 : k2 < nC) (hq2 : layC k2 = .inl (1, kl)) (σ : zS) : zK Γ layC nC ad 3 none 0 [some (.ref (ad k1)), some (.ref (ad k2)), none] [] σ (f_X4_copyFlags k1 k2 kl σ) some := by
  unfold f_X4_copyFlags
  refine z_iconst hC dX4_copyFlags_0 ki_0 ?_
  refine z_istore_n hC dX4_copyFlags_1 (lv' := [some (.ref (ad k1)), some (.ref (ad k2)), some (.int 0)]) (by decide) rfl ?_
  refine z_lpb (lvf := fun z : Int32 × zS => [some (.ref (ad k1)), some (.ref (ad k2)), some (.int z.1)]) (sg := fun z => z.2) (x := 26) zfuel (0, σ) rfl rfl (fun z K hc hx => t_X4_copyFlags_L2 k1 k2 kl hC hbq1 hq1 hbq2 hq2 z K (fun x0 s' => hc (x0, s')) (fun x0 s' => hx (x0, s'))) (fun a6 => ?_)
  exact z_vret hC dX4_copyFlags_26
theorem c_X4_copyFlags (k1 : Nat) (k2 : Nat) (kl : Nat) (hbq1 : k1 < nC) (hq1 : layC k1 = .inl (1, kl)) (hbq2 : k2 < nC) (hq2 : layC k2 = .inl (1, kl)) : zM layC nC yX4_copyFlags cX4_copyFlags 3 none (zRm 0 0) (fun ad => [.ref (ad k1), .ref (ad k2)]) (f_X4_copyFlags k1 k2 kl) := zM_of (own := RX4) (by decide) rfl (fun ad w hw => by simp only [List.mem_cons, List.not_mem_nil, or_false] at hw; (first | exact hw.elim | (rcases hw with rfl | rfl <;> rfl))) (fun ad => Nat.le_of_ble_eq_true rfl) (fun Γ ad hC σ => w_X4_copyFlags k1 k2 kl hC hbq1 hq1 hbq2 hq2 σ)
end
section
set_option maxRecDepth 100000 in
set_option maxHeartbeats 4000000 in
theorem w_X4_copyFrom {Γ : zG} {ad : Nat → Nat} (a : Nat) (b : Nat) (hC : zX Γ layC nC ad cX4_copyFrom RX4 2 (zRm 1 48) none) (ha : a < 9) (hb : b < 9) (σ : zS) : zK Γ layC nC ad 2 none 0 [some (.ref (ad (z_mo a))), some (.ref (ad (z_mo b)))] [] σ (f_X4_copyFrom a b σ) some := by
  unfold f_X4_copyFrom
  refine z_aload_n hC dX4_copyFrom_0 rfl ?_
  refine z_aload_n hC dX4_copyFrom_1 rfl ?_
  refine z_geti hC wf_X4_44 dX4_copyFrom_2 (ltC_m0 hb) (layC_m0 hb) rfl ?_
  refine z_puti hC wp_X4_44 dX4_copyFrom_5 (ltC_m0 ha) (layC_m0 ha) rfl ?_
  refine z_let (fun σ1 _ => ?_)
  refine z_aload_n hC dX4_copyFrom_8 rfl ?_
  refine z_aload_n hC dX4_copyFrom_9 rfl ?_
  refine z_geti hC wf_X4_47 dX4_copyFrom_10 (ltC_m0 hb) (layC_m0 hb) rfl ?_
  refine z_puti hC wp_X4_47 dX4_copyFrom_13 (ltC_m0 ha) (layC_m0 ha) rfl ?_
  refine z_let (fun σ2 _ => ?_)
  refine z_aload_n hC dX4_copyFrom_16 rfl ?_
  refine z_aload_n hC dX4_copyFrom_17 rfl ?_
  refine z_geti hC wf_X4_66 dX4_copyFrom_18 (ltC_m0 hb) (layC_m0 hb) rfl ?_
  refine z_puti hC wp_X4_66 dX4_copyFrom_21 (ltC_m0 ha) (layC_m0 ha) rfl ?_
  refine z_let (fun σ3 _ => ?_)
  refine z_aload_n hC dX4_copyFrom_24 rfl ?_
  refine z_aload_n hC dX4_copyFrom_25 rfl ?_
  refine z_geti hC wf_X4_9 dX4_copyFrom_26 (ltC_m0 hb) (layC_m0 hb) rfl ?_
  refine z_puti hC wp_X4_9 dX4_copyFrom_29 (ltC_m0 ha) (layC_m0 ha) rfl ?_
  refine z_let (fun σ4 _ => ?_)
  refine z_aload_n hC dX4_copyFrom_32 rfl ?_
  refine z_aload_n hC dX4_copyFrom_33 rfl ?_
  refine z_geti hC wf_X4_69 dX4_copyFrom_34 (ltC_m0 hb) (layC_m0 hb) rfl ?_
  refine z_puti hC wp_X4_69 dX4_copyFrom_37 (ltC_m0 ha) (layC_m0 ha) rfl ?_
  refine z_let (fun σ5 _ => ?_)
  refine z_aload_n hC dX4_copyFrom_40 rfl ?_
  refine z_aload_n hC dX4_copyFrom_41 rfl ?_
  refine z_geti hC wf_X4_63 dX4_copyFrom_42 (ltC_m0 hb) (layC_m0 hb) rfl ?_
  refine z_puti hC wp_X4_63 dX4_copyFrom_45 (ltC_m0 ha) (layC_m0 ha) rfl ?_
  refine z_let (fun σ6 _ => ?_)
  refine z_aload_n hC dX4_copyFrom_48 rfl ?_
  refine z_getr hC wf_X4_15 dX4_copyFrom_49 (ltC_m0 hb) (layC_m0 hb) rfl ?_
  refine z_iconst hC dX4_copyFrom_52 ki_0 ?_
  refine z_aload_n hC dX4_copyFrom_53 rfl ?_
  refine z_getr hC wf_X4_15 dX4_copyFrom_54 (ltC_m0 ha) (layC_m0 ha) rfl ?_
  refine z_iconst hC dX4_copyFrom_57 ki_0 ?_
  refine z_bipush hC dX4_copyFrom_58 kb_40 ?_
  refine z_copy (N := 40) hC wl_X4_72 wm_acn wm_acs wm_sys dX4_copyFrom_60 (ltC_m1 hb) (ltC_m1 ha) (layC_m1 hb) (layC_m1 ha) (by decide) (by exact ⟨Nat.le_of_ble_eq_true rfl, Nat.le_of_ble_eq_true rfl⟩) ?_
  refine z_let (fun σ7 _ => ?_)
  refine z_aload_n hC dX4_copyFrom_63 rfl ?_
  refine z_getr hC wf_X4_19 dX4_copyFrom_64 (ltC_m0 hb) (layC_m0 hb) rfl ?_
  refine z_iconst hC dX4_copyFrom_67 ki_0 ?_
  refine z_aload_n hC dX4_copyFrom_68 rfl ?_
  refine z_getr hC wf_X4_19 dX4_copyFrom_69 (ltC_m0 ha) (layC_m0 ha) rfl ?_
  refine z_iconst hC dX4_copyFrom_72 ki_0 ?_
  refine z_bipush hC dX4_copyFrom_73 kb_40 ?_
  refine z_copy (N := 40) hC wl_X4_72 wm_acn wm_acs wm_sys dX4_copyFrom_75 (ltC_m2 hb) (ltC_m2 ha) (layC_m2 hb) (layC_m2 ha) (by decide) (by exact ⟨Nat.le_of_ble_eq_true rfl, Nat.le_of_ble_eq_true rfl⟩) ?_
  refine z_let (fun σ8 _ => ?_)
  refine z_aload_n hC dX4_copyFrom_78 rfl ?_
  refine z_getr hC wf_X4_22 dX4_copyFrom_79 (ltC_m0 hb) (layC_m0 hb) rfl ?_
  refine z_iconst hC dX4_copyFrom_82 ki_0 ?_
  refine z_aload_n hC dX4_copyFrom_83 rfl ?_
  refine z_getr hC wf_X4_22 dX4_copyFrom_84 (ltC_m0 ha) (layC_m0 ha) rfl ?_
  refine z_iconst hC dX4_copyFrom_87 ki_0 ?_
  refine z_bipush hC dX4_copyFrom_88 kb_8 ?_
  refine z_copy (N := 8) hC wl_X4_72 wm_acn wm_acs wm_sys dX4_copyFrom_90 (ltC_m3 hb) (ltC_m3 ha) (layC_m3 hb) (layC_m3 ha) (by decide) (by exact ⟨Nat.le_of_ble_eq_true rfl, Nat.le_of_ble_eq_true rfl⟩) ?_
  refine z_let (fun σ9 _ => ?_)
  refine z_aload_n hC dX4_copyFrom_93 rfl ?_
  refine z_getr hC wf_X4_25 dX4_copyFrom_94 (ltC_m0 hb) (layC_m0 hb) rfl ?_
  refine z_aload_n hC dX4_copyFrom_97 rfl ?_
  refine z_getr hC wf_X4_25 dX4_copyFrom_98 (ltC_m0 ha) (layC_m0 ha) rfl ?_
  refine z_callSv hC [.ref (ad (z_mo b + 4)), .ref (ad (z_mo a + 4))] (c_X4_copyFlags (z_mo b + 4) (z_mo a + 4) 15 (ltC_m4 hb) (layC_m4 hb) (ltC_m4 ha) (layC_m4 ha)) yy_X4_copyFlags wl_X4_78 dX4_copyFrom_101 rfl rfl rfl (Nat.le_of_ble_eq_true rfl) (by decide) (fun r10 σ11 _ => ?_)
  refine z_aload_n hC dX4_copyFrom_104 rfl ?_
  refine z_getr hC wf_X4_29 dX4_copyFrom_105 (ltC_m0 hb) (layC_m0 hb) rfl ?_
  refine z_iconst hC dX4_copyFrom_108 ki_0 ?_
  refine z_aload_n hC dX4_copyFrom_109 rfl ?_
  refine z_getr hC wf_X4_29 dX4_copyFrom_110 (ltC_m0 ha) (layC_m0 ha) rfl ?_
  refine z_iconst hC dX4_copyFrom_113 ki_0 ?_
  refine z_iconst hC dX4_copyFrom_114 ki_4 ?_
  refine z_copy (N := 4) hC wl_X4_72 wm_acn wm_acs wm_sys dX4_copyFrom_115 (ltC_m5 hb) (ltC_m5 ha) (layC_m5 hb) (layC_m5 ha) (by decide) (by exact ⟨Nat.le_of_ble_eq_true rfl, Nat.le_of_ble_eq_true rfl⟩) ?_
  refine z_let (fun σ12 _ => ?_)
  refine z_aload_n hC dX4_copyFrom_118 rfl ?_
  refine z_getr hC wf_X4_32 dX4_copyFrom_119 (ltC_m0 hb) (layC_m0 hb) rfl ?_
  refine z_iconst hC dX4_copyFrom_122 ki_0 ?_
  refine z_aload_n hC dX4_copyFrom_123 rfl ?_
  refine z_getr hC wf_X4_32 dX4_copyFrom_124 (ltC_m0 ha) (layC_m0 ha) rfl ?_
  refine z_iconst hC dX4_copyFrom_127 ki_0 ?_
  refine z_iconst hC dX4_copyFrom_128 ki_4 ?_
  refine z_copy (N := 4) hC wl_X4_72 wm_acn wm_acs wm_sys dX4_copyFrom_129 (ltC_m6 hb) (ltC_m6 ha) (layC_m6 hb) (layC_m6 ha) (by decide) (by exact ⟨Nat.le_of_ble_eq_true rfl, Nat.le_of_ble_eq_true rfl⟩) ?_
  refine z_let (fun σ13 _ => ?_)
  refine z_aload_n hC dX4_copyFrom_132 rfl ?_
  refine z_getr hC wf_X4_35 dX4_copyFrom_133 (ltC_m0 hb) (layC_m0 hb) rfl ?_
  refine z_iconst hC dX4_copyFrom_136 ki_0 ?_
  refine z_aload_n hC dX4_copyFrom_137 rfl ?_
  refine z_getr hC wf_X4_35 dX4_copyFrom_138 (ltC_m0 ha) (layC_m0 ha) rfl ?_
  refine z_iconst hC dX4_copyFrom_141 ki_0 ?_
  refine z_bipush hC dX4_copyFrom_142 kb_12 ?_
  refine z_copy (N := 12) hC wl_X4_72 wm_acn wm_acs wm_sys dX4_copyFrom_144 (ltC_m7 hb) (ltC_m7 ha) (layC_m7 hb) (layC_m7 ha) (by decide) (by exact ⟨Nat.le_of_ble_eq_true rfl, Nat.le_of_ble_eq_true rfl⟩) ?_
  refine z_let (fun σ14 _ => ?_)
  refine z_aload_n hC dX4_copyFrom_147 rfl ?_
  refine z_getr hC wf_X4_38 dX4_copyFrom_148 (ltC_m0 hb) (layC_m0 hb) rfl ?_
  refine z_aload_n hC dX4_copyFrom_151 rfl ?_
  refine z_getr hC wf_X4_38 dX4_copyFrom_152 (ltC_m0 ha) (layC_m0 ha) rfl ?_
  refine z_callSv hC [.ref (ad (z_mo b + 8)), .ref (ad (z_mo a + 8))] (c_X4_copyFlags (z_mo b + 8) (z_mo a + 8) 12 (ltC_m8 hb) (layC_m8 hb) (ltC_m8 ha) (layC_m8 ha)) yy_X4_copyFlags wl_X4_78 dX4_copyFrom_155 rfl rfl rfl (Nat.le_of_ble_eq_true rfl) (by decide) (fun r15 σ16 _ => ?_)
  refine z_aload_n hC dX4_copyFrom_158 rfl ?_
  refine z_getr hC wf_X4_41 dX4_copyFrom_159 (ltC_m0 hb) (layC_m0 hb) rfl ?_
  refine z_aload_n hC dX4_copyFrom_162 rfl ?_
  refine z_getr hC wf_X4_41 dX4_copyFrom_163 (ltC_m0 ha) (layC_m0 ha) rfl ?_
  refine z_callSv hC [.ref (ad (z_mo b + 9)), .ref (ad (z_mo a + 9))] (c_X4_copyFlags (z_mo b + 9) (z_mo a + 9) 12 (ltC_m9 hb) (layC_m9 hb) (ltC_m9 ha) (layC_m9 ha)) yy_X4_copyFlags wl_X4_78 dX4_copyFrom_166 rfl rfl rfl (Nat.le_of_ble_eq_true rfl) (by decide) (fun r17 σ18 _ => ?_)
  exact z_vret hC dX4_copyFrom_169
theorem c_X4_copyFrom (a : Nat) (b : Nat) (ha : a < 9) (hb : b < 9) : zM layC nC yX4_copyFrom cX4_copyFrom 2 none (zRm 1 48) (fun ad => [.ref (ad (z_mo a)), .ref (ad (z_mo b))]) (f_X4_copyFrom a b) := zM_of (own := RX4) (by decide) rfl (fun ad w hw => by simp only [List.mem_cons, List.not_mem_nil, or_false] at hw; (first | exact hw.elim | (rcases hw with rfl | rfl <;> rfl))) (fun ad => Nat.le_of_ble_eq_true rfl) (fun Γ ad hC σ => w_X4_copyFrom a b hC ha hb σ)
set_option maxRecDepth 100000 in
set_option maxHeartbeats 4000000 in
theorem w_X4_goOn {Γ : zG} {ad : Nat → Nat} (hC : zX Γ layC nC ad cX4_goOn RX4 2 (zRm 0 0) none) (p1 : Int32) (σ : zS) : zK Γ layC nC ad 2 none 0 [some (.ref (ad 24)), some (.int p1)] [] σ (f_X4_goOn p1 σ) some := by
  unfold f_X4_goOn
  refine z_aload_n hC dX4_goOn_0 rfl ?_
  refine z_dup hC dX4_goOn_1 rfl ?_
  refine z_geti hC wf_X4_44 dX4_goOn_2 ltC_24 layC_24 rfl ?_
  refine z_iload_n hC dX4_goOn_5 rfl ?_
  refine z_iadd hC dX4_goOn_6 ?_
  refine z_puti hC wp_X4_44 dX4_goOn_7 ltC_24 layC_24 rfl ?_
  refine z_let (fun σ1 _ => ?_)
  refine z_aload_n hC dX4_goOn_10 rfl ?_
  refine z_geti hC wf_X4_44 dX4_goOn_11 ltC_24 layC_24 rfl ?_
  refine z_sipush hC dX4_goOn_14 ks_1440 ?_
  refine z_icmp_lt hC 42 dX4_goOn_17 (by decide) (fun h2 => ?_) (fun h2 => ?_)
  · exact z_vret hC dX4_goOn_42
  · refine z_aload_n hC dX4_goOn_20 rfl ?_
    refine z_dup hC dX4_goOn_21 rfl ?_
    refine z_geti hC wf_X4_44 dX4_goOn_22 ltC_24 layC_24 rfl ?_
    refine z_sipush hC dX4_goOn_25 ks_1440 ?_
    refine z_isub hC dX4_goOn_28 ?_
    refine z_puti hC wp_X4_44 dX4_goOn_29 ltC_24 layC_24 rfl ?_
    refine z_let (fun σ3 _ => ?_)
    refine z_aload_n hC dX4_goOn_32 rfl ?_
    refine z_dup hC dX4_goOn_33 rfl ?_
    refine z_geti hC wf_X4_47 dX4_goOn_34 ltC_24 layC_24 rfl ?_
    refine z_iconst hC dX4_goOn_37 ki_1 ?_
    refine z_iadd hC dX4_goOn_38 ?_
    refine z_puti hC wp_X4_47 dX4_goOn_39 ltC_24 layC_24 rfl ?_
    refine z_let (fun σ4 _ => ?_)
    exact z_vret hC dX4_goOn_42
theorem c_X4_goOn (p1 : Int32) : zM layC nC yX4_goOn cX4_goOn 2 none (zRm 0 0) (fun ad => [.ref (ad 24), .int p1]) (f_X4_goOn p1) := zM_of (own := RX4) (by decide) rfl (fun ad w hw => by simp only [List.mem_cons, List.not_mem_nil, or_false] at hw; (first | exact hw.elim | (rcases hw with rfl | rfl <;> rfl))) (fun ad => Nat.le_of_ble_eq_true rfl) (fun Γ ad hC σ => w_X4_goOn hC p1 σ)
set_option maxRecDepth 100000 in
set_option maxHeartbeats 4000000 in
theorem w_X7_isThere {Γ : zG} {ad : Nat → Nat} (hC : zX Γ layC nC ad cX7_isThere RX7 2 (zRm 0 0) (some .boolean)) (p0 : Int32) (p1 : Int32) (σ : zS) : zK Γ layC nC ad 2 (some .boolean) 0 [some (.int p0), some (.int p1)] [] σ (f_X7_isThere p0 p1 σ) some := by
  unfold f_X7_isThere
  refine z_iload_n hC dX7_isThere_0 rfl ?_
  refine z_if_lt hC 13 dX7_isThere_1 (by decide) (fun h1 => ?_) (fun h1 => ?_)
  · refine z_iconst hC dX7_isThere_13 ki_0 ?_
    exact z_zret hC (by decide) dX7_isThere_14
  · refine z_iload_n hC dX7_isThere_4 rfl ?_
    refine z_iload_n hC dX7_isThere_5 rfl ?_
    refine z_icmp_ge hC 13 dX7_isThere_6 (by decide) (fun h2 => ?_) (fun h2 => ?_)
    · refine z_iconst hC dX7_isThere_13 ki_0 ?_
      exact z_zret hC (by decide) dX7_isThere_14
    · refine z_iconst hC dX7_isThere_9 ki_1 ?_
      refine z_goto hC 14 dX7_isThere_10 (by decide) ?_
      exact z_zret hC (by decide) dX7_isThere_14
theorem c_X7_isThere (p0 : Int32) (p1 : Int32) : zM layC nC yX7_isThere cX7_isThere 2 (some .boolean) (zRm 0 0) (fun ad => [.int p0, .int p1]) (f_X7_isThere p0 p1) := zM_of (own := RX7) (by decide) rfl (fun ad w hw => by simp only [List.mem_cons, List.not_mem_nil, or_false] at hw; (first | exact hw.elim | (rcases hw with rfl | rfl <;> rfl))) (fun ad => Nat.le_of_ble_eq_true rfl) (fun Γ ad hC σ => w_X7_isThere hC p0 p1 σ)
set_option maxRecDepth 100000 in
set_option maxHeartbeats 4000000 in
theorem w_X7_isCounter {Γ : zG} {ad : Nat → Nat} (hC : zX Γ layC nC ad cX7_isCounter RX7 1 (zRm 1 21) (some .boolean)) (p0 : Int32) (σ : zS) : zK Γ layC nC ad 1 (some .boolean) 0 [some (.int p0)] [] σ (f_X7_isCounter p0 σ) some := by
  unfold f_X7_isCounter
  refine z_iload_n hC dX7_isCounter_0 rfl ?_
  refine z_bipush hC dX7_isCounter_1 kb_8 ?_
  refine z_callSi hC [.int p0, .int 8] (c_X7_isThere p0 8) yy_X7_isThere wl_X7_74 dX7_isCounter_3 rfl rfl rfl (Nat.le_of_ble_eq_true rfl) (by decide) (fun r1 σ2 _ => ?_)
  refine z_chk (fun h3 => ?_)
  exact z_zret hC h3 dX7_isCounter_6
theorem c_X7_isCounter (p0 : Int32) : zM layC nC yX7_isCounter cX7_isCounter 1 (some .boolean) (zRm 1 21) (fun ad => [.int p0]) (f_X7_isCounter p0) := zM_of (own := RX7) (by decide) rfl (fun ad w hw => by simp only [List.mem_cons, List.not_mem_nil, or_false] at hw; (first | exact hw.elim | (rcases hw with rfl <;> rfl))) (fun ad => Nat.le_of_ble_eq_true rfl) (fun Γ ad hC σ => w_X7_isCounter hC p0 σ)
set_option maxRecDepth 100000 in
set_option maxHeartbeats 4000000 in
theorem w_X4_growCounter {Γ : zG} {ad : Nat → Nat} (hC : zX Γ layC nC ad cX4_growCounter RX4 3 (zRm 2 41) none) (p1 : Int32) (p2 : Int32) (σ : zS) : zK Γ layC nC ad 3 none 0 [some (.ref (ad 24)), some (.int p1), some (.int p2)] [] σ (f_X4_growCounter p1 p2 σ) some := by
  unfold f_X4_growCounter
  refine z_iload_n hC dX4_growCounter_0 rfl ?_
  refine z_callSNi hC [.int p1] (c_X7_isCounter p1) yy_X7_isCounter (host := "TurnClock") (by decide) dX4_growCounter_1 rfl rfl rfl (Nat.le_of_ble_eq_true rfl) (by decide) (fun r1 σ2 _ => ?_)
  refine z_if_eq hC 33 dX4_growCounter_4 (by decide) (fun h3 => ?_) (fun h3 => ?_)
  · exact z_vret hC dX4_growCounter_33
  · refine z_aload_n hC dX4_growCounter_7 rfl ?_
    refine z_getr hC wf_X4_22 dX4_growCounter_8 ltC_24 layC_24 rfl ?_
    refine z_iload_n hC dX4_growCounter_11 rfl ?_
    refine z_sipush hC dX4_growCounter_12 ks_m1000 ?_
    refine z_sipush hC dX4_growCounter_15 ks_1000 ?_
    refine z_aload_n hC dX4_growCounter_18 rfl ?_
    refine z_getr hC wf_X4_22 dX4_growCounter_19 ltC_24 layC_24 rfl ?_
    refine z_iload_n hC dX4_growCounter_22 rfl ?_
    refine z_iald hC dX4_growCounter_23 ltC_27 layC_27 (fun h4 => ?_)
    refine z_iload_n hC dX4_growCounter_24 rfl ?_
    refine z_iadd hC dX4_growCounter_25 ?_
    refine z_mmin hC wl_X4_54 wm_mins wm_mth wm_minc dX4_growCounter_26 (by exact ⟨Nat.le_of_ble_eq_true rfl, Nat.le_of_ble_eq_true rfl⟩) ?_
    refine z_mmax hC wl_X4_60 wm_maxs wm_mth wm_maxc dX4_growCounter_29 (by exact ⟨Nat.le_of_ble_eq_true rfl, Nat.le_of_ble_eq_true rfl⟩) ?_
    refine z_iast hC dX4_growCounter_32 ltC_27 layC_27 (fun h5 => ?_)
    refine z_let (fun σ6 _ => ?_)
    exact z_vret hC dX4_growCounter_33
theorem c_X4_growCounter (p1 : Int32) (p2 : Int32) : zM layC nC yX4_growCounter cX4_growCounter 3 none (zRm 2 41) (fun ad => [.ref (ad 24), .int p1, .int p2]) (f_X4_growCounter p1 p2) := zM_of (own := RX4) (by decide) rfl (fun ad w hw => by simp only [List.mem_cons, List.not_mem_nil, or_false] at hw; (first | exact hw.elim | (rcases hw with rfl | rfl | rfl <;> rfl))) (fun ad => Nat.le_of_ble_eq_true rfl) (fun Γ ad hC σ => w_X4_growCounter hC p1 p2 σ)
set_option maxRecDepth 100000 in
set_option maxHeartbeats 4000000 in
theorem w_X6_addTimer {Γ : zG} {ad : Nat → Nat} (hC : zX Γ layC nC ad cX6_addTimer RX6 4 (zRm 0 0) (some .int)) (p1 : Int32) (p2 : Int32) (p3 : Int32) (σ : zS) : zK Γ layC nC ad 4 (some .int) 0 [some (.ref (ad 17)), some (.int p1), some (.int p2), some (.int p3)] [] σ (f_X6_addTimer p1 p2 p3 σ) some := by
  unfold f_X6_addTimer
  refine z_aload_n hC dX6_addTimer_0 rfl ?_
  refine z_geti hC wf_X6_22 dX6_addTimer_1 ltC_17 layC_17 rfl ?_
  refine z_bipush hC dX6_addTimer_4 kb_12 ?_
  refine z_icmp_lt hC 12 dX6_addTimer_6 (by decide) (fun h1 => ?_) (fun h1 => ?_)
  · refine z_aload_n hC dX6_addTimer_12 rfl ?_
    refine z_getr hC wf_X6_9 dX6_addTimer_13 ltC_17 layC_17 rfl ?_
    refine z_aload_n hC dX6_addTimer_16 rfl ?_
    refine z_geti hC wf_X6_22 dX6_addTimer_17 ltC_17 layC_17 rfl ?_
    refine z_iload_n hC dX6_addTimer_20 rfl ?_
    refine z_iast hC dX6_addTimer_21 ltC_18 layC_18 (fun h2 => ?_)
    refine z_let (fun σ3 _ => ?_)
    refine z_aload_n hC dX6_addTimer_22 rfl ?_
    refine z_getr hC wf_X6_15 dX6_addTimer_23 ltC_17 layC_17 rfl ?_
    refine z_aload_n hC dX6_addTimer_26 rfl ?_
    refine z_geti hC wf_X6_22 dX6_addTimer_27 ltC_17 layC_17 rfl ?_
    refine z_iload_n hC dX6_addTimer_30 rfl ?_
    refine z_iast hC dX6_addTimer_31 ltC_19 layC_19 (fun h4 => ?_)
    refine z_let (fun σ5 _ => ?_)
    refine z_aload_n hC dX6_addTimer_32 rfl ?_
    refine z_getr hC wf_X6_18 dX6_addTimer_33 ltC_17 layC_17 rfl ?_
    refine z_aload_n hC dX6_addTimer_36 rfl ?_
    refine z_geti hC wf_X6_22 dX6_addTimer_37 ltC_17 layC_17 rfl ?_
    refine z_iload_n hC dX6_addTimer_40 rfl ?_
    refine z_zast hC dX6_addTimer_41 ltC_20 layC_20 (fun h6 => ?_)
    refine z_let (fun σ7 _ => ?_)
    refine z_aload_n hC dX6_addTimer_42 rfl ?_
    refine z_dup hC dX6_addTimer_43 rfl ?_
    refine z_geti hC wf_X6_22 dX6_addTimer_44 ltC_17 layC_17 rfl ?_
    refine z_iconst hC dX6_addTimer_47 ki_1 ?_
    refine z_iadd hC dX6_addTimer_48 ?_
    refine z_puti hC wp_X6_22 dX6_addTimer_49 ltC_17 layC_17 rfl ?_
    refine z_let (fun σ8 _ => ?_)
    refine z_aload_n hC dX6_addTimer_52 rfl ?_
    refine z_geti hC wf_X6_22 dX6_addTimer_53 ltC_17 layC_17 rfl ?_
    refine z_iconst hC dX6_addTimer_56 ki_1 ?_
    refine z_isub hC dX6_addTimer_57 ?_
    exact z_iret hC dX6_addTimer_58
  · refine z_bipush hC dX6_addTimer_9 kb_m5 ?_
    exact z_iret hC dX6_addTimer_11
theorem c_X6_addTimer (p1 : Int32) (p2 : Int32) (p3 : Int32) : zM layC nC yX6_addTimer cX6_addTimer 4 (some .int) (zRm 0 0) (fun ad => [.ref (ad 17), .int p1, .int p2, .int p3]) (f_X6_addTimer p1 p2 p3) := zM_of (own := RX6) (by decide) rfl (fun ad w hw => by simp only [List.mem_cons, List.not_mem_nil, or_false] at hw; (first | exact hw.elim | (rcases hw with rfl | rfl | rfl | rfl <;> rfl))) (fun ad => Nat.le_of_ble_eq_true rfl) (fun Γ ad hC σ => w_X6_addTimer hC p1 p2 p3 σ)
set_option maxRecDepth 100000 in
set_option maxHeartbeats 4000000 in
theorem t_X5_dropOldest_L9 {Γ : zG} {ad : Nat → Nat} (hC : zX Γ layC nC ad cX5_dropOldest RX5 3 (zRm 0 0) none) (m1 : Nat) (hm1 : m1 < 9) (a0 : Int32 × zS) (K : Bool × (Int32 × zS) → Option (Int32 × zS)) (hc : ∀ (x0 : Int32) (s' : zS), zZ Γ layC nC ad 3 none 9 [some (.ref (ad 34)), some (.ref (ad (z_mo m1))), some (.int x0)] [] s' (K (true, (x0, s')))) (hx : ∀ (x0 : Int32) (s' : zS), zZ Γ layC nC ad 3 none 35 [some (.ref (ad 34)), some (.ref (ad (z_mo m1))), some (.int x0)] [] s' (K (false, (x0, s')))) : zK Γ layC nC ad 3 none 9 [some (.ref (ad 34)), some (.ref (ad (z_mo m1))), some (.int a0.1)] [] (a0.2) (b_X5_dropOldest_L9 m1 a0) K := by
  unfold b_X5_dropOldest_L9
  refine z_iload_n hC dX5_dropOldest_9 rfl ?_
  refine z_bipush hC dX5_dropOldest_10 kb_8 ?_
  refine z_icmp_ge hC 35 dX5_dropOldest_12 (by decide) (fun h3 => ?_) (fun h3 => ?_)
  · exact z_leaf (hx a0.1 a0.2)
  · refine z_aload_n hC dX5_dropOldest_15 rfl ?_
    refine z_getr hC wf_X5_11 dX5_dropOldest_16 ltC_34 layC_34 rfl ?_
    refine z_iload_n hC dX5_dropOldest_19 rfl ?_
    refine z_iconst hC dX5_dropOldest_20 ki_1 ?_
    refine z_isub hC dX5_dropOldest_21 ?_
    refine z_aload_n hC dX5_dropOldest_22 rfl ?_
    refine z_getr hC wf_X5_11 dX5_dropOldest_23 ltC_34 layC_34 rfl ?_
    refine z_iload_n hC dX5_dropOldest_26 rfl ?_
    refine z_aald hC dX5_dropOldest_27 ltC_35 layC_35 (fun h4 => ?_)
    refine z_chk (fun h5 => ?_)
    refine z_aast (x := (a0.2 35 a0.1.toNatClampNeg)) hC dX5_dropOldest_28 ltC_35 layC_35 (ltC_m0 h5) (layC_m0 h5) (fun h6 => ?_)
    refine z_let (fun σ7 _ => ?_)
    refine z_iinc hC dX5_dropOldest_29 (lv' := [some (.ref (ad 34)), some (.ref (ad (z_mo m1))), some (.int (a0.1 + 1))]) rfl (by decide) ki_1 rfl ?_
    refine z_goto hC 9 dX5_dropOldest_32 (by decide) ?_
    exact z_leaf (hc (a0.1 + 1) σ7)
set_option maxRecDepth 100000 in
set_option maxHeartbeats 4000000 in
theorem w_X5_dropOldest {Γ : zG} {ad : Nat → Nat} (hC : zX Γ layC nC ad cX5_dropOldest RX5 3 (zRm 0 0) none) (σ : zS) : zK Γ layC nC ad 3 none 0 [some (.ref (ad 34)), none, none] [] σ (f_X5_dropOldest σ) some := by
  unfold f_X5_dropOldest
  refine z_aload_n hC dX5_dropOldest_0 rfl ?_
  refine z_getr hC wf_X5_11 dX5_dropOldest_1 ltC_34 layC_34 rfl ?_
  refine z_iconst hC dX5_dropOldest_4 ki_0 ?_
  refine z_aald hC dX5_dropOldest_5 ltC_35 layC_35 (fun h1 => ?_)
  refine z_chk (fun h2 => ?_)
  refine z_astore_n hC dX5_dropOldest_6 (lv' := [some (.ref (ad 34)), some (.ref (ad (z_mo (σ 35 (0 : Int32).toNatClampNeg).toNatClampNeg))), none]) (by decide) rfl ?_
  refine z_iconst hC dX5_dropOldest_7 ki_1 ?_
  refine z_istore_n hC dX5_dropOldest_8 (lv' := [some (.ref (ad 34)), some (.ref (ad (z_mo (σ 35 (0 : Int32).toNatClampNeg).toNatClampNeg))), some (.int 1)]) (by decide) rfl ?_
  refine z_lpb (lvf := fun z : Int32 × zS => [some (.ref (ad 34)), some (.ref (ad (z_mo (σ 35 (0 : Int32).toNatClampNeg).toNatClampNeg))), some (.int z.1)]) (sg := fun z => z.2) (x := 35) zfuel (1, σ) rfl rfl (fun z K hc hx => t_X5_dropOldest_L9 hC ((σ 35 (0 : Int32).toNatClampNeg).toNatClampNeg) h2 z K (fun x0 s' => hc (x0, s')) (fun x0 s' => hx (x0, s'))) (fun a8 => ?_)
  refine z_aload_n hC dX5_dropOldest_35 rfl ?_
  refine z_getr hC wf_X5_11 dX5_dropOldest_36 ltC_34 layC_34 rfl ?_
  refine z_bipush hC dX5_dropOldest_39 kb_7 ?_
  refine z_aload_n hC dX5_dropOldest_41 rfl ?_
  refine z_aast (x := (σ 35 (0 : Int32).toNatClampNeg)) hC dX5_dropOldest_42 ltC_35 layC_35 (ltC_m0 h2) (layC_m0 h2) (fun h9 => ?_)
  refine z_let (fun σ10 _ => ?_)
  refine z_aload_n hC dX5_dropOldest_43 rfl ?_
  refine z_bipush hC dX5_dropOldest_44 kb_7 ?_
  refine z_puti hC wp_X5_18 dX5_dropOldest_46 ltC_34 layC_34 rfl ?_
  refine z_let (fun σ11 _ => ?_)
  exact z_vret hC dX5_dropOldest_49
theorem c_X5_dropOldest : zM layC nC yX5_dropOldest cX5_dropOldest 3 none (zRm 0 0) (fun ad => [.ref (ad 34)]) (f_X5_dropOldest) := zM_of (own := RX5) (by decide) rfl (fun ad w hw => by simp only [List.mem_cons, List.not_mem_nil, or_false] at hw; (first | exact hw.elim | (rcases hw with rfl <;> rfl))) (fun ad => Nat.le_of_ble_eq_true rfl) (fun Γ ad hC σ => w_X5_dropOldest hC σ)
set_option maxRecDepth 100000 in
set_option maxHeartbeats 4000000 in
theorem w_X5_giveBack {Γ : zG} {ad : Nat → Nat} (hC : zX Γ layC nC ad cX5_giveBack RX5 2 (zRm 2 69) none) (σ : zS) : zK Γ layC nC ad 2 none 0 [some (.ref (ad 34)), some (.ref (ad 24))] [] σ (f_X5_giveBack σ) some := by
  unfold f_X5_giveBack
  refine z_aload_n hC dX5_giveBack_0 rfl ?_
  refine z_geti hC wf_X5_18 dX5_giveBack_1 ltC_34 layC_34 rfl ?_
  refine z_if_le hC 30 dX5_giveBack_4 (by decide) (fun h1 => ?_) (fun h1 => ?_)
  · exact z_vret hC dX5_giveBack_30
  · refine z_aload_n hC dX5_giveBack_7 rfl ?_
    refine z_dup hC dX5_giveBack_8 rfl ?_
    refine z_geti hC wf_X5_18 dX5_giveBack_9 ltC_34 layC_34 rfl ?_
    refine z_iconst hC dX5_giveBack_12 ki_1 ?_
    refine z_isub hC dX5_giveBack_13 ?_
    refine z_puti hC wp_X5_18 dX5_giveBack_14 ltC_34 layC_34 rfl ?_
    refine z_let (fun σ2 _ => ?_)
    refine z_aload_n hC dX5_giveBack_17 rfl ?_
    refine z_aload_n hC dX5_giveBack_18 rfl ?_
    refine z_getr hC wf_X5_11 dX5_giveBack_19 ltC_34 layC_34 rfl ?_
    refine z_aload_n hC dX5_giveBack_22 rfl ?_
    refine z_geti hC wf_X5_18 dX5_giveBack_23 ltC_34 layC_34 rfl ?_
    refine z_aald hC dX5_giveBack_26 ltC_35 layC_35 (fun h3 => ?_)
    refine z_chk (fun h4 => ?_)
    refine z_callVv hC [.ref (ad (z_mo (σ2 35 (σ2 34 0).toNatClampNeg).toNatClampNeg))] (c_X4_copyFrom 0 ((σ2 35 (σ2 34 0).toNatClampNeg).toNatClampNeg) (by decide) h4) yy_X4_copyFrom wl_X5_25 dX5_giveBack_27 ltC_24 layC_24 vcz_X4 rfl rfl rfl (Nat.le_of_ble_eq_true rfl) (by decide) (fun r5 σ6 _ => ?_)
    exact z_vret hC dX5_giveBack_30
theorem c_X5_giveBack : zM layC nC yX5_giveBack cX5_giveBack 2 none (zRm 2 69) (fun ad => [.ref (ad 34), .ref (ad 24)]) (f_X5_giveBack) := zM_of (own := RX5) (by decide) rfl (fun ad w hw => by simp only [List.mem_cons, List.not_mem_nil, or_false] at hw; (first | exact hw.elim | (rcases hw with rfl | rfl <;> rfl))) (fun ad => Nat.le_of_ble_eq_true rfl) (fun Γ ad hC σ => w_X5_giveBack hC σ)
set_option maxRecDepth 100000 in
set_option maxHeartbeats 4000000 in
theorem w_X5_keep {Γ : zG} {ad : Nat → Nat} (hC : zX Γ layC nC ad cX5_keep RX5 2 (zRm 2 69) none) (σ : zS) : zK Γ layC nC ad 2 none 0 [some (.ref (ad 34)), some (.ref (ad 24))] [] σ (f_X5_keep σ) some := by
  unfold f_X5_keep
  refine z_aload_n hC dX5_keep_0 rfl ?_
  refine z_geti hC wf_X5_18 dX5_keep_1 ltC_34 layC_34 rfl ?_
  refine z_bipush hC dX5_keep_4 kb_8 ?_
  refine z_icmp_lt hC 13 dX5_keep_6 (by decide) (fun h1 => ?_) (fun h1 => ?_)
  · refine z_aload_n hC dX5_keep_13 rfl ?_
    refine z_getr hC wf_X5_11 dX5_keep_14 ltC_34 layC_34 rfl ?_
    refine z_aload_n hC dX5_keep_17 rfl ?_
    refine z_geti hC wf_X5_18 dX5_keep_18 ltC_34 layC_34 rfl ?_
    refine z_aald hC dX5_keep_21 ltC_35 layC_35 (fun h2 => ?_)
    refine z_chk (fun h3 => ?_)
    refine z_aload_n hC dX5_keep_22 rfl ?_
    refine z_callVv hC [.ref (ad 24)] (c_X4_copyFrom ((σ 35 (σ 34 0).toNatClampNeg).toNatClampNeg) 0 h3 (by decide)) yy_X4_copyFrom wl_X5_25 dX5_keep_23 (ltC_m0 h3) (layC_m0 h3) vcz_X4 rfl rfl rfl (Nat.le_of_ble_eq_true rfl) (by decide) (fun r4 σ5 _ => ?_)
    refine z_aload_n hC dX5_keep_26 rfl ?_
    refine z_dup hC dX5_keep_27 rfl ?_
    refine z_geti hC wf_X5_18 dX5_keep_28 ltC_34 layC_34 rfl ?_
    refine z_iconst hC dX5_keep_31 ki_1 ?_
    refine z_iadd hC dX5_keep_32 ?_
    refine z_puti hC wp_X5_18 dX5_keep_33 ltC_34 layC_34 rfl ?_
    refine z_let (fun σ6 _ => ?_)
    exact z_vret hC dX5_keep_36
  · refine z_aload_n hC dX5_keep_9 rfl ?_
    refine z_callVv hC [] c_X5_dropOldest yy_X5_dropOldest wl_X5_22 dX5_keep_10 ltC_34 layC_34 vcz_X5 rfl rfl rfl (Nat.le_of_ble_eq_true rfl) (by decide) (fun r7 σ8 _ => ?_)
    refine z_aload_n hC dX5_keep_13 rfl ?_
    refine z_getr hC wf_X5_11 dX5_keep_14 ltC_34 layC_34 rfl ?_
    refine z_aload_n hC dX5_keep_17 rfl ?_
    refine z_geti hC wf_X5_18 dX5_keep_18 ltC_34 layC_34 rfl ?_
    refine z_aald hC dX5_keep_21 ltC_35 layC_35 (fun h9 => ?_)
    refine z_chk (fun h10 => ?_)
    refine z_aload_n hC dX5_keep_22 rfl ?_
    refine z_callVv hC [.ref (ad 24)] (c_X4_copyFrom ((σ8 35 (σ8 34 0).toNatClampNeg).toNatClampNeg) 0 h10 (by decide)) yy_X4_copyFrom wl_X5_25 dX5_keep_23 (ltC_m0 h10) (layC_m0 h10) vcz_X4 rfl rfl rfl (Nat.le_of_ble_eq_true rfl) (by decide) (fun r11 σ12 _ => ?_)
    refine z_aload_n hC dX5_keep_26 rfl ?_
    refine z_dup hC dX5_keep_27 rfl ?_
    refine z_geti hC wf_X5_18 dX5_keep_28 ltC_34 layC_34 rfl ?_
    refine z_iconst hC dX5_keep_31 ki_1 ?_
    refine z_iadd hC dX5_keep_32 ?_
    refine z_puti hC wp_X5_18 dX5_keep_33 ltC_34 layC_34 rfl ?_
    refine z_let (fun σ13 _ => ?_)
    exact z_vret hC dX5_keep_36
theorem c_X5_keep : zM layC nC yX5_keep cX5_keep 2 none (zRm 2 69) (fun ad => [.ref (ad 34), .ref (ad 24)]) (f_X5_keep) := zM_of (own := RX5) (by decide) rfl (fun ad w hw => by simp only [List.mem_cons, List.not_mem_nil, or_false] at hw; (first | exact hw.elim | (rcases hw with rfl | rfl <;> rfl))) (fun ad => Nat.le_of_ble_eq_true rfl) (fun Γ ad hC σ => w_X5_keep hC σ)
set_option maxRecDepth 100000 in
set_option maxHeartbeats 4000000 in
theorem w_X7_startTimer {Γ : zG} {ad : Nat → Nat} (hC : zX Γ layC nC ad cX7_startTimer RX7 2 (zRm 1 21) none) (p1 : Int32) (σ : zS) : zK Γ layC nC ad 2 none 0 [some (.ref (ad 0)), some (.int p1)] [] σ (f_X7_startTimer p1 σ) some := by
  unfold f_X7_startTimer
  refine z_iload_n hC dX7_startTimer_0 rfl ?_
  refine z_aload_n hC dX7_startTimer_1 rfl ?_
  refine z_getr hC wf_X7_33 dX7_startTimer_2 ltC_0 layC_0 rfl ?_
  refine z_geti hC wf_X7_178 dX7_startTimer_5 ltC_17 layC_17 rfl ?_
  refine z_callSi hC [.int p1, .int (σ 17 0)] (c_X7_isThere p1 (σ 17 0)) yy_X7_isThere wl_X7_74 dX7_startTimer_8 rfl rfl rfl (Nat.le_of_ble_eq_true rfl) (by decide) (fun r1 σ2 _ => ?_)
  refine z_if_eq hC 39 dX7_startTimer_11 (by decide) (fun h3 => ?_) (fun h3 => ?_)
  · exact z_vret hC dX7_startTimer_39
  · refine z_aload_n hC dX7_startTimer_14 rfl ?_
    refine z_getr hC wf_X7_47 dX7_startTimer_15 ltC_0 layC_0 rfl ?_
    refine z_getr hC wf_X7_183 dX7_startTimer_18 ltC_24 layC_24 rfl ?_
    refine z_iload_n hC dX7_startTimer_21 rfl ?_
    refine z_aload_n hC dX7_startTimer_22 rfl ?_
    refine z_getr hC wf_X7_33 dX7_startTimer_23 ltC_0 layC_0 rfl ?_
    refine z_getr hC wf_X7_251 dX7_startTimer_26 ltC_17 layC_17 rfl ?_
    refine z_iload_n hC dX7_startTimer_29 rfl ?_
    refine z_iald hC dX7_startTimer_30 ltC_19 layC_19 (fun h4 => ?_)
    refine z_iast hC dX7_startTimer_31 ltC_31 layC_31 (fun h5 => ?_)
    refine z_let (fun σ6 _ => ?_)
    refine z_aload_n hC dX7_startTimer_32 rfl ?_
    refine z_getr hC wf_X7_58 dX7_startTimer_33 ltC_0 layC_0 rfl ?_
    refine z_iload_n hC dX7_startTimer_36 rfl ?_
    refine z_iconst hC dX7_startTimer_37 ki_1 ?_
    refine z_zast hC dX7_startTimer_38 ltC_116 layC_116 (fun h7 => ?_)
    refine z_let (fun σ8 _ => ?_)
    exact z_vret hC dX7_startTimer_39
theorem c_X7_startTimer (p1 : Int32) : zM layC nC yX7_startTimer cX7_startTimer 2 none (zRm 1 21) (fun ad => [.ref (ad 0), .int p1]) (f_X7_startTimer p1) := zM_of (own := RX7) (by decide) rfl (fun ad w hw => by simp only [List.mem_cons, List.not_mem_nil, or_false] at hw; (first | exact hw.elim | (rcases hw with rfl | rfl <;> rfl))) (fun ad => Nat.le_of_ble_eq_true rfl) (fun Γ ad hC σ => w_X7_startTimer hC p1 σ)
set_option maxRecDepth 100000 in
set_option maxHeartbeats 4000000 in
theorem w_X7_stopTimer {Γ : zG} {ad : Nat → Nat} (hC : zX Γ layC nC ad cX7_stopTimer RX7 2 (zRm 1 21) none) (p1 : Int32) (σ : zS) : zK Γ layC nC ad 2 none 0 [some (.ref (ad 0)), some (.int p1)] [] σ (f_X7_stopTimer p1 σ) some := by
  unfold f_X7_stopTimer
  refine z_iload_n hC dX7_stopTimer_0 rfl ?_
  refine z_aload_n hC dX7_stopTimer_1 rfl ?_
  refine z_getr hC wf_X7_33 dX7_stopTimer_2 ltC_0 layC_0 rfl ?_
  refine z_geti hC wf_X7_178 dX7_stopTimer_5 ltC_17 layC_17 rfl ?_
  refine z_callSi hC [.int p1, .int (σ 17 0)] (c_X7_isThere p1 (σ 17 0)) yy_X7_isThere wl_X7_74 dX7_stopTimer_8 rfl rfl rfl (Nat.le_of_ble_eq_true rfl) (by decide) (fun r1 σ2 _ => ?_)
  refine z_if_eq hC 24 dX7_stopTimer_11 (by decide) (fun h3 => ?_) (fun h3 => ?_)
  · exact z_vret hC dX7_stopTimer_24
  · refine z_aload_n hC dX7_stopTimer_14 rfl ?_
    refine z_getr hC wf_X7_47 dX7_stopTimer_15 ltC_0 layC_0 rfl ?_
    refine z_getr hC wf_X7_183 dX7_stopTimer_18 ltC_24 layC_24 rfl ?_
    refine z_iload_n hC dX7_stopTimer_21 rfl ?_
    refine z_iconst hC dX7_stopTimer_22 ki_0 ?_
    refine z_iast hC dX7_stopTimer_23 ltC_31 layC_31 (fun h4 => ?_)
    refine z_let (fun σ5 _ => ?_)
    exact z_vret hC dX7_stopTimer_24
theorem c_X7_stopTimer (p1 : Int32) : zM layC nC yX7_stopTimer cX7_stopTimer 2 none (zRm 1 21) (fun ad => [.ref (ad 0), .int p1]) (f_X7_stopTimer p1) := zM_of (own := RX7) (by decide) rfl (fun ad w hw => by simp only [List.mem_cons, List.not_mem_nil, or_false] at hw; (first | exact hw.elim | (rcases hw with rfl | rfl <;> rfl))) (fun ad => Nat.le_of_ble_eq_true rfl) (fun Γ ad hC σ => w_X7_stopTimer hC p1 σ)
set_option maxRecDepth 100000 in
set_option maxHeartbeats 4000000 in
theorem w_X7_switchDaemon {Γ : zG} {ad : Nat → Nat} (hC : zX Γ layC nC ad cX7_switchDaemon RX7 3 (zRm 1 21) none) (p1 : Int32) (p2 : Int32) (σ : zS) : zK Γ layC nC ad 3 none 0 [some (.ref (ad 0)), some (.int p1), some (.int p2)] [] σ (f_X7_switchDaemon p1 p2 σ) some := by
  unfold f_X7_switchDaemon
  refine z_iload_n hC dX7_switchDaemon_0 rfl ?_
  refine z_aload_n hC dX7_switchDaemon_1 rfl ?_
  refine z_getr hC wf_X7_40 dX7_switchDaemon_2 ltC_0 layC_0 rfl ?_
  refine z_geti hC wf_X7_179 dX7_switchDaemon_5 ltC_21 layC_21 rfl ?_
  refine z_callSi hC [.int p1, .int (σ 21 0)] (c_X7_isThere p1 (σ 21 0)) yy_X7_isThere wl_X7_74 dX7_switchDaemon_8 rfl rfl rfl (Nat.le_of_ble_eq_true rfl) (by decide) (fun r1 σ2 _ => ?_)
  refine z_if_eq hC 24 dX7_switchDaemon_11 (by decide) (fun h3 => ?_) (fun h3 => ?_)
  · exact z_vret hC dX7_switchDaemon_24
  · refine z_aload_n hC dX7_switchDaemon_14 rfl ?_
    refine z_getr hC wf_X7_47 dX7_switchDaemon_15 ltC_0 layC_0 rfl ?_
    refine z_getr hC wf_X7_186 dX7_switchDaemon_18 ltC_24 layC_24 rfl ?_
    refine z_iload_n hC dX7_switchDaemon_21 rfl ?_
    refine z_iload_n hC dX7_switchDaemon_22 rfl ?_
    refine z_zast hC dX7_switchDaemon_23 ltC_32 layC_32 (fun h4 => ?_)
    refine z_let (fun σ5 _ => ?_)
    exact z_vret hC dX7_switchDaemon_24
theorem c_X7_switchDaemon (p1 : Int32) (p2 : Int32) : zM layC nC yX7_switchDaemon cX7_switchDaemon 3 none (zRm 1 21) (fun ad => [.ref (ad 0), .int p1, .int p2]) (f_X7_switchDaemon p1 p2) := zM_of (own := RX7) (by decide) rfl (fun ad w hw => by simp only [List.mem_cons, List.not_mem_nil, or_false] at hw; (first | exact hw.elim | (rcases hw with rfl | rfl | rfl <;> rfl))) (fun ad => Nat.le_of_ble_eq_true rfl) (fun Γ ad hC σ => w_X7_switchDaemon hC p1 p2 σ)
set_option maxRecDepth 100000 in
set_option maxHeartbeats 4000000 in
theorem w_X7_turnDoor {Γ : zG} {ad : Nat → Nat} (hC : zX Γ layC nC ad cX7_turnDoor RX7 2 (zRm 1 21) none) (p1 : Int32) (σ : zS) : zK Γ layC nC ad 2 none 0 [some (.ref (ad 0)), some (.int p1)] [] σ (f_X7_turnDoor p1 σ) some := by
  unfold f_X7_turnDoor
  refine z_iload_n hC dX7_turnDoor_0 rfl ?_
  refine z_aload_n hC dX7_turnDoor_1 rfl ?_
  refine z_getr hC wf_X7_12 dX7_turnDoor_2 ltC_0 layC_0 rfl ?_
  refine z_geti hC wf_X7_174 dX7_turnDoor_5 ltC_1 layC_1 rfl ?_
  refine z_callSi hC [.int p1, .int (σ 1 1)] (c_X7_isThere p1 (σ 1 1)) yy_X7_isThere wl_X7_74 dX7_turnDoor_8 rfl rfl rfl (Nat.le_of_ble_eq_true rfl) (by decide) (fun r1 σ2 _ => ?_)
  refine z_if_eq hC 40 dX7_turnDoor_11 (by decide) (fun h3 => ?_) (fun h3 => ?_)
  · exact z_vret hC dX7_turnDoor_40
  · refine z_aload_n hC dX7_turnDoor_14 rfl ?_
    refine z_getr hC wf_X7_47 dX7_turnDoor_15 ltC_0 layC_0 rfl ?_
    refine z_getr hC wf_X7_193 dX7_turnDoor_18 ltC_24 layC_24 rfl ?_
    refine z_iload_n hC dX7_turnDoor_21 rfl ?_
    refine z_aload_n hC dX7_turnDoor_22 rfl ?_
    refine z_getr hC wf_X7_47 dX7_turnDoor_23 ltC_0 layC_0 rfl ?_
    refine z_getr hC wf_X7_193 dX7_turnDoor_26 ltC_24 layC_24 rfl ?_
    refine z_iload_n hC dX7_turnDoor_29 rfl ?_
    refine z_zald hC dX7_turnDoor_30 ltC_28 layC_28 (fun h4 => ?_)
    refine z_if_ne hC 38 dX7_turnDoor_31 (by decide) (fun h5 => ?_) (fun h5 => ?_)
    · refine z_iconst hC dX7_turnDoor_38 ki_0 ?_
      refine z_zast hC dX7_turnDoor_39 ltC_28 layC_28 (fun h6 => ?_)
      refine z_let (fun σ7 _ => ?_)
      exact z_vret hC dX7_turnDoor_40
    · refine z_iconst hC dX7_turnDoor_34 ki_1 ?_
      refine z_goto hC 39 dX7_turnDoor_35 (by decide) ?_
      refine z_zast hC dX7_turnDoor_39 ltC_28 layC_28 (fun h8 => ?_)
      refine z_let (fun σ9 _ => ?_)
      exact z_vret hC dX7_turnDoor_40
theorem c_X7_turnDoor (p1 : Int32) : zM layC nC yX7_turnDoor cX7_turnDoor 2 none (zRm 1 21) (fun ad => [.ref (ad 0), .int p1]) (f_X7_turnDoor p1) := zM_of (own := RX7) (by decide) rfl (fun ad w hw => by simp only [List.mem_cons, List.not_mem_nil, or_false] at hw; (first | exact hw.elim | (rcases hw with rfl | rfl <;> rfl))) (fun ad => Nat.le_of_ble_eq_true rfl) (fun Γ ad hC σ => w_X7_turnDoor hC p1 σ)
set_option maxRecDepth 100000 in
set_option maxHeartbeats 4000000 in
theorem w_X7_giveGoal {Γ : zG} {ad : Nat → Nat} (hC : zX Γ layC nC ad cX7_giveGoal RX7 3 (zRm 1 21) none) (p1 : Int32) (p2 : Int32) (σ : zS) : zK Γ layC nC ad 3 none 0 [some (.ref (ad 0)), some (.int p1), some (.int p2)] [] σ (f_X7_giveGoal p1 p2 σ) some := by
  unfold f_X7_giveGoal
  refine z_iload_n hC dX7_giveGoal_0 rfl ?_
  refine z_aload_n hC dX7_giveGoal_1 rfl ?_
  refine z_getr hC wf_X7_12 dX7_giveGoal_2 ltC_0 layC_0 rfl ?_
  refine z_geti hC wf_X7_85 dX7_giveGoal_5 ltC_1 layC_1 rfl ?_
  refine z_callSi hC [.int p1, .int (σ 1 2)] (c_X7_isThere p1 (σ 1 2)) yy_X7_isThere wl_X7_74 dX7_giveGoal_8 rfl rfl rfl (Nat.le_of_ble_eq_true rfl) (by decide) (fun r1 σ2 _ => ?_)
  refine z_if_eq hC 55 dX7_giveGoal_11 (by decide) (fun h3 => ?_) (fun h3 => ?_)
  · exact z_vret hC dX7_giveGoal_55
  · refine z_iload_n hC dX7_giveGoal_14 rfl ?_
    refine z_aload_n hC dX7_giveGoal_15 rfl ?_
    refine z_getr hC wf_X7_12 dX7_giveGoal_16 ltC_0 layC_0 rfl ?_
    refine z_geti hC wf_X7_70 dX7_giveGoal_19 ltC_1 layC_1 rfl ?_
    refine z_callSi hC [.int p2, .int (σ2 1 0)] (c_X7_isThere p2 (σ2 1 0)) yy_X7_isThere wl_X7_74 dX7_giveGoal_22 rfl rfl rfl (Nat.le_of_ble_eq_true rfl) (by decide) (fun r4 σ5 _ => ?_)
    refine z_if_eq hC 55 dX7_giveGoal_25 (by decide) (fun h6 => ?_) (fun h6 => ?_)
    · exact z_vret hC dX7_giveGoal_55
    · refine z_aload_n hC dX7_giveGoal_28 rfl ?_
      refine z_getr hC wf_X7_47 dX7_giveGoal_29 ltC_0 layC_0 rfl ?_
      refine z_getr hC wf_X7_92 dX7_giveGoal_32 ltC_24 layC_24 rfl ?_
      refine z_iload_n hC dX7_giveGoal_35 rfl ?_
      refine z_aload_n hC dX7_giveGoal_36 rfl ?_
      refine z_getr hC wf_X7_47 dX7_giveGoal_37 ltC_0 layC_0 rfl ?_
      refine z_getr hC wf_X7_88 dX7_giveGoal_40 ltC_24 layC_24 rfl ?_
      refine z_iload_n hC dX7_giveGoal_43 rfl ?_
      refine z_iald hC dX7_giveGoal_44 ltC_29 layC_29 (fun h7 => ?_)
      refine z_iload_n hC dX7_giveGoal_45 rfl ?_
      refine z_icmp_ne hC 53 dX7_giveGoal_46 (by decide) (fun h8 => ?_) (fun h8 => ?_)
      · refine z_iload_n hC dX7_giveGoal_53 rfl ?_
        refine z_iast hC dX7_giveGoal_54 ltC_30 layC_30 (fun h9 => ?_)
        refine z_let (fun σ10 _ => ?_)
        exact z_vret hC dX7_giveGoal_55
      · refine z_iconst hC dX7_giveGoal_49 ki_m1 ?_
        refine z_goto hC 54 dX7_giveGoal_50 (by decide) ?_
        refine z_iast hC dX7_giveGoal_54 ltC_30 layC_30 (fun h11 => ?_)
        refine z_let (fun σ12 _ => ?_)
        exact z_vret hC dX7_giveGoal_55
theorem c_X7_giveGoal (p1 : Int32) (p2 : Int32) : zM layC nC yX7_giveGoal cX7_giveGoal 3 none (zRm 1 21) (fun ad => [.ref (ad 0), .int p1, .int p2]) (f_X7_giveGoal p1 p2) := zM_of (own := RX7) (by decide) rfl (fun ad w hw => by simp only [List.mem_cons, List.not_mem_nil, or_false] at hw; (first | exact hw.elim | (rcases hw with rfl | rfl | rfl <;> rfl))) (fun ad => Nat.le_of_ble_eq_true rfl) (fun Γ ad hC σ => w_X7_giveGoal hC p1 p2 σ)
set_option maxRecDepth 100000 in
set_option maxHeartbeats 4000000 in
theorem w_X7_carryOut {Γ : zG} {ad : Nat → Nat} (hC : zX Γ layC nC ad cX7_carryOut RX7 4 (zRm 3 63) none) (p1 : Int32) (p2 : Int32) (p3 : Int32) (σ : zS) : zK Γ layC nC ad 4 none 0 [some (.ref (ad 0)), some (.int p1), some (.int p2), some (.int p3)] [] σ (f_X7_carryOut p1 p2 p3 σ) some := by
  unfold f_X7_carryOut
  refine z_iload_n hC dX7_carryOut_0 rfl ?_
  refine z_ite (fun h1 => ?_) (fun h1 => ?_)
  · refine z_tabIn hC 52 dX7_carryOut_1 0 h1 (by decide) (by decide) rfl (by decide) ?_
    refine z_aload_n hC dX7_carryOut_52 rfl ?_
    refine z_getr hC wf_X7_47 dX7_carryOut_53 ltC_0 layC_0 rfl ?_
    refine z_iload_n hC dX7_carryOut_56 rfl ?_
    refine z_iload_n hC dX7_carryOut_57 rfl ?_
    refine z_callVv hC [.int p2, .int p3] (c_X4_growCounter p2 p3) yy_X4_growCounter wl_X7_281 dX7_carryOut_58 ltC_24 layC_24 vcz_X4 rfl rfl rfl (Nat.le_of_ble_eq_true rfl) (by decide) (fun r2 σ3 _ => ?_)
    refine z_goto hC 148 dX7_carryOut_61 (by decide) ?_
    exact z_vret hC dX7_carryOut_148
  refine z_ite (fun h4 => ?_) (fun h4 => ?_)
  · refine z_tabIn hC 64 dX7_carryOut_1 1 h4 (by decide) (by decide) rfl (by decide) ?_
    refine z_aload_n hC dX7_carryOut_64 rfl ?_
    refine z_iload_n hC dX7_carryOut_65 rfl ?_
    refine z_callVv hC [.int p2] (c_X7_startTimer p2) yy_X7_startTimer wl_X7_284 dX7_carryOut_66 ltC_0 layC_0 vcz_X7 rfl rfl rfl (Nat.le_of_ble_eq_true rfl) (by decide) (fun r5 σ6 _ => ?_)
    refine z_goto hC 148 dX7_carryOut_69 (by decide) ?_
    exact z_vret hC dX7_carryOut_148
  refine z_ite (fun h7 => ?_) (fun h7 => ?_)
  · refine z_tabIn hC 72 dX7_carryOut_1 2 h7 (by decide) (by decide) rfl (by decide) ?_
    refine z_aload_n hC dX7_carryOut_72 rfl ?_
    refine z_iload_n hC dX7_carryOut_73 rfl ?_
    refine z_callVv hC [.int p2] (c_X7_stopTimer p2) yy_X7_stopTimer wl_X7_287 dX7_carryOut_74 ltC_0 layC_0 vcz_X7 rfl rfl rfl (Nat.le_of_ble_eq_true rfl) (by decide) (fun r8 σ9 _ => ?_)
    refine z_goto hC 148 dX7_carryOut_77 (by decide) ?_
    exact z_vret hC dX7_carryOut_148
  refine z_ite (fun h10 => ?_) (fun h10 => ?_)
  · refine z_tabIn hC 80 dX7_carryOut_1 3 h10 (by decide) (by decide) rfl (by decide) ?_
    refine z_aload_n hC dX7_carryOut_80 rfl ?_
    refine z_iload_n hC dX7_carryOut_81 rfl ?_
    refine z_iconst hC dX7_carryOut_82 ki_1 ?_
    refine z_callVv hC [.int p2, .int 1] (c_X7_switchDaemon p2 1) yy_X7_switchDaemon wl_X7_290 dX7_carryOut_83 ltC_0 layC_0 vcz_X7 rfl rfl rfl (Nat.le_of_ble_eq_true rfl) (by decide) (fun r11 σ12 _ => ?_)
    refine z_goto hC 148 dX7_carryOut_86 (by decide) ?_
    exact z_vret hC dX7_carryOut_148
  refine z_ite (fun h13 => ?_) (fun h13 => ?_)
  · refine z_tabIn hC 89 dX7_carryOut_1 4 h13 (by decide) (by decide) rfl (by decide) ?_
    refine z_aload_n hC dX7_carryOut_89 rfl ?_
    refine z_iload_n hC dX7_carryOut_90 rfl ?_
    refine z_iconst hC dX7_carryOut_91 ki_0 ?_
    refine z_callVv hC [.int p2, .int 0] (c_X7_switchDaemon p2 0) yy_X7_switchDaemon wl_X7_290 dX7_carryOut_92 ltC_0 layC_0 vcz_X7 rfl rfl rfl (Nat.le_of_ble_eq_true rfl) (by decide) (fun r14 σ15 _ => ?_)
    refine z_goto hC 148 dX7_carryOut_95 (by decide) ?_
    exact z_vret hC dX7_carryOut_148
  refine z_ite (fun h16 => ?_) (fun h16 => ?_)
  · refine z_tabIn hC 98 dX7_carryOut_1 5 h16 (by decide) (by decide) rfl (by decide) ?_
    refine z_aload_n hC dX7_carryOut_98 rfl ?_
    refine z_iload_n hC dX7_carryOut_99 rfl ?_
    refine z_callVv hC [.int p2] (c_X7_turnDoor p2) yy_X7_turnDoor wl_X7_294 dX7_carryOut_100 ltC_0 layC_0 vcz_X7 rfl rfl rfl (Nat.le_of_ble_eq_true rfl) (by decide) (fun r17 σ18 _ => ?_)
    refine z_goto hC 148 dX7_carryOut_103 (by decide) ?_
    exact z_vret hC dX7_carryOut_148
  refine z_ite (fun h19 => ?_) (fun h19 => ?_)
  · refine z_tabIn hC 106 dX7_carryOut_1 6 h19 (by decide) (by decide) rfl (by decide) ?_
    refine z_aload_n hC dX7_carryOut_106 rfl ?_
    refine z_iload_n hC dX7_carryOut_107 rfl ?_
    refine z_iload_n hC dX7_carryOut_108 rfl ?_
    refine z_callVv hC [.int p2, .int p3] (c_X7_giveGoal p2 p3) yy_X7_giveGoal wl_X7_297 dX7_carryOut_109 ltC_0 layC_0 vcz_X7 rfl rfl rfl (Nat.le_of_ble_eq_true rfl) (by decide) (fun r20 σ21 _ => ?_)
    refine z_goto hC 148 dX7_carryOut_112 (by decide) ?_
    exact z_vret hC dX7_carryOut_148
  refine z_ite (fun h22 => ?_) (fun h22 => ?_)
  · refine z_tabIn hC 115 dX7_carryOut_1 7 h22 (by decide) (by decide) rfl (by decide) ?_
    refine z_aload_n hC dX7_carryOut_115 rfl ?_
    refine z_iconst hC dX7_carryOut_116 ki_1 ?_
    refine z_putz hC wp_X7_145 (by decide) dX7_carryOut_117 ltC_0 layC_0 rfl ?_
    refine z_let (fun σ23 _ => ?_)
    refine z_goto hC 148 dX7_carryOut_120 (by decide) ?_
    exact z_vret hC dX7_carryOut_148
  refine z_ite (fun h24 => ?_) (fun h24 => ?_)
  · refine z_tabIn hC 123 dX7_carryOut_1 8 h24 (by decide) (by decide) rfl (by decide) ?_
    refine z_aload_n hC dX7_carryOut_123 rfl ?_
    refine z_getr hC wf_X7_47 dX7_carryOut_124 ltC_0 layC_0 rfl ?_
    refine z_aload_n hC dX7_carryOut_127 rfl ?_
    refine z_getr hC wf_X7_47 dX7_carryOut_128 ltC_0 layC_0 rfl ?_
    refine z_geti hC wf_X7_171 dX7_carryOut_131 ltC_24 layC_24 rfl ?_
    refine z_iload_n hC dX7_carryOut_134 rfl ?_
    refine z_iadd hC dX7_carryOut_135 ?_
    refine z_sipush hC dX7_carryOut_136 ks_600 ?_
    refine z_mmin hC wl_X7_300 wm_mins wm_mth wm_minc dX7_carryOut_139 (by exact ⟨Nat.le_of_ble_eq_true rfl, Nat.le_of_ble_eq_true rfl⟩) ?_
    refine z_puti hC wp_X7_171 dX7_carryOut_142 ltC_24 layC_24 rfl ?_
    refine z_let (fun σ25 _ => ?_)
    refine z_goto hC 148 dX7_carryOut_145 (by decide) ?_
    exact z_vret hC dX7_carryOut_148
  refine z_tabOut hC 148 dX7_carryOut_1 (by have := And.intro (lv_neT h1 (a := 0) (by decide)) (And.intro (lv_neT h4 (a := 1) (by decide)) (And.intro (lv_neT h7 (a := 2) (by decide)) (And.intro (lv_neT h10 (a := 3) (by decide)) (And.intro (lv_neT h13 (a := 4) (by decide)) (And.intro (lv_neT h16 (a := 5) (by decide)) (And.intro (lv_neT h19 (a := 6) (by decide)) (And.intro (lv_neT h22 (a := 7) (by decide)) (lv_neT h24 (a := 8) (by decide))))))))); omega) (by decide) ?_
  exact z_vret hC dX7_carryOut_148
theorem c_X7_carryOut (p1 : Int32) (p2 : Int32) (p3 : Int32) : zM layC nC yX7_carryOut cX7_carryOut 4 none (zRm 3 63) (fun ad => [.ref (ad 0), .int p1, .int p2, .int p3]) (f_X7_carryOut p1 p2 p3) := zM_of (own := RX7) (by decide) rfl (fun ad w hw => by simp only [List.mem_cons, List.not_mem_nil, or_false] at hw; (first | exact hw.elim | (rcases hw with rfl | rfl | rfl | rfl <;> rfl))) (fun ad => Nat.le_of_ble_eq_true rfl) (fun Γ ad hC σ => w_X7_carryOut hC p1 p2 p3 σ)
set_option maxRecDepth 100000 in
set_option maxHeartbeats 4000000 in
theorem q_X7_doDeed_J38 {Γ : zG} {ad : Nat → Nat} (hC : zX Γ layC nC ad cX7_doDeed RX7 3 (zRm 4 86) (some .boolean)) (v1 : Int32) (v2 : Int32) (σ : zS) : zK Γ layC nC ad 3 (some .boolean) 38 [some (.ref (ad 0)), some (.int v1), some (.int v2)] [] σ (j_X7_doDeed_J38 v1 v2 σ) some := by
  unfold j_X7_doDeed_J38
  refine z_aload_n hC dX7_doDeed_38 rfl ?_
  refine z_aload_n hC dX7_doDeed_39 rfl ?_
  refine z_getr hC wf_X7_19 dX7_doDeed_40 ltC_0 layC_0 rfl ?_
  refine z_getr hC wf_X7_269 dX7_doDeed_43 ltC_5 layC_5 rfl ?_
  refine z_iload_n hC dX7_doDeed_46 rfl ?_
  refine z_iald hC dX7_doDeed_47 ltC_6 layC_6 (fun h3 => ?_)
  refine z_aload_n hC dX7_doDeed_48 rfl ?_
  refine z_getr hC wf_X7_19 dX7_doDeed_49 ltC_0 layC_0 rfl ?_
  refine z_getr hC wf_X7_272 dX7_doDeed_52 ltC_5 layC_5 rfl ?_
  refine z_iload_n hC dX7_doDeed_55 rfl ?_
  refine z_iald hC dX7_doDeed_56 ltC_7 layC_7 (fun h4 => ?_)
  refine z_aload_n hC dX7_doDeed_57 rfl ?_
  refine z_getr hC wf_X7_19 dX7_doDeed_58 ltC_0 layC_0 rfl ?_
  refine z_getr hC wf_X7_275 dX7_doDeed_61 ltC_5 layC_5 rfl ?_
  refine z_iload_n hC dX7_doDeed_64 rfl ?_
  refine z_iald hC dX7_doDeed_65 ltC_8 layC_8 (fun h5 => ?_)
  refine z_callVv hC [.int (σ 6 v1.toNatClampNeg), .int (σ 7 v1.toNatClampNeg), .int (σ 8 v1.toNatClampNeg)] (c_X7_carryOut (σ 6 v1.toNatClampNeg) (σ 7 v1.toNatClampNeg) (σ 8 v1.toNatClampNeg)) yy_X7_carryOut wl_X7_278 dX7_doDeed_66 ltC_0 layC_0 vcz_X7 rfl rfl rfl (Nat.le_of_ble_eq_true rfl) (by decide) (fun r6 σ7 _ => ?_)
  refine z_iconst hC dX7_doDeed_69 ki_1 ?_
  exact z_zret hC (by decide) dX7_doDeed_70
set_option maxRecDepth 100000 in
set_option maxHeartbeats 4000000 in
theorem w_X7_doDeed {Γ : zG} {ad : Nat → Nat} (hC : zX Γ layC nC ad cX7_doDeed RX7 3 (zRm 4 86) (some .boolean)) (p1 : Int32) (σ : zS) : zK Γ layC nC ad 3 (some .boolean) 0 [some (.ref (ad 0)), some (.int p1), none] [] σ (f_X7_doDeed p1 σ) some := by
  unfold f_X7_doDeed
  refine z_aload_n hC dX7_doDeed_0 rfl ?_
  refine z_getr hC wf_X7_19 dX7_doDeed_1 ltC_0 layC_0 rfl ?_
  refine z_getr hC wf_X7_113 dX7_doDeed_4 ltC_5 layC_5 rfl ?_
  refine z_iload_n hC dX7_doDeed_7 rfl ?_
  refine z_iald hC dX7_doDeed_8 ltC_9 layC_9 (fun h1 => ?_)
  refine z_istore_n hC dX7_doDeed_9 (lv' := [some (.ref (ad 0)), some (.int p1), some (.int (σ 9 p1.toNatClampNeg))]) (by decide) rfl ?_
  refine z_iload_n hC dX7_doDeed_10 rfl ?_
  refine z_iconst hC dX7_doDeed_11 ki_m1 ?_
  refine z_icmp_eq hC 38 dX7_doDeed_12 (by decide) (fun h2 => ?_) (fun h2 => ?_)
  · exact q_X7_doDeed_J38 hC p1 (σ 9 p1.toNatClampNeg) σ
  · refine z_aload_n hC dX7_doDeed_15 rfl ?_
    refine z_getr hC wf_X7_47 dX7_doDeed_16 ltC_0 layC_0 rfl ?_
    refine z_getr hC wf_X7_180 dX7_doDeed_19 ltC_24 layC_24 rfl ?_
    refine z_iload_n hC dX7_doDeed_22 rfl ?_
    refine z_iald hC dX7_doDeed_23 ltC_27 layC_27 (fun h8 => ?_)
    refine z_aload_n hC dX7_doDeed_24 rfl ?_
    refine z_getr hC wf_X7_19 dX7_doDeed_25 ltC_0 layC_0 rfl ?_
    refine z_getr hC wf_X7_116 dX7_doDeed_28 ltC_5 layC_5 rfl ?_
    refine z_iload_n hC dX7_doDeed_31 rfl ?_
    refine z_iald hC dX7_doDeed_32 ltC_10 layC_10 (fun h9 => ?_)
    refine z_icmp_ge hC 38 dX7_doDeed_33 (by decide) (fun h10 => ?_) (fun h10 => ?_)
    · exact q_X7_doDeed_J38 hC p1 (σ 9 p1.toNatClampNeg) σ
    · refine z_iconst hC dX7_doDeed_36 ki_0 ?_
      exact z_zret hC (by decide) dX7_doDeed_37
theorem c_X7_doDeed (p1 : Int32) : zM layC nC yX7_doDeed cX7_doDeed 3 (some .boolean) (zRm 4 86) (fun ad => [.ref (ad 0), .int p1]) (f_X7_doDeed p1) := zM_of (own := RX7) (by decide) rfl (fun ad w hw => by simp only [List.mem_cons, List.not_mem_nil, or_false] at hw; (first | exact hw.elim | (rcases hw with rfl | rfl <;> rfl))) (fun ad => Nat.le_of_ble_eq_true rfl) (fun Γ ad hC σ => w_X7_doDeed hC p1 σ)
set_option maxRecDepth 100000 in
set_option maxHeartbeats 4000000 in
theorem w_X7_closePast {Γ : zG} {ad : Nat → Nat} (hC : zX Γ layC nC ad cX7_closePast RX7 2 (zRm 0 0) (some .int)) (p1 : Int32) (σ : zS) : zK Γ layC nC ad 2 (some .int) 0 [some (.ref (ad 0)), some (.int p1)] [] σ (f_X7_closePast p1 σ) some := by
  unfold f_X7_closePast
  refine z_iload_n hC dX7_closePast_0 rfl ?_
  refine z_if_lt hC 12 dX7_closePast_1 (by decide) (fun h1 => ?_) (fun h1 => ?_)
  · refine z_iload_n hC dX7_closePast_12 rfl ?_
    exact z_iret hC dX7_closePast_13
  · refine z_aload_n hC dX7_closePast_4 rfl ?_
    refine z_getr hC wf_X7_54 dX7_closePast_5 ltC_0 layC_0 rfl ?_
    refine z_iconst hC dX7_closePast_8 ki_0 ?_
    refine z_puti hC wp_X7_161 dX7_closePast_9 ltC_34 layC_34 rfl ?_
    refine z_let (fun σ2 _ => ?_)
    refine z_iload_n hC dX7_closePast_12 rfl ?_
    exact z_iret hC dX7_closePast_13
theorem c_X7_closePast (p1 : Int32) : zM layC nC yX7_closePast cX7_closePast 2 (some .int) (zRm 0 0) (fun ad => [.ref (ad 0), .int p1]) (f_X7_closePast p1) := zM_of (own := RX7) (by decide) rfl (fun ad w hw => by simp only [List.mem_cons, List.not_mem_nil, or_false] at hw; (first | exact hw.elim | (rcases hw with rfl | rfl <;> rfl))) (fun ad => Nat.le_of_ble_eq_true rfl) (fun Γ ad hC σ => w_X7_closePast hC p1 σ)
set_option maxRecDepth 100000 in
set_option maxHeartbeats 4000000 in
theorem w_X7_act {Γ : zG} {ad : Nat → Nat} (hC : zX Γ layC nC ad cX7_act RX7 2 (zRm 5 108) (some .int)) (p1 : Int32) (σ : zS) : zK Γ layC nC ad 2 (some .int) 0 [some (.ref (ad 0)), some (.int p1)] [] σ (f_X7_act p1 σ) some := by
  unfold f_X7_act
  refine z_iload_n hC dX7_act_0 rfl ?_
  refine z_aload_n hC dX7_act_1 rfl ?_
  refine z_getr hC wf_X7_19 dX7_act_2 ltC_0 layC_0 rfl ?_
  refine z_geti hC wf_X7_110 dX7_act_5 ltC_5 layC_5 rfl ?_
  refine z_callSi hC [.int p1, .int (σ 5 0)] (c_X7_isThere p1 (σ 5 0)) yy_X7_isThere wl_X7_74 dX7_act_8 rfl rfl rfl (Nat.le_of_ble_eq_true rfl) (by decide) (fun r1 σ2 _ => ?_)
  refine z_if_ne hC 17 dX7_act_11 (by decide) (fun h3 => ?_) (fun h3 => ?_)
  · refine z_aload_n hC dX7_act_17 rfl ?_
    refine z_aload_n hC dX7_act_18 rfl ?_
    refine z_iload_n hC dX7_act_19 rfl ?_
    refine z_callVi hC [.int p1] (c_X7_doDeed p1) yy_X7_doDeed wl_X7_129 dX7_act_20 ltC_0 layC_0 vcz_X7 rfl rfl rfl (Nat.le_of_ble_eq_true rfl) (by decide) (fun r4 σ5 _ => ?_)
    refine z_if_eq hC 30 dX7_act_23 (by decide) (fun h6 => ?_) (fun h6 => ?_)
    · refine z_iconst hC dX7_act_30 ki_0 ?_
      refine z_callVi hC [.int 0] (c_X7_closePast 0) yy_X7_closePast wl_X7_66 dX7_act_31 ltC_0 layC_0 vcz_X7 rfl rfl rfl (Nat.le_of_ble_eq_true rfl) (by decide) (fun r7 σ8 _ => ?_)
      exact z_iret hC dX7_act_34
    · refine z_iconst hC dX7_act_26 ki_1 ?_
      refine z_goto hC 31 dX7_act_27 (by decide) ?_
      refine z_callVi hC [.int 1] (c_X7_closePast 1) yy_X7_closePast wl_X7_66 dX7_act_31 ltC_0 layC_0 vcz_X7 rfl rfl rfl (Nat.le_of_ble_eq_true rfl) (by decide) (fun r9 σ10 _ => ?_)
      exact z_iret hC dX7_act_34
  · refine z_bipush hC dX7_act_14 kb_m2 ?_
    exact z_iret hC dX7_act_16
theorem c_X7_act (p1 : Int32) : zM layC nC yX7_act cX7_act 2 (some .int) (zRm 5 108) (fun ad => [.ref (ad 0), .int p1]) (f_X7_act p1) := zM_of (own := RX7) (by decide) rfl (fun ad w hw => by simp only [List.mem_cons, List.not_mem_nil, or_false] at hw; (first | exact hw.elim | (rcases hw with rfl | rfl <;> rfl))) (fun ad => Nat.le_of_ble_eq_true rfl) (fun Γ ad hC σ => w_X7_act hC p1 σ)
set_option maxRecDepth 100000 in
set_option maxHeartbeats 4000000 in
theorem w_X7_asNumber {Γ : zG} {ad : Nat → Nat} (hC : zX Γ layC nC ad cX7_asNumber RX7 1 (zRm 0 0) (some .int)) (p0 : Int32) (σ : zS) : zK Γ layC nC ad 1 (some .int) 0 [some (.int p0)] [] σ (f_X7_asNumber p0 σ) some := by
  unfold f_X7_asNumber
  refine z_iload_n hC dX7_asNumber_0 rfl ?_
  refine z_if_eq hC 8 dX7_asNumber_1 (by decide) (fun h1 => ?_) (fun h1 => ?_)
  · refine z_iconst hC dX7_asNumber_8 ki_0 ?_
    exact z_iret hC dX7_asNumber_9
  · refine z_iconst hC dX7_asNumber_4 ki_1 ?_
    refine z_goto hC 9 dX7_asNumber_5 (by decide) ?_
    exact z_iret hC dX7_asNumber_9
theorem c_X7_asNumber (p0 : Int32) : zM layC nC yX7_asNumber cX7_asNumber 1 (some .int) (zRm 0 0) (fun ad => [.int p0]) (f_X7_asNumber p0) := zM_of (own := RX7) (by decide) rfl (fun ad w hw => by simp only [List.mem_cons, List.not_mem_nil, or_false] at hw; (first | exact hw.elim | (rcases hw with rfl <;> rfl))) (fun ad => Nat.le_of_ble_eq_true rfl) (fun Γ ad hC σ => w_X7_asNumber hC p0 σ)
set_option maxRecDepth 100000 in
set_option maxHeartbeats 4000000 in
theorem w_X7_back {Γ : zG} {ad : Nat → Nat} (hC : zX Γ layC nC ad cX7_back RX7 1 (zRm 3 90) (some .int)) (σ : zS) : zK Γ layC nC ad 1 (some .int) 0 [some (.ref (ad 0))] [] σ (f_X7_back σ) some := by
  unfold f_X7_back
  refine z_aload_n hC dX7_back_0 rfl ?_
  refine z_getr hC wf_X7_54 dX7_back_1 ltC_0 layC_0 rfl ?_
  refine z_geti hC wf_X7_161 dX7_back_4 ltC_34 layC_34 rfl ?_
  refine z_if_ne hC 13 dX7_back_7 (by decide) (fun h1 => ?_) (fun h1 => ?_)
  · refine z_aload_n hC dX7_back_13 rfl ?_
    refine z_getr hC wf_X7_54 dX7_back_14 ltC_0 layC_0 rfl ?_
    refine z_aload_n hC dX7_back_17 rfl ?_
    refine z_getr hC wf_X7_47 dX7_back_18 ltC_0 layC_0 rfl ?_
    refine z_callVv hC [.ref (ad 24)] c_X5_giveBack yy_X5_giveBack wl_X7_162 dX7_back_21 ltC_34 layC_34 vcz_X5 rfl rfl rfl (Nat.le_of_ble_eq_true rfl) (by decide) (fun r2 σ3 _ => ?_)
    refine z_aload_n hC dX7_back_24 rfl ?_
    refine z_getr hC wf_X7_54 dX7_back_25 ltC_0 layC_0 rfl ?_
    refine z_geti hC wf_X7_161 dX7_back_28 ltC_34 layC_34 rfl ?_
    exact z_iret hC dX7_back_31
  · refine z_bipush hC dX7_back_10 kb_m4 ?_
    exact z_iret hC dX7_back_12
theorem c_X7_back : zM layC nC yX7_back cX7_back 1 (some .int) (zRm 3 90) (fun ad => [.ref (ad 0)]) (f_X7_back) := zM_of (own := RX7) (by decide) rfl (fun ad w hw => by simp only [List.mem_cons, List.not_mem_nil, or_false] at hw; (first | exact hw.elim | (rcases hw with rfl <;> rfl))) (fun ad => Nat.le_of_ble_eq_true rfl) (fun Γ ad hC σ => w_X7_back hC σ)
end
section
set_option maxRecDepth 100000 in
set_option maxHeartbeats 4000000 in
theorem q_X7_bringEvent_J25 {Γ : zG} {ad : Nat → Nat} (hC : zX Γ layC nC ad cX7_bringEvent RX7 2 (zRm 5 108) none) (v1 : Int32) (s0 : Int32) (s1 : Int32) (σ : zS) : zK Γ layC nC ad 2 none 25 [some (.ref (ad 0)), some (.int v1)] [.int s0, .int s1, .ref (ad 33)] σ (j_X7_bringEvent_J25 v1 s0 s1 σ) some := by
  unfold j_X7_bringEvent_J25
  refine z_zast hC dX7_bringEvent_25 ltC_33 layC_33 (fun h3 => ?_)
  refine z_let (fun σ4 _ => ?_)
  refine z_aload_n hC dX7_bringEvent_26 rfl ?_
  refine z_getr hC wf_X7_47 dX7_bringEvent_27 ltC_0 layC_0 rfl ?_
  refine z_iconst hC dX7_bringEvent_30 ki_0 ?_
  refine z_iload_n hC dX7_bringEvent_31 rfl ?_
  refine z_callVv hC [.int 0, .int v1] (c_X4_addRow 0 v1) yy_X4_addRow wl_X7_238 dX7_bringEvent_32 ltC_24 layC_24 vcz_X4 rfl rfl rfl (Nat.le_of_ble_eq_true rfl) (by decide) (fun r5 σ6 _ => ?_)
  refine z_aload_n hC dX7_bringEvent_35 rfl ?_
  refine z_aload_n hC dX7_bringEvent_36 rfl ?_
  refine z_getr hC wf_X7_26 dX7_bringEvent_37 ltC_0 layC_0 rfl ?_
  refine z_getr hC wf_X7_242 dX7_bringEvent_40 ltC_11 layC_11 rfl ?_
  refine z_iload_n hC dX7_bringEvent_43 rfl ?_
  refine z_iald hC dX7_bringEvent_44 ltC_12 layC_12 (fun h7 => ?_)
  refine z_callVi hC [.int (σ6 12 v1.toNatClampNeg)] (c_X7_doDeed (σ6 12 v1.toNatClampNeg)) yy_X7_doDeed wl_X7_129 dX7_bringEvent_45 ltC_0 layC_0 vcz_X7 rfl rfl rfl (Nat.le_of_ble_eq_true rfl) (by decide) (fun r8 σ9 _ => ?_)
  refine z_pop hC dX7_bringEvent_48 rfl ?_
  exact z_vret hC dX7_bringEvent_49
set_option maxRecDepth 100000 in
set_option maxHeartbeats 4000000 in
theorem w_X7_bringEvent {Γ : zG} {ad : Nat → Nat} (hC : zX Γ layC nC ad cX7_bringEvent RX7 2 (zRm 5 108) none) (p1 : Int32) (σ : zS) : zK Γ layC nC ad 2 none 0 [some (.ref (ad 0)), some (.int p1)] [] σ (f_X7_bringEvent p1 σ) some := by
  unfold f_X7_bringEvent
  refine z_aload_n hC dX7_bringEvent_0 rfl ?_
  refine z_getr hC wf_X7_47 dX7_bringEvent_1 ltC_0 layC_0 rfl ?_
  refine z_getr hC wf_X7_196 dX7_bringEvent_4 ltC_24 layC_24 rfl ?_
  refine z_iload_n hC dX7_bringEvent_7 rfl ?_
  refine z_aload_n hC dX7_bringEvent_8 rfl ?_
  refine z_getr hC wf_X7_26 dX7_bringEvent_9 ltC_0 layC_0 rfl ?_
  refine z_getr hC wf_X7_235 dX7_bringEvent_12 ltC_11 layC_11 rfl ?_
  refine z_iload_n hC dX7_bringEvent_15 rfl ?_
  refine z_zald hC dX7_bringEvent_16 ltC_14 layC_14 (fun h1 => ?_)
  refine z_if_ne hC 24 dX7_bringEvent_17 (by decide) (fun h2 => ?_) (fun h2 => ?_)
  · refine z_iconst hC dX7_bringEvent_24 ki_0 ?_
    exact q_X7_bringEvent_J25 hC p1 0 p1 σ
  · refine z_iconst hC dX7_bringEvent_20 ki_1 ?_
    refine z_goto hC 25 dX7_bringEvent_21 (by decide) ?_
    exact q_X7_bringEvent_J25 hC p1 1 p1 σ
theorem c_X7_bringEvent (p1 : Int32) : zM layC nC yX7_bringEvent cX7_bringEvent 2 none (zRm 5 108) (fun ad => [.ref (ad 0), .int p1]) (f_X7_bringEvent p1) := zM_of (own := RX7) (by decide) rfl (fun ad w hw => by simp only [List.mem_cons, List.not_mem_nil, or_false] at hw; (first | exact hw.elim | (rcases hw with rfl | rfl <;> rfl))) (fun ad => Nat.le_of_ble_eq_true rfl) (fun Γ ad hC σ => w_X7_bringEvent hC p1 σ)
set_option maxRecDepth 100000 in
set_option maxHeartbeats 4000000 in
theorem w_X7_minutesUntil {Γ : zG} {ad : Nat → Nat} (hC : zX Γ layC nC ad cX7_minutesUntil RX7 3 (zRm 0 0) (some .int)) (p1 : Int32) (σ : zS) : zK Γ layC nC ad 3 (some .int) 0 [some (.ref (ad 0)), some (.int p1), none] [] σ (f_X7_minutesUntil p1 σ) some := by
  unfold f_X7_minutesUntil
  refine z_iload_n hC dX7_minutesUntil_0 rfl ?_
  refine z_aload_n hC dX7_minutesUntil_1 rfl ?_
  refine z_getr hC wf_X7_47 dX7_minutesUntil_2 ltC_0 layC_0 rfl ?_
  refine z_geti hC wf_X7_165 dX7_minutesUntil_5 ltC_24 layC_24 rfl ?_
  refine z_isub hC dX7_minutesUntil_8 ?_
  refine z_istore_n hC dX7_minutesUntil_9 (lv' := [some (.ref (ad 0)), some (.int p1), some (.int (p1 - (σ 24 0)))]) (by decide) rfl ?_
  refine z_iload_n hC dX7_minutesUntil_10 rfl ?_
  refine z_if_le hC 18 dX7_minutesUntil_11 (by decide) (fun h1 => ?_) (fun h1 => ?_)
  · refine z_iload_n hC dX7_minutesUntil_18 rfl ?_
    refine z_sipush hC dX7_minutesUntil_19 ks_1440 ?_
    refine z_iadd hC dX7_minutesUntil_22 ?_
    exact z_iret hC dX7_minutesUntil_23
  · refine z_iload_n hC dX7_minutesUntil_14 rfl ?_
    refine z_goto hC 23 dX7_minutesUntil_15 (by decide) ?_
    exact z_iret hC dX7_minutesUntil_23
theorem c_X7_minutesUntil (p1 : Int32) : zM layC nC yX7_minutesUntil cX7_minutesUntil 3 (some .int) (zRm 0 0) (fun ad => [.ref (ad 0), .int p1]) (f_X7_minutesUntil p1) := zM_of (own := RX7) (by decide) rfl (fun ad w hw => by simp only [List.mem_cons, List.not_mem_nil, or_false] at hw; (first | exact hw.elim | (rcases hw with rfl | rfl <;> rfl))) (fun ad => Nat.le_of_ble_eq_true rfl) (fun Γ ad hC σ => w_X7_minutesUntil hC p1 σ)
set_option maxRecDepth 100000 in
set_option maxHeartbeats 4000000 in
theorem t_X7_lineUpEvents_L4 {Γ : zG} {ad : Nat → Nat} (hC : zX Γ layC nC ad cX7_lineUpEvents RX7 5 (zRm 1 24) (some .int)) (c1 : Int32) (a0 : Int32 × Int32 × zS) (K : Bool × (Int32 × Int32 × zS) → Option (Int32 × zS)) (hc : ∀ (x0 : Int32) (x1 : Int32) (s' : zS), zZ Γ layC nC ad 5 (some .int) 4 [some (.ref (ad 0)), some (.int c1), some (.int x0), some (.int x1), none] [] s' (K (true, (x0, x1, s')))) (hx : ∀ (x0 : Int32) (x1 : Int32) (s' : zS), zZ Γ layC nC ad 5 (some .int) 68 [some (.ref (ad 0)), some (.int c1), some (.int x0), some (.int x1), none] [] s' (K (false, (x0, x1, s')))) : zK Γ layC nC ad 5 (some .int) 4 [some (.ref (ad 0)), some (.int c1), some (.int a0.1), some (.int a0.2.1), none] [] (a0.2.2) (b_X7_lineUpEvents_L4 c1 a0) K := by
  unfold b_X7_lineUpEvents_L4
  refine z_iload_n hC dX7_lineUpEvents_4 rfl ?_
  refine z_aload_n hC dX7_lineUpEvents_5 rfl ?_
  refine z_getr hC wf_X7_26 dX7_lineUpEvents_6 ltC_0 layC_0 rfl ?_
  refine z_geti hC wf_X7_177 dX7_lineUpEvents_9 ltC_11 layC_11 rfl ?_
  refine z_icmp_ge hC 68 dX7_lineUpEvents_12 (by decide) (fun h1 => ?_) (fun h1 => ?_)
  · exact z_leaf (hx a0.1 a0.2.1 a0.2.2)
  · refine z_aload_n hC dX7_lineUpEvents_15 rfl ?_
    refine z_aload_n hC dX7_lineUpEvents_16 rfl ?_
    refine z_getr hC wf_X7_26 dX7_lineUpEvents_17 ltC_0 layC_0 rfl ?_
    refine z_getr hC wf_X7_212 dX7_lineUpEvents_20 ltC_11 layC_11 rfl ?_
    refine z_iload_n hC dX7_lineUpEvents_23 rfl ?_
    refine z_iald hC dX7_lineUpEvents_24 ltC_13 layC_13 (fun h2 => ?_)
    refine z_callVi hC [.int (a0.2.2 13 a0.2.1.toNatClampNeg)] (c_X7_minutesUntil (a0.2.2 13 a0.2.1.toNatClampNeg)) yy_X7_minutesUntil wl_X7_215 dX7_lineUpEvents_25 ltC_0 layC_0 vcz_X7 rfl rfl rfl (Nat.le_of_ble_eq_true rfl) (by decide) (fun r3 σ4 _ => ?_)
    refine z_istore hC dX7_lineUpEvents_28 (lv' := [some (.ref (ad 0)), some (.int c1), some (.int a0.1), some (.int a0.2.1), some (.int r3)]) (by decide) rfl ?_
    refine z_aload_n hC dX7_lineUpEvents_30 rfl ?_
    refine z_getr hC wf_X7_47 dX7_lineUpEvents_31 ltC_0 layC_0 rfl ?_
    refine z_getr hC wf_X7_196 dX7_lineUpEvents_34 ltC_24 layC_24 rfl ?_
    refine z_iload_n hC dX7_lineUpEvents_37 rfl ?_
    refine z_zald hC dX7_lineUpEvents_38 ltC_33 layC_33 (fun h5 => ?_)
    refine z_if_ne hC 62 dX7_lineUpEvents_39 (by decide) (fun h6 => ?_) (fun h6 => ?_)
    · refine z_iinc hC dX7_lineUpEvents_62 (lv' := [some (.ref (ad 0)), some (.int c1), some (.int a0.1), some (.int (a0.2.1 + 1)), some (.int r3)]) rfl (by decide) ki_1 rfl ?_
      refine z_goto hC 4 dX7_lineUpEvents_65 (by decide) ?_
      refine z_forget [4] (lv' := [some (.ref (ad 0)), some (.int c1), some (.int a0.1), some (.int (a0.2.1 + 1)), none]) rfl ?_
      exact z_leaf (hc a0.1 (a0.2.1 + 1) σ4)
    · refine z_iload hC dX7_lineUpEvents_42 rfl ?_
      refine z_iload_n hC dX7_lineUpEvents_44 rfl ?_
      refine z_icmp_gt hC 62 dX7_lineUpEvents_45 (by decide) (fun h7 => ?_) (fun h7 => ?_)
      · refine z_iinc hC dX7_lineUpEvents_62 (lv' := [some (.ref (ad 0)), some (.int c1), some (.int a0.1), some (.int (a0.2.1 + 1)), some (.int r3)]) rfl (by decide) ki_1 rfl ?_
        refine z_goto hC 4 dX7_lineUpEvents_65 (by decide) ?_
        refine z_forget [4] (lv' := [some (.ref (ad 0)), some (.int c1), some (.int a0.1), some (.int (a0.2.1 + 1)), none]) rfl ?_
        exact z_leaf (hc a0.1 (a0.2.1 + 1) σ4)
      · refine z_aload_n hC dX7_lineUpEvents_48 rfl ?_
        refine z_getr hC wf_X7_26 dX7_lineUpEvents_49 ltC_0 layC_0 rfl ?_
        refine z_iload_n hC dX7_lineUpEvents_52 rfl ?_
        refine z_iload hC dX7_lineUpEvents_53 rfl ?_
        refine z_iload_n hC dX7_lineUpEvents_55 rfl ?_
        refine z_callVv hC [.int a0.2.1, .int r3, .int a0.1] (c_X2_putInOrder a0.2.1 r3 a0.1) yy_X2_putInOrder wl_X7_231 dX7_lineUpEvents_56 ltC_11 layC_11 vcz_X2 rfl rfl rfl (Nat.le_of_ble_eq_true rfl) (by decide) (fun r8 σ9 _ => ?_)
        refine z_iinc hC dX7_lineUpEvents_59 (lv' := [some (.ref (ad 0)), some (.int c1), some (.int (a0.1 + 1)), some (.int a0.2.1), some (.int r3)]) rfl (by decide) ki_1 rfl ?_
        refine z_iinc hC dX7_lineUpEvents_62 (lv' := [some (.ref (ad 0)), some (.int c1), some (.int (a0.1 + 1)), some (.int (a0.2.1 + 1)), some (.int r3)]) rfl (by decide) ki_1 rfl ?_
        refine z_goto hC 4 dX7_lineUpEvents_65 (by decide) ?_
        refine z_forget [4] (lv' := [some (.ref (ad 0)), some (.int c1), some (.int (a0.1 + 1)), some (.int (a0.2.1 + 1)), none]) rfl ?_
        exact z_leaf (hc (a0.1 + 1) (a0.2.1 + 1) σ9)
set_option maxRecDepth 100000 in
set_option maxHeartbeats 4000000 in
theorem w_X7_lineUpEvents {Γ : zG} {ad : Nat → Nat} (hC : zX Γ layC nC ad cX7_lineUpEvents RX7 5 (zRm 1 24) (some .int)) (p1 : Int32) (σ : zS) : zK Γ layC nC ad 5 (some .int) 0 [some (.ref (ad 0)), some (.int p1), none, none, none] [] σ (f_X7_lineUpEvents p1 σ) some := by
  unfold f_X7_lineUpEvents
  refine z_iconst hC dX7_lineUpEvents_0 ki_0 ?_
  refine z_istore_n hC dX7_lineUpEvents_1 (lv' := [some (.ref (ad 0)), some (.int p1), some (.int 0), none, none]) (by decide) rfl ?_
  refine z_iconst hC dX7_lineUpEvents_2 ki_0 ?_
  refine z_istore_n hC dX7_lineUpEvents_3 (lv' := [some (.ref (ad 0)), some (.int p1), some (.int 0), some (.int 0), none]) (by decide) rfl ?_
  refine z_lpb (lvf := fun z : Int32 × Int32 × zS => [some (.ref (ad 0)), some (.int p1), some (.int z.1), some (.int z.2.1), none]) (sg := fun z => z.2.2) (x := 68) zfuel (0, 0, σ) rfl rfl (fun z K hc hx => t_X7_lineUpEvents_L4 hC p1 z K (fun x0 x1 s' => hc (x0, x1, s')) (fun x0 x1 s' => hx (x0, x1, s'))) (fun a10 => ?_)
  refine z_iload_n hC dX7_lineUpEvents_68 rfl ?_
  exact z_iret hC dX7_lineUpEvents_69
theorem c_X7_lineUpEvents (p1 : Int32) : zM layC nC yX7_lineUpEvents cX7_lineUpEvents 5 (some .int) (zRm 1 24) (fun ad => [.ref (ad 0), .int p1]) (f_X7_lineUpEvents p1) := zM_of (own := RX7) (by decide) rfl (fun ad w hw => by simp only [List.mem_cons, List.not_mem_nil, or_false] at hw; (first | exact hw.elim | (rcases hw with rfl | rfl <;> rfl))) (fun ad => Nat.le_of_ble_eq_true rfl) (fun Γ ad hC σ => w_X7_lineUpEvents hC p1 σ)
set_option maxRecDepth 100000 in
set_option maxHeartbeats 4000000 in
theorem t_X7_bringEvents_L40 {Γ : zG} {ad : Nat → Nat} (hC : zX Γ layC nC ad cX7_bringEvents RX7 4 (zRm 6 129) none) (c1 : Int32) (c2 : Int32) (a0 : Int32 × zS) (K : Bool × (Int32 × zS) → Option (Int32 × zS)) (hc : ∀ (x0 : Int32) (s' : zS), zZ Γ layC nC ad 4 none 40 [some (.ref (ad 0)), some (.int c1), some (.int c2), some (.int x0)] [] s' (K (true, (x0, s')))) (hx : ∀ (x0 : Int32) (s' : zS), zZ Γ layC nC ad 4 none 71 [some (.ref (ad 0)), some (.int c1), some (.int c2), some (.int x0)] [] s' (K (false, (x0, s')))) : zK Γ layC nC ad 4 none 40 [some (.ref (ad 0)), some (.int c1), some (.int c2), some (.int a0.1)] [] (a0.2) (b_X7_bringEvents_L40 c1 c2 a0) K := by
  unfold b_X7_bringEvents_L40
  refine z_iload_n hC dX7_bringEvents_40 rfl ?_
  refine z_iload_n hC dX7_bringEvents_41 rfl ?_
  refine z_icmp_ge hC 71 dX7_bringEvents_42 (by decide) (fun h6 => ?_) (fun h6 => ?_)
  · exact z_leaf (hx a0.1 a0.2)
  · refine z_aload_n hC dX7_bringEvents_45 rfl ?_
    refine z_geti hC wf_X7_145 dX7_bringEvents_46 ltC_0 layC_0 rfl ?_
    refine z_if_ne hC 71 dX7_bringEvents_49 (by decide) (fun h7 => ?_) (fun h7 => ?_)
    · exact z_leaf (hx a0.1 a0.2)
    · refine z_aload_n hC dX7_bringEvents_52 rfl ?_
      refine z_aload_n hC dX7_bringEvents_53 rfl ?_
      refine z_getr hC wf_X7_26 dX7_bringEvents_54 ltC_0 layC_0 rfl ?_
      refine z_getr hC wf_X7_225 dX7_bringEvents_57 ltC_11 layC_11 rfl ?_
      refine z_iload_n hC dX7_bringEvents_60 rfl ?_
      refine z_iald hC dX7_bringEvents_61 ltC_15 layC_15 (fun h8 => ?_)
      refine z_callVv hC [.int (a0.2 15 a0.1.toNatClampNeg)] (c_X7_bringEvent (a0.2 15 a0.1.toNatClampNeg)) yy_X7_bringEvent wl_X7_228 dX7_bringEvents_62 ltC_0 layC_0 vcz_X7 rfl rfl rfl (Nat.le_of_ble_eq_true rfl) (by decide) (fun r9 σ10 _ => ?_)
      refine z_iinc hC dX7_bringEvents_65 (lv' := [some (.ref (ad 0)), some (.int c1), some (.int c2), some (.int (a0.1 + 1))]) rfl (by decide) ki_1 rfl ?_
      refine z_goto hC 40 dX7_bringEvents_68 (by decide) ?_
      exact z_leaf (hc (a0.1 + 1) σ10)
set_option maxRecDepth 100000 in
set_option maxHeartbeats 4000000 in
theorem w_X7_bringEvents {Γ : zG} {ad : Nat → Nat} (hC : zX Γ layC nC ad cX7_bringEvents RX7 4 (zRm 6 129) none) (σ : zS) : zK Γ layC nC ad 4 none 0 [some (.ref (ad 0)), none, none, none] [] σ (f_X7_bringEvents σ) some := by
  unfold f_X7_bringEvents
  refine z_aload_n hC dX7_bringEvents_0 rfl ?_
  refine z_getr hC wf_X7_47 dX7_bringEvents_1 ltC_0 layC_0 rfl ?_
  refine z_geti hC wf_X7_132 dX7_bringEvents_4 ltC_24 layC_24 rfl ?_
  refine z_aload_n hC dX7_bringEvents_7 rfl ?_
  refine z_getr hC wf_X7_47 dX7_bringEvents_8 ltC_0 layC_0 rfl ?_
  refine z_geti hC wf_X7_171 dX7_bringEvents_11 ltC_24 layC_24 rfl ?_
  refine z_iadd hC dX7_bringEvents_14 ?_
  refine z_istore_n hC dX7_bringEvents_15 (lv' := [some (.ref (ad 0)), some (.int ((σ 24 3) + (σ 24 4))), none, none]) (by decide) rfl ?_
  refine z_aload_n hC dX7_bringEvents_16 rfl ?_
  refine z_getr hC wf_X7_47 dX7_bringEvents_17 ltC_0 layC_0 rfl ?_
  refine z_iconst hC dX7_bringEvents_20 ki_0 ?_
  refine z_puti hC wp_X7_171 dX7_bringEvents_21 ltC_24 layC_24 rfl ?_
  refine z_let (fun σ1 _ => ?_)
  refine z_aload_n hC dX7_bringEvents_24 rfl ?_
  refine z_iload_n hC dX7_bringEvents_25 rfl ?_
  refine z_callVi hC [.int ((σ 24 3) + (σ 24 4))] (c_X7_lineUpEvents ((σ 24 3) + (σ 24 4))) yy_X7_lineUpEvents wl_X7_218 dX7_bringEvents_26 ltC_0 layC_0 vcz_X7 rfl rfl rfl (Nat.le_of_ble_eq_true rfl) (by decide) (fun r2 σ3 _ => ?_)
  refine z_istore_n hC dX7_bringEvents_29 (lv' := [some (.ref (ad 0)), some (.int ((σ 24 3) + (σ 24 4))), some (.int r2), none]) (by decide) rfl ?_
  refine z_aload_n hC dX7_bringEvents_30 rfl ?_
  refine z_getr hC wf_X7_47 dX7_bringEvents_31 ltC_0 layC_0 rfl ?_
  refine z_iload_n hC dX7_bringEvents_34 rfl ?_
  refine z_callVv hC [.int ((σ 24 3) + (σ 24 4))] (c_X4_goOn ((σ 24 3) + (σ 24 4))) yy_X4_goOn wl_X7_221 dX7_bringEvents_35 ltC_24 layC_24 vcz_X4 rfl rfl rfl (Nat.le_of_ble_eq_true rfl) (by decide) (fun r4 σ5 _ => ?_)
  refine z_iconst hC dX7_bringEvents_38 ki_0 ?_
  refine z_istore_n hC dX7_bringEvents_39 (lv' := [some (.ref (ad 0)), some (.int ((σ 24 3) + (σ 24 4))), some (.int r2), some (.int 0)]) (by decide) rfl ?_
  refine z_lpb (lvf := fun z : Int32 × zS => [some (.ref (ad 0)), some (.int ((σ 24 3) + (σ 24 4))), some (.int r2), some (.int z.1)]) (sg := fun z => z.2) (x := 71) zfuel (0, σ5) rfl rfl (fun z K hc hx => t_X7_bringEvents_L40 hC ((σ 24 3) + (σ 24 4)) r2 z K (fun x0 s' => hc (x0, s')) (fun x0 s' => hx (x0, s'))) (fun a11 => ?_)
  exact z_vret hC dX7_bringEvents_71
theorem c_X7_bringEvents : zM layC nC yX7_bringEvents cX7_bringEvents 4 none (zRm 6 129) (fun ad => [.ref (ad 0)]) (f_X7_bringEvents) := zM_of (own := RX7) (by decide) rfl (fun ad w hw => by simp only [List.mem_cons, List.not_mem_nil, or_false] at hw; (first | exact hw.elim | (rcases hw with rfl <;> rfl))) (fun ad => Nat.le_of_ble_eq_true rfl) (fun Γ ad hC σ => w_X7_bringEvents hC σ)
set_option maxRecDepth 100000 in
set_option maxHeartbeats 4000000 in
theorem w_X7_isWithin {Γ : zG} {ad : Nat → Nat} (hC : zX Γ layC nC ad cX7_isWithin RX7 3 (zRm 0 0) (some .boolean)) (p0 : Int32) (p1 : Int32) (p2 : Int32) (σ : zS) : zK Γ layC nC ad 3 (some .boolean) 0 [some (.int p0), some (.int p1), some (.int p2)] [] σ (f_X7_isWithin p0 p1 p2 σ) some := by
  unfold f_X7_isWithin
  refine z_iload_n hC dX7_isWithin_0 rfl ?_
  refine z_iload_n hC dX7_isWithin_1 rfl ?_
  refine z_icmp_lt hC 14 dX7_isWithin_2 (by decide) (fun h1 => ?_) (fun h1 => ?_)
  · refine z_iconst hC dX7_isWithin_14 ki_0 ?_
    exact z_zret hC (by decide) dX7_isWithin_15
  · refine z_iload_n hC dX7_isWithin_5 rfl ?_
    refine z_iload_n hC dX7_isWithin_6 rfl ?_
    refine z_icmp_gt hC 14 dX7_isWithin_7 (by decide) (fun h2 => ?_) (fun h2 => ?_)
    · refine z_iconst hC dX7_isWithin_14 ki_0 ?_
      exact z_zret hC (by decide) dX7_isWithin_15
    · refine z_iconst hC dX7_isWithin_10 ki_1 ?_
      refine z_goto hC 15 dX7_isWithin_11 (by decide) ?_
      exact z_zret hC (by decide) dX7_isWithin_15
theorem c_X7_isWithin (p0 : Int32) (p1 : Int32) (p2 : Int32) : zM layC nC yX7_isWithin cX7_isWithin 3 (some .boolean) (zRm 0 0) (fun ad => [.int p0, .int p1, .int p2]) (f_X7_isWithin p0 p1 p2) := zM_of (own := RX7) (by decide) rfl (fun ad w hw => by simp only [List.mem_cons, List.not_mem_nil, or_false] at hw; (first | exact hw.elim | (rcases hw with rfl | rfl | rfl <;> rfl))) (fun ad => Nat.le_of_ble_eq_true rfl) (fun Γ ad hC σ => w_X7_isWithin hC p0 p1 p2 σ)
set_option maxRecDepth 100000 in
set_option maxHeartbeats 4000000 in
theorem w_X7_isCounterValue {Γ : zG} {ad : Nat → Nat} (hC : zX Γ layC nC ad cX7_isCounterValue RX7 1 (zRm 1 22) (some .boolean)) (p0 : Int32) (σ : zS) : zK Γ layC nC ad 1 (some .boolean) 0 [some (.int p0)] [] σ (f_X7_isCounterValue p0 σ) some := by
  unfold f_X7_isCounterValue
  refine z_iload_n hC dX7_isCounterValue_0 rfl ?_
  refine z_sipush hC dX7_isCounterValue_1 ks_m1000 ?_
  refine z_sipush hC dX7_isCounterValue_4 ks_1000 ?_
  refine z_callSi hC [.int p0, .int (-1000), .int 1000] (c_X7_isWithin p0 (-1000) 1000) yy_X7_isWithin wl_X7_95 dX7_isCounterValue_7 rfl rfl rfl (Nat.le_of_ble_eq_true rfl) (by decide) (fun r1 σ2 _ => ?_)
  refine z_chk (fun h3 => ?_)
  exact z_zret hC h3 dX7_isCounterValue_10
theorem c_X7_isCounterValue (p0 : Int32) : zM layC nC yX7_isCounterValue cX7_isCounterValue 1 (some .boolean) (zRm 1 22) (fun ad => [.int p0]) (f_X7_isCounterValue p0) := zM_of (own := RX7) (by decide) rfl (fun ad w hw => by simp only [List.mem_cons, List.not_mem_nil, or_false] at hw; (first | exact hw.elim | (rcases hw with rfl <;> rfl))) (fun ad => Nat.le_of_ble_eq_true rfl) (fun Γ ad hC σ => w_X7_isCounterValue hC p0 σ)
set_option maxRecDepth 100000 in
set_option maxHeartbeats 4000000 in
theorem q_X7_condition_J29 {Γ : zG} {ad : Nat → Nat} (hC : zX Γ layC nC ad cX7_condition RX7 4 (zRm 2 42) (some .int)) (v1 : Int32) (v2 : Int32) (v3 : Int32) (σ : zS) : zK Γ layC nC ad 4 (some .int) 29 [some (.ref (ad 0)), some (.int v1), some (.int v2), some (.int v3)] [] σ (j_X7_condition_J29 v1 v2 v3 σ) some := by
  unfold j_X7_condition_J29
  refine z_iload_n hC dX7_condition_29 rfl ?_
  refine z_callSi hC [.int v3] (c_X7_isCounterValue v3) yy_X7_isCounterValue wl_X7_103 dX7_condition_30 rfl rfl rfl (Nat.le_of_ble_eq_true rfl) (by decide) (fun r5 σ6 _ => ?_)
  refine z_if_ne hC 39 dX7_condition_33 (by decide) (fun h7 => ?_) (fun h7 => ?_)
  · refine z_aload_n hC dX7_condition_39 rfl ?_
    refine z_getr hC wf_X7_19 dX7_condition_40 ltC_0 layC_0 rfl ?_
    refine z_getr hC wf_X7_113 dX7_condition_43 ltC_5 layC_5 rfl ?_
    refine z_iload_n hC dX7_condition_46 rfl ?_
    refine z_iload_n hC dX7_condition_47 rfl ?_
    refine z_iast hC dX7_condition_48 ltC_9 layC_9 (fun h8 => ?_)
    refine z_let (fun σ9 _ => ?_)
    refine z_aload_n hC dX7_condition_49 rfl ?_
    refine z_getr hC wf_X7_19 dX7_condition_50 ltC_0 layC_0 rfl ?_
    refine z_getr hC wf_X7_116 dX7_condition_53 ltC_5 layC_5 rfl ?_
    refine z_iload_n hC dX7_condition_56 rfl ?_
    refine z_iload_n hC dX7_condition_57 rfl ?_
    refine z_iast hC dX7_condition_58 ltC_10 layC_10 (fun h10 => ?_)
    refine z_let (fun σ11 _ => ?_)
    refine z_aload_n hC dX7_condition_59 rfl ?_
    refine z_iconst hC dX7_condition_60 ki_1 ?_
    refine z_callVi hC [.int 1] (c_X7_closePast 1) yy_X7_closePast wl_X7_66 dX7_condition_61 ltC_0 layC_0 vcz_X7 rfl rfl rfl (Nat.le_of_ble_eq_true rfl) (by decide) (fun r12 σ13 _ => ?_)
    exact z_iret hC dX7_condition_64
  · refine z_bipush hC dX7_condition_36 kb_m3 ?_
    exact z_iret hC dX7_condition_38
set_option maxRecDepth 100000 in
set_option maxHeartbeats 4000000 in
theorem w_X7_condition {Γ : zG} {ad : Nat → Nat} (hC : zX Γ layC nC ad cX7_condition RX7 4 (zRm 2 42) (some .int)) (p1 : Int32) (p2 : Int32) (p3 : Int32) (σ : zS) : zK Γ layC nC ad 4 (some .int) 0 [some (.ref (ad 0)), some (.int p1), some (.int p2), some (.int p3)] [] σ (f_X7_condition p1 p2 p3 σ) some := by
  unfold f_X7_condition
  refine z_iload_n hC dX7_condition_0 rfl ?_
  refine z_aload_n hC dX7_condition_1 rfl ?_
  refine z_getr hC wf_X7_19 dX7_condition_2 ltC_0 layC_0 rfl ?_
  refine z_geti hC wf_X7_110 dX7_condition_5 ltC_5 layC_5 rfl ?_
  refine z_callSi hC [.int p1, .int (σ 5 0)] (c_X7_isThere p1 (σ 5 0)) yy_X7_isThere wl_X7_74 dX7_condition_8 rfl rfl rfl (Nat.le_of_ble_eq_true rfl) (by decide) (fun r1 σ2 _ => ?_)
  refine z_if_ne hC 17 dX7_condition_11 (by decide) (fun h3 => ?_) (fun h3 => ?_)
  · refine z_iload_n hC dX7_condition_17 rfl ?_
    refine z_iconst hC dX7_condition_18 ki_m1 ?_
    refine z_icmp_eq hC 29 dX7_condition_19 (by decide) (fun h4 => ?_) (fun h4 => ?_)
    · exact q_X7_condition_J29 hC p1 p2 p3 σ2
    · refine z_iload_n hC dX7_condition_22 rfl ?_
      refine z_callSi hC [.int p2] (c_X7_isCounter p2) yy_X7_isCounter wl_X7_99 dX7_condition_23 rfl rfl rfl (Nat.le_of_ble_eq_true rfl) (by decide) (fun r14 σ15 _ => ?_)
      refine z_if_eq hC 36 dX7_condition_26 (by decide) (fun h16 => ?_) (fun h16 => ?_)
      · refine z_bipush hC dX7_condition_36 kb_m3 ?_
        exact z_iret hC dX7_condition_38
      · exact q_X7_condition_J29 hC p1 p2 p3 σ15
  · refine z_bipush hC dX7_condition_14 kb_m2 ?_
    exact z_iret hC dX7_condition_16
theorem c_X7_condition (p1 : Int32) (p2 : Int32) (p3 : Int32) : zM layC nC yX7_condition cX7_condition 4 (some .int) (zRm 2 42) (fun ad => [.ref (ad 0), .int p1, .int p2, .int p3]) (f_X7_condition p1 p2 p3) := zM_of (own := RX7) (by decide) rfl (fun ad w hw => by simp only [List.mem_cons, List.not_mem_nil, or_false] at hw; (first | exact hw.elim | (rcases hw with rfl | rfl | rfl | rfl <;> rfl))) (fun ad => Nat.le_of_ble_eq_true rfl) (fun Γ ad hC σ => w_X7_condition hC p1 p2 p3 σ)
set_option maxRecDepth 100000 in
set_option maxHeartbeats 4000000 in
theorem w_X7_count {Γ : zG} {ad : Nat → Nat} (hC : zX Γ layC nC ad cX7_count RX7 2 (zRm 0 0) (some .int)) (p1 : Int32) (σ : zS) : zK Γ layC nC ad 2 (some .int) 0 [some (.ref (ad 0)), some (.int p1)] [] σ (f_X7_count p1 σ) some := by
  unfold f_X7_count
  refine z_iload_n hC dX7_count_0 rfl ?_
  refine z_ite (fun h1 => ?_) (fun h1 => ?_)
  · refine z_tabIn hC 44 dX7_count_1 0 h1 (by decide) (by decide) rfl (by decide) ?_
    refine z_aload_n hC dX7_count_44 rfl ?_
    refine z_getr hC wf_X7_12 dX7_count_45 ltC_0 layC_0 rfl ?_
    refine z_geti hC wf_X7_70 dX7_count_48 ltC_1 layC_1 rfl ?_
    exact z_iret hC dX7_count_51
  refine z_ite (fun h2 => ?_) (fun h2 => ?_)
  · refine z_tabIn hC 52 dX7_count_1 1 h2 (by decide) (by decide) rfl (by decide) ?_
    refine z_aload_n hC dX7_count_52 rfl ?_
    refine z_getr hC wf_X7_12 dX7_count_53 ltC_0 layC_0 rfl ?_
    refine z_geti hC wf_X7_174 dX7_count_56 ltC_1 layC_1 rfl ?_
    exact z_iret hC dX7_count_59
  refine z_ite (fun h3 => ?_) (fun h3 => ?_)
  · refine z_tabIn hC 60 dX7_count_1 2 h3 (by decide) (by decide) rfl (by decide) ?_
    refine z_aload_n hC dX7_count_60 rfl ?_
    refine z_getr hC wf_X7_12 dX7_count_61 ltC_0 layC_0 rfl ?_
    refine z_geti hC wf_X7_85 dX7_count_64 ltC_1 layC_1 rfl ?_
    exact z_iret hC dX7_count_67
  refine z_ite (fun h4 => ?_) (fun h4 => ?_)
  · refine z_tabIn hC 68 dX7_count_1 3 h4 (by decide) (by decide) rfl (by decide) ?_
    refine z_aload_n hC dX7_count_68 rfl ?_
    refine z_getr hC wf_X7_19 dX7_count_69 ltC_0 layC_0 rfl ?_
    refine z_geti hC wf_X7_110 dX7_count_72 ltC_5 layC_5 rfl ?_
    exact z_iret hC dX7_count_75
  refine z_ite (fun h5 => ?_) (fun h5 => ?_)
  · refine z_tabIn hC 76 dX7_count_1 4 h5 (by decide) (by decide) rfl (by decide) ?_
    refine z_aload_n hC dX7_count_76 rfl ?_
    refine z_getr hC wf_X7_26 dX7_count_77 ltC_0 layC_0 rfl ?_
    refine z_geti hC wf_X7_177 dX7_count_80 ltC_11 layC_11 rfl ?_
    exact z_iret hC dX7_count_83
  refine z_ite (fun h6 => ?_) (fun h6 => ?_)
  · refine z_tabIn hC 84 dX7_count_1 5 h6 (by decide) (by decide) rfl (by decide) ?_
    refine z_aload_n hC dX7_count_84 rfl ?_
    refine z_getr hC wf_X7_33 dX7_count_85 ltC_0 layC_0 rfl ?_
    refine z_geti hC wf_X7_178 dX7_count_88 ltC_17 layC_17 rfl ?_
    exact z_iret hC dX7_count_91
  refine z_ite (fun h7 => ?_) (fun h7 => ?_)
  · refine z_tabIn hC 92 dX7_count_1 6 h7 (by decide) (by decide) rfl (by decide) ?_
    refine z_aload_n hC dX7_count_92 rfl ?_
    refine z_getr hC wf_X7_40 dX7_count_93 ltC_0 layC_0 rfl ?_
    refine z_geti hC wf_X7_179 dX7_count_96 ltC_21 layC_21 rfl ?_
    exact z_iret hC dX7_count_99
  refine z_tabOut hC 100 dX7_count_1 (by have := And.intro (lv_neT h1 (a := 0) (by decide)) (And.intro (lv_neT h2 (a := 1) (by decide)) (And.intro (lv_neT h3 (a := 2) (by decide)) (And.intro (lv_neT h4 (a := 3) (by decide)) (And.intro (lv_neT h5 (a := 4) (by decide)) (And.intro (lv_neT h6 (a := 5) (by decide)) (lv_neT h7 (a := 6) (by decide))))))); omega) (by decide) ?_
  refine z_bipush hC dX7_count_100 kb_m3 ?_
  exact z_iret hC dX7_count_102
theorem c_X7_count (p1 : Int32) : zM layC nC yX7_count cX7_count 2 (some .int) (zRm 0 0) (fun ad => [.ref (ad 0), .int p1]) (f_X7_count p1) := zM_of (own := RX7) (by decide) rfl (fun ad w hw => by simp only [List.mem_cons, List.not_mem_nil, or_false] at hw; (first | exact hw.elim | (rcases hw with rfl | rfl <;> rfl))) (fun ad => Nat.le_of_ble_eq_true rfl) (fun Γ ad hC σ => w_X7_count hC p1 σ)
set_option maxRecDepth 100000 in
set_option maxHeartbeats 4000000 in
theorem w_X7_counter {Γ : zG} {ad : Nat → Nat} (hC : zX Γ layC nC ad cX7_counter RX7 2 (zRm 2 41) (some .int)) (p1 : Int32) (σ : zS) : zK Γ layC nC ad 2 (some .int) 0 [some (.ref (ad 0)), some (.int p1)] [] σ (f_X7_counter p1 σ) some := by
  unfold f_X7_counter
  refine z_iload_n hC dX7_counter_0 rfl ?_
  refine z_callSi hC [.int p1] (c_X7_isCounter p1) yy_X7_isCounter wl_X7_99 dX7_counter_1 rfl rfl rfl (Nat.le_of_ble_eq_true rfl) (by decide) (fun r1 σ2 _ => ?_)
  refine z_if_eq hC 19 dX7_counter_4 (by decide) (fun h3 => ?_) (fun h3 => ?_)
  · refine z_bipush hC dX7_counter_19 kb_m3 ?_
    exact z_iret hC dX7_counter_21
  · refine z_aload_n hC dX7_counter_7 rfl ?_
    refine z_getr hC wf_X7_47 dX7_counter_8 ltC_0 layC_0 rfl ?_
    refine z_getr hC wf_X7_180 dX7_counter_11 ltC_24 layC_24 rfl ?_
    refine z_iload_n hC dX7_counter_14 rfl ?_
    refine z_iald hC dX7_counter_15 ltC_27 layC_27 (fun h4 => ?_)
    refine z_goto hC 21 dX7_counter_16 (by decide) ?_
    exact z_iret hC dX7_counter_21
theorem c_X7_counter (p1 : Int32) : zM layC nC yX7_counter cX7_counter 2 (some .int) (zRm 2 41) (fun ad => [.ref (ad 0), .int p1]) (f_X7_counter p1) := zM_of (own := RX7) (by decide) rfl (fun ad w hw => by simp only [List.mem_cons, List.not_mem_nil, or_false] at hw; (first | exact hw.elim | (rcases hw with rfl | rfl <;> rfl))) (fun ad => Nat.le_of_ble_eq_true rfl) (fun Γ ad hC σ => w_X7_counter hC p1 σ)
set_option maxRecDepth 100000 in
set_option maxHeartbeats 4000000 in
theorem w_X7_daemon {Γ : zG} {ad : Nat → Nat} (hC : zX Γ layC nC ad cX7_daemon RX7 3 (zRm 1 22) (some .int)) (p1 : Int32) (p2 : Int32) (σ : zS) : zK Γ layC nC ad 3 (some .int) 0 [some (.ref (ad 0)), some (.int p1), some (.int p2)] [] σ (f_X7_daemon p1 p2 σ) some := by
  unfold f_X7_daemon
  refine z_iload_n hC dX7_daemon_0 rfl ?_
  refine z_aload_n hC dX7_daemon_1 rfl ?_
  refine z_getr hC wf_X7_19 dX7_daemon_2 ltC_0 layC_0 rfl ?_
  refine z_geti hC wf_X7_110 dX7_daemon_5 ltC_5 layC_5 rfl ?_
  refine z_callSi hC [.int p1, .int (σ 5 0)] (c_X7_isThere p1 (σ 5 0)) yy_X7_isThere wl_X7_74 dX7_daemon_8 rfl rfl rfl (Nat.le_of_ble_eq_true rfl) (by decide) (fun r1 σ2 _ => ?_)
  refine z_if_ne hC 17 dX7_daemon_11 (by decide) (fun h3 => ?_) (fun h3 => ?_)
  · refine z_iload_n hC dX7_daemon_17 rfl ?_
    refine z_iconst hC dX7_daemon_18 ki_0 ?_
    refine z_bipush hC dX7_daemon_19 kb_9 ?_
    refine z_callSi hC [.int p2, .int 0, .int 9] (c_X7_isWithin p2 0 9) yy_X7_isWithin wl_X7_95 dX7_daemon_21 rfl rfl rfl (Nat.le_of_ble_eq_true rfl) (by decide) (fun r4 σ5 _ => ?_)
    refine z_if_ne hC 30 dX7_daemon_24 (by decide) (fun h6 => ?_) (fun h6 => ?_)
    · refine z_aload_n hC dX7_daemon_30 rfl ?_
      refine z_aload_n hC dX7_daemon_31 rfl ?_
      refine z_getr hC wf_X7_40 dX7_daemon_32 ltC_0 layC_0 rfl ?_
      refine z_iload_n hC dX7_daemon_35 rfl ?_
      refine z_iload_n hC dX7_daemon_36 rfl ?_
      refine z_callVi hC [.int p1, .int p2] (c_X0_addDaemon p1 p2) yy_X0_addDaemon wl_X7_126 dX7_daemon_37 ltC_21 layC_21 vcz_X0 rfl rfl rfl (Nat.le_of_ble_eq_true rfl) (by decide) (fun r7 σ8 _ => ?_)
      refine z_callVi hC [.int r7] (c_X7_closePast r7) yy_X7_closePast wl_X7_66 dX7_daemon_40 ltC_0 layC_0 vcz_X7 rfl rfl rfl (Nat.le_of_ble_eq_true rfl) (by decide) (fun r9 σ10 _ => ?_)
      exact z_iret hC dX7_daemon_43
    · refine z_bipush hC dX7_daemon_27 kb_m3 ?_
      exact z_iret hC dX7_daemon_29
  · refine z_bipush hC dX7_daemon_14 kb_m2 ?_
    exact z_iret hC dX7_daemon_16
theorem c_X7_daemon (p1 : Int32) (p2 : Int32) : zM layC nC yX7_daemon cX7_daemon 3 (some .int) (zRm 1 22) (fun ad => [.ref (ad 0), .int p1, .int p2]) (f_X7_daemon p1 p2) := zM_of (own := RX7) (by decide) rfl (fun ad w hw => by simp only [List.mem_cons, List.not_mem_nil, or_false] at hw; (first | exact hw.elim | (rcases hw with rfl | rfl | rfl <;> rfl))) (fun ad => Nat.le_of_ble_eq_true rfl) (fun Γ ad hC σ => w_X7_daemon hC p1 p2 σ)
set_option maxRecDepth 100000 in
set_option maxHeartbeats 4000000 in
theorem q_X7_deed_J34 {Γ : zG} {ad : Nat → Nat} (hC : zX Γ layC nC ad cX7_deed RX7 4 (zRm 2 42) (some .int)) (v1 : Int32) (v2 : Int32) (v3 : Int32) (σ : zS) : zK Γ layC nC ad 4 (some .int) 34 [some (.ref (ad 0)), some (.int v1), some (.int v2), some (.int v3)] [] σ (j_X7_deed_J34 v1 v2 v3 σ) some := by
  unfold j_X7_deed_J34
  refine z_iload_n hC dX7_deed_34 rfl ?_
  refine z_bipush hC dX7_deed_35 kb_8 ?_
  refine z_icmp_ne hC 54 dX7_deed_37 (by decide) (fun h5 => ?_) (fun h5 => ?_)
  · refine z_aload_n hC dX7_deed_54 rfl ?_
    refine z_aload_n hC dX7_deed_55 rfl ?_
    refine z_getr hC wf_X7_19 dX7_deed_56 ltC_0 layC_0 rfl ?_
    refine z_iload_n hC dX7_deed_59 rfl ?_
    refine z_iload_n hC dX7_deed_60 rfl ?_
    refine z_iload_n hC dX7_deed_61 rfl ?_
    refine z_callVi hC [.int v1, .int v2, .int v3] (c_X1_addDeed v1 v2 v3) yy_X1_addDeed wl_X7_106 dX7_deed_62 ltC_5 layC_5 vcz_X1 rfl rfl rfl (Nat.le_of_ble_eq_true rfl) (by decide) (fun r6 σ7 _ => ?_)
    refine z_callVi hC [.int r6] (c_X7_closePast r6) yy_X7_closePast wl_X7_66 dX7_deed_65 ltC_0 layC_0 vcz_X7 rfl rfl rfl (Nat.le_of_ble_eq_true rfl) (by decide) (fun r8 σ9 _ => ?_)
    exact z_iret hC dX7_deed_68
  · refine z_iload_n hC dX7_deed_40 rfl ?_
    refine z_iconst hC dX7_deed_41 ki_1 ?_
    refine z_sipush hC dX7_deed_42 ks_600 ?_
    refine z_callSi hC [.int v3, .int 1, .int 600] (c_X7_isWithin v3 1 600) yy_X7_isWithin wl_X7_95 dX7_deed_45 rfl rfl rfl (Nat.le_of_ble_eq_true rfl) (by decide) (fun r10 σ11 _ => ?_)
    refine z_if_ne hC 54 dX7_deed_48 (by decide) (fun h12 => ?_) (fun h12 => ?_)
    · refine z_aload_n hC dX7_deed_54 rfl ?_
      refine z_aload_n hC dX7_deed_55 rfl ?_
      refine z_getr hC wf_X7_19 dX7_deed_56 ltC_0 layC_0 rfl ?_
      refine z_iload_n hC dX7_deed_59 rfl ?_
      refine z_iload_n hC dX7_deed_60 rfl ?_
      refine z_iload_n hC dX7_deed_61 rfl ?_
      refine z_callVi hC [.int v1, .int v2, .int v3] (c_X1_addDeed v1 v2 v3) yy_X1_addDeed wl_X7_106 dX7_deed_62 ltC_5 layC_5 vcz_X1 rfl rfl rfl (Nat.le_of_ble_eq_true rfl) (by decide) (fun r13 σ14 _ => ?_)
      refine z_callVi hC [.int r13] (c_X7_closePast r13) yy_X7_closePast wl_X7_66 dX7_deed_65 ltC_0 layC_0 vcz_X7 rfl rfl rfl (Nat.le_of_ble_eq_true rfl) (by decide) (fun r15 σ16 _ => ?_)
      exact z_iret hC dX7_deed_68
    · refine z_bipush hC dX7_deed_51 kb_m3 ?_
      exact z_iret hC dX7_deed_53
set_option maxRecDepth 100000 in
set_option maxHeartbeats 4000000 in
theorem w_X7_deed {Γ : zG} {ad : Nat → Nat} (hC : zX Γ layC nC ad cX7_deed RX7 4 (zRm 2 42) (some .int)) (p1 : Int32) (p2 : Int32) (p3 : Int32) (σ : zS) : zK Γ layC nC ad 4 (some .int) 0 [some (.ref (ad 0)), some (.int p1), some (.int p2), some (.int p3)] [] σ (f_X7_deed p1 p2 p3 σ) some := by
  unfold f_X7_deed
  refine z_iload_n hC dX7_deed_0 rfl ?_
  refine z_iconst hC dX7_deed_1 ki_0 ?_
  refine z_bipush hC dX7_deed_2 kb_8 ?_
  refine z_callSi hC [.int p1, .int 0, .int 8] (c_X7_isWithin p1 0 8) yy_X7_isWithin wl_X7_95 dX7_deed_4 rfl rfl rfl (Nat.le_of_ble_eq_true rfl) (by decide) (fun r1 σ2 _ => ?_)
  refine z_if_ne hC 13 dX7_deed_7 (by decide) (fun h3 => ?_) (fun h3 => ?_)
  · refine z_iload_n hC dX7_deed_13 rfl ?_
    refine z_if_ne hC 34 dX7_deed_14 (by decide) (fun h4 => ?_) (fun h4 => ?_)
    · exact q_X7_deed_J34 hC p1 p2 p3 σ2
    · refine z_iload_n hC dX7_deed_17 rfl ?_
      refine z_callSi hC [.int p2] (c_X7_isCounter p2) yy_X7_isCounter wl_X7_99 dX7_deed_18 rfl rfl rfl (Nat.le_of_ble_eq_true rfl) (by decide) (fun r17 σ18 _ => ?_)
      refine z_if_eq hC 31 dX7_deed_21 (by decide) (fun h19 => ?_) (fun h19 => ?_)
      · refine z_bipush hC dX7_deed_31 kb_m3 ?_
        exact z_iret hC dX7_deed_33
      · refine z_iload_n hC dX7_deed_24 rfl ?_
        refine z_callSi hC [.int p3] (c_X7_isCounterValue p3) yy_X7_isCounterValue wl_X7_103 dX7_deed_25 rfl rfl rfl (Nat.le_of_ble_eq_true rfl) (by decide) (fun r20 σ21 _ => ?_)
        refine z_if_ne hC 34 dX7_deed_28 (by decide) (fun h22 => ?_) (fun h22 => ?_)
        · exact q_X7_deed_J34 hC p1 p2 p3 σ21
        · refine z_bipush hC dX7_deed_31 kb_m3 ?_
          exact z_iret hC dX7_deed_33
  · refine z_bipush hC dX7_deed_10 kb_m3 ?_
    exact z_iret hC dX7_deed_12
theorem c_X7_deed (p1 : Int32) (p2 : Int32) (p3 : Int32) : zM layC nC yX7_deed cX7_deed 4 (some .int) (zRm 2 42) (fun ad => [.ref (ad 0), .int p1, .int p2, .int p3]) (f_X7_deed p1 p2 p3) := zM_of (own := RX7) (by decide) rfl (fun ad w hw => by simp only [List.mem_cons, List.not_mem_nil, or_false] at hw; (first | exact hw.elim | (rcases hw with rfl | rfl | rfl | rfl <;> rfl))) (fun ad => Nat.le_of_ble_eq_true rfl) (fun Γ ad hC σ => w_X7_deed hC p1 p2 p3 σ)
set_option maxRecDepth 100000 in
set_option maxHeartbeats 4000000 in
theorem w_X7_door {Γ : zG} {ad : Nat → Nat} (hC : zX Γ layC nC ad cX7_door RX7 3 (zRm 1 22) (some .int)) (p1 : Int32) (p2 : Int32) (σ : zS) : zK Γ layC nC ad 3 (some .int) 0 [some (.ref (ad 0)), some (.int p1), some (.int p2)] [] σ (f_X7_door p1 p2 σ) some := by
  unfold f_X7_door
  refine z_iload_n hC dX7_door_0 rfl ?_
  refine z_aload_n hC dX7_door_1 rfl ?_
  refine z_getr hC wf_X7_12 dX7_door_2 ltC_0 layC_0 rfl ?_
  refine z_geti hC wf_X7_70 dX7_door_5 ltC_1 layC_1 rfl ?_
  refine z_callSi hC [.int p1, .int (σ 1 0)] (c_X7_isThere p1 (σ 1 0)) yy_X7_isThere wl_X7_74 dX7_door_8 rfl rfl rfl (Nat.le_of_ble_eq_true rfl) (by decide) (fun r1 σ2 _ => ?_)
  refine z_if_eq hC 28 dX7_door_11 (by decide) (fun h3 => ?_) (fun h3 => ?_)
  · refine z_bipush hC dX7_door_28 kb_m2 ?_
    exact z_iret hC dX7_door_30
  · refine z_iload_n hC dX7_door_14 rfl ?_
    refine z_aload_n hC dX7_door_15 rfl ?_
    refine z_getr hC wf_X7_12 dX7_door_16 ltC_0 layC_0 rfl ?_
    refine z_geti hC wf_X7_70 dX7_door_19 ltC_1 layC_1 rfl ?_
    refine z_callSi hC [.int p2, .int (σ2 1 0)] (c_X7_isThere p2 (σ2 1 0)) yy_X7_isThere wl_X7_74 dX7_door_22 rfl rfl rfl (Nat.le_of_ble_eq_true rfl) (by decide) (fun r4 σ5 _ => ?_)
    refine z_if_ne hC 31 dX7_door_25 (by decide) (fun h6 => ?_) (fun h6 => ?_)
    · refine z_iload_n hC dX7_door_31 rfl ?_
      refine z_iload_n hC dX7_door_32 rfl ?_
      refine z_icmp_ne hC 39 dX7_door_33 (by decide) (fun h7 => ?_) (fun h7 => ?_)
      · refine z_aload_n hC dX7_door_39 rfl ?_
        refine z_aload_n hC dX7_door_40 rfl ?_
        refine z_getr hC wf_X7_12 dX7_door_41 ltC_0 layC_0 rfl ?_
        refine z_iload_n hC dX7_door_44 rfl ?_
        refine z_iload_n hC dX7_door_45 rfl ?_
        refine z_callVi hC [.int p1, .int p2] (c_X3_addDoor p1 p2) yy_X3_addDoor wl_X7_78 dX7_door_46 ltC_1 layC_1 vcz_X3 rfl rfl rfl (Nat.le_of_ble_eq_true rfl) (by decide) (fun r8 σ9 _ => ?_)
        refine z_callVi hC [.int r8] (c_X7_closePast r8) yy_X7_closePast wl_X7_66 dX7_door_49 ltC_0 layC_0 vcz_X7 rfl rfl rfl (Nat.le_of_ble_eq_true rfl) (by decide) (fun r10 σ11 _ => ?_)
        exact z_iret hC dX7_door_52
      · refine z_bipush hC dX7_door_36 kb_m3 ?_
        exact z_iret hC dX7_door_38
    · refine z_bipush hC dX7_door_28 kb_m2 ?_
      exact z_iret hC dX7_door_30
theorem c_X7_door (p1 : Int32) (p2 : Int32) : zM layC nC yX7_door cX7_door 3 (some .int) (zRm 1 22) (fun ad => [.ref (ad 0), .int p1, .int p2]) (f_X7_door p1 p2) := zM_of (own := RX7) (by decide) rfl (fun ad w hw => by simp only [List.mem_cons, List.not_mem_nil, or_false] at hw; (first | exact hw.elim | (rcases hw with rfl | rfl | rfl <;> rfl))) (fun ad => Nat.le_of_ble_eq_true rfl) (fun Γ ad hC σ => w_X7_door hC p1 p2 σ)
set_option maxRecDepth 100000 in
set_option maxHeartbeats 4000000 in
theorem w_X7_event {Γ : zG} {ad : Nat → Nat} (hC : zX Γ layC nC ad cX7_event RX7 4 (zRm 1 23) (some .int)) (p1 : Int32) (p2 : Int32) (p3 : Int32) (σ : zS) : zK Γ layC nC ad 4 (some .int) 0 [some (.ref (ad 0)), some (.int p1), some (.int p2), some (.int p3)] [] σ (f_X7_event p1 p2 p3 σ) some := by
  unfold f_X7_event
  refine z_iload_n hC dX7_event_0 rfl ?_
  refine z_aload_n hC dX7_event_1 rfl ?_
  refine z_getr hC wf_X7_19 dX7_event_2 ltC_0 layC_0 rfl ?_
  refine z_geti hC wf_X7_110 dX7_event_5 ltC_5 layC_5 rfl ?_
  refine z_callSi hC [.int p1, .int (σ 5 0)] (c_X7_isThere p1 (σ 5 0)) yy_X7_isThere wl_X7_74 dX7_event_8 rfl rfl rfl (Nat.le_of_ble_eq_true rfl) (by decide) (fun r1 σ2 _ => ?_)
  refine z_if_ne hC 17 dX7_event_11 (by decide) (fun h3 => ?_) (fun h3 => ?_)
  · refine z_iload_n hC dX7_event_17 rfl ?_
    refine z_iconst hC dX7_event_18 ki_0 ?_
    refine z_sipush hC dX7_event_19 ks_1439 ?_
    refine z_callSi hC [.int p2, .int 0, .int 1439] (c_X7_isWithin p2 0 1439) yy_X7_isWithin wl_X7_95 dX7_event_22 rfl rfl rfl (Nat.le_of_ble_eq_true rfl) (by decide) (fun r4 σ5 _ => ?_)
    refine z_if_ne hC 31 dX7_event_25 (by decide) (fun h6 => ?_) (fun h6 => ?_)
    · refine z_aload_n hC dX7_event_31 rfl ?_
      refine z_aload_n hC dX7_event_32 rfl ?_
      refine z_getr hC wf_X7_26 dX7_event_33 ltC_0 layC_0 rfl ?_
      refine z_iload_n hC dX7_event_36 rfl ?_
      refine z_iload_n hC dX7_event_37 rfl ?_
      refine z_iload_n hC dX7_event_38 rfl ?_
      refine z_callVi hC [.int p1, .int p2, .int p3] (c_X2_addEvent p1 p2 p3) yy_X2_addEvent wl_X7_119 dX7_event_39 ltC_11 layC_11 vcz_X2 rfl rfl rfl (Nat.le_of_ble_eq_true rfl) (by decide) (fun r7 σ8 _ => ?_)
      refine z_callVi hC [.int r7] (c_X7_closePast r7) yy_X7_closePast wl_X7_66 dX7_event_42 ltC_0 layC_0 vcz_X7 rfl rfl rfl (Nat.le_of_ble_eq_true rfl) (by decide) (fun r9 σ10 _ => ?_)
      exact z_iret hC dX7_event_45
    · refine z_bipush hC dX7_event_28 kb_m3 ?_
      exact z_iret hC dX7_event_30
  · refine z_bipush hC dX7_event_14 kb_m2 ?_
    exact z_iret hC dX7_event_16
theorem c_X7_event (p1 : Int32) (p2 : Int32) (p3 : Int32) : zM layC nC yX7_event cX7_event 4 (some .int) (zRm 1 23) (fun ad => [.ref (ad 0), .int p1, .int p2, .int p3]) (f_X7_event p1 p2 p3) := zM_of (own := RX7) (by decide) rfl (fun ad w hw => by simp only [List.mem_cons, List.not_mem_nil, or_false] at hw; (first | exact hw.elim | (rcases hw with rfl | rfl | rfl | rfl <;> rfl))) (fun ad => Nat.le_of_ble_eq_true rfl) (fun Γ ad hC σ => w_X7_event hC p1 p2 p3 σ)
set_option maxRecDepth 100000 in
set_option maxHeartbeats 4000000 in
theorem w_X7_is {Γ : zG} {ad : Nat → Nat} (hC : zX Γ layC nC ad cX7_is RX7 3 (zRm 1 21) (some .int)) (p1 : Int32) (p2 : Int32) (σ : zS) : zK Γ layC nC ad 3 (some .int) 0 [some (.ref (ad 0)), some (.int p1), some (.int p2)] [] σ (f_X7_is p1 p2 σ) some := by
  unfold f_X7_is
  refine z_iload_n hC dX7_is_0 rfl ?_
  refine z_ite (fun h1 => ?_) (fun h1 => ?_)
  · refine z_tabIn hC 28 dX7_is_1 0 h1 (by decide) (by decide) rfl (by decide) ?_
    refine z_iload_n hC dX7_is_28 rfl ?_
    refine z_aload_n hC dX7_is_29 rfl ?_
    refine z_getr hC wf_X7_40 dX7_is_30 ltC_0 layC_0 rfl ?_
    refine z_geti hC wf_X7_179 dX7_is_33 ltC_21 layC_21 rfl ?_
    refine z_callSi hC [.int p2, .int (σ 21 0)] (c_X7_isThere p2 (σ 21 0)) yy_X7_isThere wl_X7_74 dX7_is_36 rfl rfl rfl (Nat.le_of_ble_eq_true rfl) (by decide) (fun r2 σ3 _ => ?_)
    refine z_if_eq hC 57 dX7_is_39 (by decide) (fun h4 => ?_) (fun h4 => ?_)
    · refine z_bipush hC dX7_is_57 kb_m2 ?_
      exact z_iret hC dX7_is_59
    · refine z_aload_n hC dX7_is_42 rfl ?_
      refine z_getr hC wf_X7_47 dX7_is_43 ltC_0 layC_0 rfl ?_
      refine z_getr hC wf_X7_186 dX7_is_46 ltC_24 layC_24 rfl ?_
      refine z_iload_n hC dX7_is_49 rfl ?_
      refine z_zald hC dX7_is_50 ltC_32 layC_32 (fun h5 => ?_)
      refine z_callSi hC [.int (σ3 32 p2.toNatClampNeg)] (c_X7_asNumber (σ3 32 p2.toNatClampNeg)) yy_X7_asNumber wl_X7_189 dX7_is_51 rfl rfl rfl (Nat.le_of_ble_eq_true rfl) (by decide) (fun r6 σ7 _ => ?_)
      refine z_goto hC 59 dX7_is_54 (by decide) ?_
      exact z_iret hC dX7_is_59
  refine z_ite (fun h8 => ?_) (fun h8 => ?_)
  · refine z_tabIn hC 60 dX7_is_1 1 h8 (by decide) (by decide) rfl (by decide) ?_
    refine z_iload_n hC dX7_is_60 rfl ?_
    refine z_aload_n hC dX7_is_61 rfl ?_
    refine z_getr hC wf_X7_12 dX7_is_62 ltC_0 layC_0 rfl ?_
    refine z_geti hC wf_X7_174 dX7_is_65 ltC_1 layC_1 rfl ?_
    refine z_callSi hC [.int p2, .int (σ 1 1)] (c_X7_isThere p2 (σ 1 1)) yy_X7_isThere wl_X7_74 dX7_is_68 rfl rfl rfl (Nat.le_of_ble_eq_true rfl) (by decide) (fun r9 σ10 _ => ?_)
    refine z_if_eq hC 97 dX7_is_71 (by decide) (fun h11 => ?_) (fun h11 => ?_)
    · refine z_bipush hC dX7_is_97 kb_m2 ?_
      exact z_iret hC dX7_is_99
    · refine z_aload_n hC dX7_is_74 rfl ?_
      refine z_getr hC wf_X7_47 dX7_is_75 ltC_0 layC_0 rfl ?_
      refine z_getr hC wf_X7_193 dX7_is_78 ltC_24 layC_24 rfl ?_
      refine z_iload_n hC dX7_is_81 rfl ?_
      refine z_zald hC dX7_is_82 ltC_28 layC_28 (fun h12 => ?_)
      refine z_if_ne hC 90 dX7_is_83 (by decide) (fun h13 => ?_) (fun h13 => ?_)
      · refine z_iconst hC dX7_is_90 ki_0 ?_
        refine z_callSi hC [.int 0] (c_X7_asNumber 0) yy_X7_asNumber wl_X7_189 dX7_is_91 rfl rfl rfl (Nat.le_of_ble_eq_true rfl) (by decide) (fun r14 σ15 _ => ?_)
        refine z_goto hC 99 dX7_is_94 (by decide) ?_
        exact z_iret hC dX7_is_99
      · refine z_iconst hC dX7_is_86 ki_1 ?_
        refine z_goto hC 91 dX7_is_87 (by decide) ?_
        refine z_callSi hC [.int 1] (c_X7_asNumber 1) yy_X7_asNumber wl_X7_189 dX7_is_91 rfl rfl rfl (Nat.le_of_ble_eq_true rfl) (by decide) (fun r16 σ17 _ => ?_)
        refine z_goto hC 99 dX7_is_94 (by decide) ?_
        exact z_iret hC dX7_is_99
  refine z_ite (fun h18 => ?_) (fun h18 => ?_)
  · refine z_tabIn hC 100 dX7_is_1 2 h18 (by decide) (by decide) rfl (by decide) ?_
    refine z_iload_n hC dX7_is_100 rfl ?_
    refine z_aload_n hC dX7_is_101 rfl ?_
    refine z_getr hC wf_X7_26 dX7_is_102 ltC_0 layC_0 rfl ?_
    refine z_geti hC wf_X7_177 dX7_is_105 ltC_11 layC_11 rfl ?_
    refine z_callSi hC [.int p2, .int (σ 11 0)] (c_X7_isThere p2 (σ 11 0)) yy_X7_isThere wl_X7_74 dX7_is_108 rfl rfl rfl (Nat.le_of_ble_eq_true rfl) (by decide) (fun r19 σ20 _ => ?_)
    refine z_if_eq hC 137 dX7_is_111 (by decide) (fun h21 => ?_) (fun h21 => ?_)
    · refine z_bipush hC dX7_is_137 kb_m2 ?_
      exact z_iret hC dX7_is_139
    · refine z_aload_n hC dX7_is_114 rfl ?_
      refine z_getr hC wf_X7_47 dX7_is_115 ltC_0 layC_0 rfl ?_
      refine z_getr hC wf_X7_196 dX7_is_118 ltC_24 layC_24 rfl ?_
      refine z_iload_n hC dX7_is_121 rfl ?_
      refine z_zald hC dX7_is_122 ltC_33 layC_33 (fun h22 => ?_)
      refine z_if_ne hC 130 dX7_is_123 (by decide) (fun h23 => ?_) (fun h23 => ?_)
      · refine z_iconst hC dX7_is_130 ki_0 ?_
        refine z_callSi hC [.int 0] (c_X7_asNumber 0) yy_X7_asNumber wl_X7_189 dX7_is_131 rfl rfl rfl (Nat.le_of_ble_eq_true rfl) (by decide) (fun r24 σ25 _ => ?_)
        refine z_goto hC 139 dX7_is_134 (by decide) ?_
        exact z_iret hC dX7_is_139
      · refine z_iconst hC dX7_is_126 ki_1 ?_
        refine z_goto hC 131 dX7_is_127 (by decide) ?_
        refine z_callSi hC [.int 1] (c_X7_asNumber 1) yy_X7_asNumber wl_X7_189 dX7_is_131 rfl rfl rfl (Nat.le_of_ble_eq_true rfl) (by decide) (fun r26 σ27 _ => ?_)
        refine z_goto hC 139 dX7_is_134 (by decide) ?_
        exact z_iret hC dX7_is_139
  refine z_tabOut hC 140 dX7_is_1 (by have := And.intro (lv_neT h1 (a := 0) (by decide)) (And.intro (lv_neT h8 (a := 1) (by decide)) (lv_neT h18 (a := 2) (by decide))); omega) (by decide) ?_
  refine z_bipush hC dX7_is_140 kb_m3 ?_
  exact z_iret hC dX7_is_142
theorem c_X7_is (p1 : Int32) (p2 : Int32) : zM layC nC yX7_is cX7_is 3 (some .int) (zRm 1 21) (fun ad => [.ref (ad 0), .int p1, .int p2]) (f_X7_is p1 p2) := zM_of (own := RX7) (by decide) rfl (fun ad w hw => by simp only [List.mem_cons, List.not_mem_nil, or_false] at hw; (first | exact hw.elim | (rcases hw with rfl | rfl | rfl <;> rfl))) (fun ad => Nat.le_of_ble_eq_true rfl) (fun Γ ad hC σ => w_X7_is hC p1 p2 σ)
set_option maxRecDepth 100000 in
set_option maxHeartbeats 4000000 in
theorem w_X7_left {Γ : zG} {ad : Nat → Nat} (hC : zX Γ layC nC ad cX7_left RX7 2 (zRm 1 21) (some .int)) (p1 : Int32) (σ : zS) : zK Γ layC nC ad 2 (some .int) 0 [some (.ref (ad 0)), some (.int p1)] [] σ (f_X7_left p1 σ) some := by
  unfold f_X7_left
  refine z_iload_n hC dX7_left_0 rfl ?_
  refine z_aload_n hC dX7_left_1 rfl ?_
  refine z_getr hC wf_X7_33 dX7_left_2 ltC_0 layC_0 rfl ?_
  refine z_geti hC wf_X7_178 dX7_left_5 ltC_17 layC_17 rfl ?_
  refine z_callSi hC [.int p1, .int (σ 17 0)] (c_X7_isThere p1 (σ 17 0)) yy_X7_isThere wl_X7_74 dX7_left_8 rfl rfl rfl (Nat.le_of_ble_eq_true rfl) (by decide) (fun r1 σ2 _ => ?_)
  refine z_if_eq hC 26 dX7_left_11 (by decide) (fun h3 => ?_) (fun h3 => ?_)
  · refine z_bipush hC dX7_left_26 kb_m2 ?_
    exact z_iret hC dX7_left_28
  · refine z_aload_n hC dX7_left_14 rfl ?_
    refine z_getr hC wf_X7_47 dX7_left_15 ltC_0 layC_0 rfl ?_
    refine z_getr hC wf_X7_183 dX7_left_18 ltC_24 layC_24 rfl ?_
    refine z_iload_n hC dX7_left_21 rfl ?_
    refine z_iald hC dX7_left_22 ltC_31 layC_31 (fun h4 => ?_)
    refine z_goto hC 28 dX7_left_23 (by decide) ?_
    exact z_iret hC dX7_left_28
theorem c_X7_left (p1 : Int32) : zM layC nC yX7_left cX7_left 2 (some .int) (zRm 1 21) (fun ad => [.ref (ad 0), .int p1]) (f_X7_left p1) := zM_of (own := RX7) (by decide) rfl (fun ad w hw => by simp only [List.mem_cons, List.not_mem_nil, or_false] at hw; (first | exact hw.elim | (rcases hw with rfl | rfl <;> rfl))) (fun ad => Nat.le_of_ble_eq_true rfl) (fun Γ ad hC σ => w_X7_left hC p1 σ)
set_option maxRecDepth 100000 in
set_option maxHeartbeats 4000000 in
theorem w_X7_minutes {Γ : zG} {ad : Nat → Nat} (hC : zX Γ layC nC ad cX7_minutes RX7 2 (zRm 1 22) (some .int)) (p1 : Int32) (σ : zS) : zK Γ layC nC ad 2 (some .int) 0 [some (.ref (ad 0)), some (.int p1)] [] σ (f_X7_minutes p1 σ) some := by
  unfold f_X7_minutes
  refine z_iload_n hC dX7_minutes_0 rfl ?_
  refine z_aload_n hC dX7_minutes_1 rfl ?_
  refine z_getr hC wf_X7_26 dX7_minutes_2 ltC_0 layC_0 rfl ?_
  refine z_geti hC wf_X7_177 dX7_minutes_5 ltC_11 layC_11 rfl ?_
  refine z_callSi hC [.int p1, .int (σ 11 0)] (c_X7_isThere p1 (σ 11 0)) yy_X7_isThere wl_X7_74 dX7_minutes_8 rfl rfl rfl (Nat.le_of_ble_eq_true rfl) (by decide) (fun r1 σ2 _ => ?_)
  refine z_if_ne hC 17 dX7_minutes_11 (by decide) (fun h3 => ?_) (fun h3 => ?_)
  · refine z_aload_n hC dX7_minutes_17 rfl ?_
    refine z_getr hC wf_X7_47 dX7_minutes_18 ltC_0 layC_0 rfl ?_
    refine z_getr hC wf_X7_196 dX7_minutes_21 ltC_24 layC_24 rfl ?_
    refine z_iload_n hC dX7_minutes_24 rfl ?_
    refine z_zald hC dX7_minutes_25 ltC_33 layC_33 (fun h4 => ?_)
    refine z_if_eq hC 33 dX7_minutes_26 (by decide) (fun h5 => ?_) (fun h5 => ?_)
    · refine z_aload_n hC dX7_minutes_33 rfl ?_
      refine z_aload_n hC dX7_minutes_34 rfl ?_
      refine z_getr hC wf_X7_26 dX7_minutes_35 ltC_0 layC_0 rfl ?_
      refine z_getr hC wf_X7_212 dX7_minutes_38 ltC_11 layC_11 rfl ?_
      refine z_iload_n hC dX7_minutes_41 rfl ?_
      refine z_iald hC dX7_minutes_42 ltC_13 layC_13 (fun h6 => ?_)
      refine z_callVi hC [.int (σ2 13 p1.toNatClampNeg)] (c_X7_minutesUntil (σ2 13 p1.toNatClampNeg)) yy_X7_minutesUntil wl_X7_215 dX7_minutes_43 ltC_0 layC_0 vcz_X7 rfl rfl rfl (Nat.le_of_ble_eq_true rfl) (by decide) (fun r7 σ8 _ => ?_)
      exact z_iret hC dX7_minutes_46
    · refine z_iconst hC dX7_minutes_29 ki_m1 ?_
      refine z_goto hC 46 dX7_minutes_30 (by decide) ?_
      exact z_iret hC dX7_minutes_46
  · refine z_bipush hC dX7_minutes_14 kb_m2 ?_
    exact z_iret hC dX7_minutes_16
theorem c_X7_minutes (p1 : Int32) : zM layC nC yX7_minutes cX7_minutes 2 (some .int) (zRm 1 22) (fun ad => [.ref (ad 0), .int p1]) (f_X7_minutes p1) := zM_of (own := RX7) (by decide) rfl (fun ad w hw => by simp only [List.mem_cons, List.not_mem_nil, or_false] at hw; (first | exact hw.elim | (rcases hw with rfl | rfl <;> rfl))) (fun ad => Nat.le_of_ble_eq_true rfl) (fun Γ ad hC σ => w_X7_minutes hC p1 σ)
set_option maxRecDepth 100000 in
set_option maxHeartbeats 4000000 in
theorem w_X7_moveWalker {Γ : zG} {ad : Nat → Nat} (hC : zX Γ layC nC ad cX7_moveWalker RX7 3 (zRm 3 73) none) (p1 : Int32) (σ : zS) : zK Γ layC nC ad 3 none 0 [some (.ref (ad 0)), some (.int p1), none] [] σ (f_X7_moveWalker p1 σ) some := by
  unfold f_X7_moveWalker
  refine z_aload_n hC dX7_moveWalker_0 rfl ?_
  refine z_getr hC wf_X7_12 dX7_moveWalker_1 ltC_0 layC_0 rfl ?_
  refine z_aload_n hC dX7_moveWalker_4 rfl ?_
  refine z_getr hC wf_X7_47 dX7_moveWalker_5 ltC_0 layC_0 rfl ?_
  refine z_getr hC wf_X7_88 dX7_moveWalker_8 ltC_24 layC_24 rfl ?_
  refine z_iload_n hC dX7_moveWalker_11 rfl ?_
  refine z_iald hC dX7_moveWalker_12 ltC_29 layC_29 (fun h1 => ?_)
  refine z_aload_n hC dX7_moveWalker_13 rfl ?_
  refine z_getr hC wf_X7_47 dX7_moveWalker_14 ltC_0 layC_0 rfl ?_
  refine z_getr hC wf_X7_92 dX7_moveWalker_17 ltC_24 layC_24 rfl ?_
  refine z_iload_n hC dX7_moveWalker_20 rfl ?_
  refine z_iald hC dX7_moveWalker_21 ltC_30 layC_30 (fun h2 => ?_)
  refine z_aload_n hC dX7_moveWalker_22 rfl ?_
  refine z_getr hC wf_X7_47 dX7_moveWalker_23 ltC_0 layC_0 rfl ?_
  refine z_getr hC wf_X7_193 dX7_moveWalker_26 ltC_24 layC_24 rfl ?_
  refine z_callVi hC [.int (σ 29 p1.toNatClampNeg), .int (σ 30 p1.toNatClampNeg), .ref (ad 28)] (c_X3_nextRoom (σ 29 p1.toNatClampNeg) (σ 30 p1.toNatClampNeg)) yy_X3_nextRoom wl_X7_265 dX7_moveWalker_29 ltC_1 layC_1 vcz_X3 rfl rfl rfl (Nat.le_of_ble_eq_true rfl) (by decide) (fun r3 σ4 _ => ?_)
  refine z_istore_n hC dX7_moveWalker_32 (lv' := [some (.ref (ad 0)), some (.int p1), some (.int r3)]) (by decide) rfl ?_
  refine z_iload_n hC dX7_moveWalker_33 rfl ?_
  refine z_iconst hC dX7_moveWalker_34 ki_m1 ?_
  refine z_icmp_ne hC 39 dX7_moveWalker_35 (by decide) (fun h5 => ?_) (fun h5 => ?_)
  · refine z_aload_n hC dX7_moveWalker_39 rfl ?_
    refine z_getr hC wf_X7_47 dX7_moveWalker_40 ltC_0 layC_0 rfl ?_
    refine z_getr hC wf_X7_88 dX7_moveWalker_43 ltC_24 layC_24 rfl ?_
    refine z_iload_n hC dX7_moveWalker_46 rfl ?_
    refine z_iload_n hC dX7_moveWalker_47 rfl ?_
    refine z_iast hC dX7_moveWalker_48 ltC_29 layC_29 (fun h6 => ?_)
    refine z_let (fun σ7 _ => ?_)
    refine z_iload_n hC dX7_moveWalker_49 rfl ?_
    refine z_aload_n hC dX7_moveWalker_50 rfl ?_
    refine z_getr hC wf_X7_47 dX7_moveWalker_51 ltC_0 layC_0 rfl ?_
    refine z_getr hC wf_X7_92 dX7_moveWalker_54 ltC_24 layC_24 rfl ?_
    refine z_iload_n hC dX7_moveWalker_57 rfl ?_
    refine z_iald hC dX7_moveWalker_58 ltC_30 layC_30 (fun h8 => ?_)
    refine z_icmp_ne hC 72 dX7_moveWalker_59 (by decide) (fun h9 => ?_) (fun h9 => ?_)
    · refine z_aload_n hC dX7_moveWalker_72 rfl ?_
      refine z_getr hC wf_X7_47 dX7_moveWalker_73 ltC_0 layC_0 rfl ?_
      refine z_iconst hC dX7_moveWalker_76 ki_3 ?_
      refine z_iload_n hC dX7_moveWalker_77 rfl ?_
      refine z_callVv hC [.int 3, .int p1] (c_X4_addRow 3 p1) yy_X4_addRow wl_X7_238 dX7_moveWalker_78 ltC_24 layC_24 vcz_X4 rfl rfl rfl (Nat.le_of_ble_eq_true rfl) (by decide) (fun r10 σ11 _ => ?_)
      exact z_vret hC dX7_moveWalker_81
    · refine z_aload_n hC dX7_moveWalker_62 rfl ?_
      refine z_getr hC wf_X7_47 dX7_moveWalker_63 ltC_0 layC_0 rfl ?_
      refine z_getr hC wf_X7_92 dX7_moveWalker_66 ltC_24 layC_24 rfl ?_
      refine z_iload_n hC dX7_moveWalker_69 rfl ?_
      refine z_iconst hC dX7_moveWalker_70 ki_m1 ?_
      refine z_iast hC dX7_moveWalker_71 ltC_30 layC_30 (fun h12 => ?_)
      refine z_let (fun σ13 _ => ?_)
      refine z_aload_n hC dX7_moveWalker_72 rfl ?_
      refine z_getr hC wf_X7_47 dX7_moveWalker_73 ltC_0 layC_0 rfl ?_
      refine z_iconst hC dX7_moveWalker_76 ki_3 ?_
      refine z_iload_n hC dX7_moveWalker_77 rfl ?_
      refine z_callVv hC [.int 3, .int p1] (c_X4_addRow 3 p1) yy_X4_addRow wl_X7_238 dX7_moveWalker_78 ltC_24 layC_24 vcz_X4 rfl rfl rfl (Nat.le_of_ble_eq_true rfl) (by decide) (fun r14 σ15 _ => ?_)
      exact z_vret hC dX7_moveWalker_81
  · exact z_vret hC dX7_moveWalker_38
theorem c_X7_moveWalker (p1 : Int32) : zM layC nC yX7_moveWalker cX7_moveWalker 3 none (zRm 3 73) (fun ad => [.ref (ad 0), .int p1]) (f_X7_moveWalker p1) := zM_of (own := RX7) (by decide) rfl (fun ad w hw => by simp only [List.mem_cons, List.not_mem_nil, or_false] at hw; (first | exact hw.elim | (rcases hw with rfl | rfl <;> rfl))) (fun ad => Nat.le_of_ble_eq_true rfl) (fun Γ ad hC σ => w_X7_moveWalker hC p1 σ)
set_option maxRecDepth 100000 in
set_option maxHeartbeats 4000000 in
theorem t_X7_moveWalkers_L2 {Γ : zG} {ad : Nat → Nat} (hC : zX Γ layC nC ad cX7_moveWalkers RX7 2 (zRm 4 95) none) (a0 : Int32 × zS) (K : Bool × (Int32 × zS) → Option (Int32 × zS)) (hc : ∀ (x0 : Int32) (s' : zS), zZ Γ layC nC ad 2 none 2 [some (.ref (ad 0)), some (.int x0)] [] s' (K (true, (x0, s')))) (hx : ∀ (x0 : Int32) (s' : zS), zZ Γ layC nC ad 2 none 44 [some (.ref (ad 0)), some (.int x0)] [] s' (K (false, (x0, s')))) : zK Γ layC nC ad 2 none 2 [some (.ref (ad 0)), some (.int a0.1)] [] (a0.2) (b_X7_moveWalkers_L2 a0) K := by
  unfold b_X7_moveWalkers_L2
  refine z_iload_n hC dX7_moveWalkers_2 rfl ?_
  refine z_aload_n hC dX7_moveWalkers_3 rfl ?_
  refine z_getr hC wf_X7_12 dX7_moveWalkers_4 ltC_0 layC_0 rfl ?_
  refine z_geti hC wf_X7_85 dX7_moveWalkers_7 ltC_1 layC_1 rfl ?_
  refine z_icmp_ge hC 44 dX7_moveWalkers_10 (by decide) (fun h1 => ?_) (fun h1 => ?_)
  · exact z_leaf (hx a0.1 a0.2)
  · refine z_aload_n hC dX7_moveWalkers_13 rfl ?_
    refine z_geti hC wf_X7_145 dX7_moveWalkers_14 ltC_0 layC_0 rfl ?_
    refine z_if_ne hC 44 dX7_moveWalkers_17 (by decide) (fun h2 => ?_) (fun h2 => ?_)
    · exact z_leaf (hx a0.1 a0.2)
    · refine z_aload_n hC dX7_moveWalkers_20 rfl ?_
      refine z_getr hC wf_X7_47 dX7_moveWalkers_21 ltC_0 layC_0 rfl ?_
      refine z_getr hC wf_X7_92 dX7_moveWalkers_24 ltC_24 layC_24 rfl ?_
      refine z_iload_n hC dX7_moveWalkers_27 rfl ?_
      refine z_iald hC dX7_moveWalkers_28 ltC_30 layC_30 (fun h3 => ?_)
      refine z_iconst hC dX7_moveWalkers_29 ki_m1 ?_
      refine z_icmp_eq hC 38 dX7_moveWalkers_30 (by decide) (fun h4 => ?_) (fun h4 => ?_)
      · refine z_iinc hC dX7_moveWalkers_38 (lv' := [some (.ref (ad 0)), some (.int (a0.1 + 1))]) rfl (by decide) ki_1 rfl ?_
        refine z_goto hC 2 dX7_moveWalkers_41 (by decide) ?_
        exact z_leaf (hc (a0.1 + 1) a0.2)
      · refine z_aload_n hC dX7_moveWalkers_33 rfl ?_
        refine z_iload_n hC dX7_moveWalkers_34 rfl ?_
        refine z_callVv hC [.int a0.1] (c_X7_moveWalker a0.1) yy_X7_moveWalker wl_X7_262 dX7_moveWalkers_35 ltC_0 layC_0 vcz_X7 rfl rfl rfl (Nat.le_of_ble_eq_true rfl) (by decide) (fun r5 σ6 _ => ?_)
        refine z_iinc hC dX7_moveWalkers_38 (lv' := [some (.ref (ad 0)), some (.int (a0.1 + 1))]) rfl (by decide) ki_1 rfl ?_
        refine z_goto hC 2 dX7_moveWalkers_41 (by decide) ?_
        exact z_leaf (hc (a0.1 + 1) σ6)
set_option maxRecDepth 100000 in
set_option maxHeartbeats 4000000 in
theorem w_X7_moveWalkers {Γ : zG} {ad : Nat → Nat} (hC : zX Γ layC nC ad cX7_moveWalkers RX7 2 (zRm 4 95) none) (σ : zS) : zK Γ layC nC ad 2 none 0 [some (.ref (ad 0)), none] [] σ (f_X7_moveWalkers σ) some := by
  unfold f_X7_moveWalkers
  refine z_iconst hC dX7_moveWalkers_0 ki_0 ?_
  refine z_istore_n hC dX7_moveWalkers_1 (lv' := [some (.ref (ad 0)), some (.int 0)]) (by decide) rfl ?_
  refine z_lpb (lvf := fun z : Int32 × zS => [some (.ref (ad 0)), some (.int z.1)]) (sg := fun z => z.2) (x := 44) zfuel (0, σ) rfl rfl (fun z K hc hx => t_X7_moveWalkers_L2 hC z K (fun x0 s' => hc (x0, s')) (fun x0 s' => hx (x0, s'))) (fun a7 => ?_)
  exact z_vret hC dX7_moveWalkers_44
theorem c_X7_moveWalkers : zM layC nC yX7_moveWalkers cX7_moveWalkers 2 none (zRm 4 95) (fun ad => [.ref (ad 0)]) (f_X7_moveWalkers) := zM_of (own := RX7) (by decide) rfl (fun ad w hw => by simp only [List.mem_cons, List.not_mem_nil, or_false] at hw; (first | exact hw.elim | (rcases hw with rfl <;> rfl))) (fun ad => Nat.le_of_ble_eq_true rfl) (fun Γ ad hC σ => w_X7_moveWalkers hC σ)
end
section
set_option maxRecDepth 100000 in
set_option maxHeartbeats 4000000 in
theorem w_X7_pace {Γ : zG} {ad : Nat → Nat} (hC : zX Γ layC nC ad cX7_pace RX7 3 (zRm 1 22) (some .int)) (p1 : Int32) (σ : zS) : zK Γ layC nC ad 3 (some .int) 0 [some (.ref (ad 0)), some (.int p1), none] [] σ (f_X7_pace p1 σ) some := by
  unfold f_X7_pace
  refine z_iload_n hC dX7_pace_0 rfl ?_
  refine z_iconst hC dX7_pace_1 ki_1 ?_
  refine z_bipush hC dX7_pace_2 kb_60 ?_
  refine z_callSi hC [.int p1, .int 1, .int 60] (c_X7_isWithin p1 1 60) yy_X7_isWithin wl_X7_95 dX7_pace_4 rfl rfl rfl (Nat.le_of_ble_eq_true rfl) (by decide) (fun r1 σ2 _ => ?_)
  refine z_if_ne hC 13 dX7_pace_7 (by decide) (fun h3 => ?_) (fun h3 => ?_)
  · refine z_aload_n hC dX7_pace_13 rfl ?_
    refine z_getr hC wf_X7_47 dX7_pace_14 ltC_0 layC_0 rfl ?_
    refine z_geti hC wf_X7_132 dX7_pace_17 ltC_24 layC_24 rfl ?_
    refine z_istore_n hC dX7_pace_20 (lv' := [some (.ref (ad 0)), some (.int p1), some (.int (σ2 24 3))]) (by decide) rfl ?_
    refine z_aload_n hC dX7_pace_21 rfl ?_
    refine z_getr hC wf_X7_47 dX7_pace_22 ltC_0 layC_0 rfl ?_
    refine z_iload_n hC dX7_pace_25 rfl ?_
    refine z_puti hC wp_X7_132 dX7_pace_26 ltC_24 layC_24 rfl ?_
    refine z_let (fun σ4 _ => ?_)
    refine z_aload_n hC dX7_pace_29 rfl ?_
    refine z_iload_n hC dX7_pace_30 rfl ?_
    refine z_callVi hC [.int (σ2 24 3)] (c_X7_closePast (σ2 24 3)) yy_X7_closePast wl_X7_66 dX7_pace_31 ltC_0 layC_0 vcz_X7 rfl rfl rfl (Nat.le_of_ble_eq_true rfl) (by decide) (fun r5 σ6 _ => ?_)
    exact z_iret hC dX7_pace_34
  · refine z_bipush hC dX7_pace_10 kb_m3 ?_
    exact z_iret hC dX7_pace_12
theorem c_X7_pace (p1 : Int32) : zM layC nC yX7_pace cX7_pace 3 (some .int) (zRm 1 22) (fun ad => [.ref (ad 0), .int p1]) (f_X7_pace p1) := zM_of (own := RX7) (by decide) rfl (fun ad w hw => by simp only [List.mem_cons, List.not_mem_nil, or_false] at hw; (first | exact hw.elim | (rcases hw with rfl | rfl <;> rfl))) (fun ad => Nat.le_of_ble_eq_true rfl) (fun Γ ad hC σ => w_X7_pace hC p1 σ)
set_option maxRecDepth 100000 in
set_option maxHeartbeats 4000000 in
theorem w_X7_room {Γ : zG} {ad : Nat → Nat} (hC : zX Γ layC nC ad cX7_room RX7 1 (zRm 1 21) (some .int)) (σ : zS) : zK Γ layC nC ad 1 (some .int) 0 [some (.ref (ad 0))] [] σ (f_X7_room σ) some := by
  unfold f_X7_room
  refine z_aload_n hC dX7_room_0 rfl ?_
  refine z_aload_n hC dX7_room_1 rfl ?_
  refine z_getr hC wf_X7_12 dX7_room_2 ltC_0 layC_0 rfl ?_
  refine z_callVi hC [] c_X3_addRoom yy_X3_addRoom wl_X7_62 dX7_room_5 ltC_1 layC_1 vcz_X3 rfl rfl rfl (Nat.le_of_ble_eq_true rfl) (by decide) (fun r1 σ2 _ => ?_)
  refine z_callVi hC [.int r1] (c_X7_closePast r1) yy_X7_closePast wl_X7_66 dX7_room_8 ltC_0 layC_0 vcz_X7 rfl rfl rfl (Nat.le_of_ble_eq_true rfl) (by decide) (fun r3 σ4 _ => ?_)
  exact z_iret hC dX7_room_11
theorem c_X7_room : zM layC nC yX7_room cX7_room 1 (some .int) (zRm 1 21) (fun ad => [.ref (ad 0)]) (f_X7_room) := zM_of (own := RX7) (by decide) rfl (fun ad w hw => by simp only [List.mem_cons, List.not_mem_nil, or_false] at hw; (first | exact hw.elim | (rcases hw with rfl <;> rfl))) (fun ad => Nat.le_of_ble_eq_true rfl) (fun Γ ad hC σ => w_X7_room hC σ)
set_option maxRecDepth 100000 in
set_option maxHeartbeats 4000000 in
theorem w_X7_row {Γ : zG} {ad : Nat → Nat} (hC : zX Γ layC nC ad cX7_row RX7 3 (zRm 1 22) (some .int)) (p1 : Int32) (p2 : Int32) (σ : zS) : zK Γ layC nC ad 3 (some .int) 0 [some (.ref (ad 0)), some (.int p1), some (.int p2)] [] σ (f_X7_row p1 p2 σ) some := by
  unfold f_X7_row
  refine z_iload_n hC dX7_row_0 rfl ?_
  refine z_iconst hC dX7_row_1 ki_0 ?_
  refine z_iconst hC dX7_row_2 ki_1 ?_
  refine z_callSi hC [.int p2, .int 0, .int 1] (c_X7_isWithin p2 0 1) yy_X7_isWithin wl_X7_95 dX7_row_3 rfl rfl rfl (Nat.le_of_ble_eq_true rfl) (by decide) (fun r1 σ2 _ => ?_)
  refine z_if_ne hC 12 dX7_row_6 (by decide) (fun h3 => ?_) (fun h3 => ?_)
  · refine z_iload_n hC dX7_row_12 rfl ?_
    refine z_aload_n hC dX7_row_13 rfl ?_
    refine z_getr hC wf_X7_47 dX7_row_14 ltC_0 layC_0 rfl ?_
    refine z_geti hC wf_X7_142 dX7_row_17 ltC_24 layC_24 rfl ?_
    refine z_callSi hC [.int p1, .int (σ2 24 5)] (c_X7_isThere p1 (σ2 24 5)) yy_X7_isThere wl_X7_74 dX7_row_20 rfl rfl rfl (Nat.le_of_ble_eq_true rfl) (by decide) (fun r4 σ5 _ => ?_)
    refine z_if_ne hC 28 dX7_row_23 (by decide) (fun h6 => ?_) (fun h6 => ?_)
    · refine z_iload_n hC dX7_row_28 rfl ?_
      refine z_if_ne hC 44 dX7_row_29 (by decide) (fun h7 => ?_) (fun h7 => ?_)
      · refine z_aload_n hC dX7_row_44 rfl ?_
        refine z_getr hC wf_X7_47 dX7_row_45 ltC_0 layC_0 rfl ?_
        refine z_getr hC wf_X7_209 dX7_row_48 ltC_24 layC_24 rfl ?_
        refine z_iload_n hC dX7_row_51 rfl ?_
        refine z_iald hC dX7_row_52 ltC_26 layC_26 (fun h8 => ?_)
        exact z_iret hC dX7_row_53
      · refine z_aload_n hC dX7_row_32 rfl ?_
        refine z_getr hC wf_X7_47 dX7_row_33 ltC_0 layC_0 rfl ?_
        refine z_getr hC wf_X7_206 dX7_row_36 ltC_24 layC_24 rfl ?_
        refine z_iload_n hC dX7_row_39 rfl ?_
        refine z_iald hC dX7_row_40 ltC_25 layC_25 (fun h9 => ?_)
        refine z_goto hC 53 dX7_row_41 (by decide) ?_
        exact z_iret hC dX7_row_53
    · refine z_iconst hC dX7_row_26 ki_m1 ?_
      exact z_iret hC dX7_row_27
  · refine z_bipush hC dX7_row_9 kb_m3 ?_
    exact z_iret hC dX7_row_11
theorem c_X7_row (p1 : Int32) (p2 : Int32) : zM layC nC yX7_row cX7_row 3 (some .int) (zRm 1 22) (fun ad => [.ref (ad 0), .int p1, .int p2]) (f_X7_row p1 p2) := zM_of (own := RX7) (by decide) rfl (fun ad w hw => by simp only [List.mem_cons, List.not_mem_nil, or_false] at hw; (first | exact hw.elim | (rcases hw with rfl | rfl | rfl <;> rfl))) (fun ad => Nat.le_of_ble_eq_true rfl) (fun Γ ad hC σ => w_X7_row hC p1 p2 σ)
set_option maxRecDepth 100000 in
set_option maxHeartbeats 4000000 in
theorem t_X7_runDaemonsOf_L2 {Γ : zG} {ad : Nat → Nat} (hC : zX Γ layC nC ad cX7_runDaemonsOf RX7 3 (zRm 5 108) none) (c1 : Int32) (a0 : Int32 × zS) (K : Bool × (Int32 × zS) → Option (Int32 × zS)) (hc : ∀ (x0 : Int32) (s' : zS), zZ Γ layC nC ad 3 none 2 [some (.ref (ad 0)), some (.int c1), some (.int x0)] [] s' (K (true, (x0, s')))) (hx : ∀ (x0 : Int32) (s' : zS), zZ Γ layC nC ad 3 none 74 [some (.ref (ad 0)), some (.int c1), some (.int x0)] [] s' (K (false, (x0, s')))) : zK Γ layC nC ad 3 none 2 [some (.ref (ad 0)), some (.int c1), some (.int a0.1)] [] (a0.2) (b_X7_runDaemonsOf_L2 c1 a0) K := by
  unfold b_X7_runDaemonsOf_L2
  refine z_iload_n hC dX7_runDaemonsOf_2 rfl ?_
  refine z_aload_n hC dX7_runDaemonsOf_3 rfl ?_
  refine z_getr hC wf_X7_40 dX7_runDaemonsOf_4 ltC_0 layC_0 rfl ?_
  refine z_geti hC wf_X7_179 dX7_runDaemonsOf_7 ltC_21 layC_21 rfl ?_
  refine z_icmp_ge hC 74 dX7_runDaemonsOf_10 (by decide) (fun h1 => ?_) (fun h1 => ?_)
  · exact z_leaf (hx a0.1 a0.2)
  · refine z_aload_n hC dX7_runDaemonsOf_13 rfl ?_
    refine z_geti hC wf_X7_145 dX7_runDaemonsOf_14 ltC_0 layC_0 rfl ?_
    refine z_if_ne hC 74 dX7_runDaemonsOf_17 (by decide) (fun h2 => ?_) (fun h2 => ?_)
    · exact z_leaf (hx a0.1 a0.2)
    · refine z_aload_n hC dX7_runDaemonsOf_20 rfl ?_
      refine z_getr hC wf_X7_40 dX7_runDaemonsOf_21 ltC_0 layC_0 rfl ?_
      refine z_getr hC wf_X7_258 dX7_runDaemonsOf_24 ltC_21 layC_21 rfl ?_
      refine z_iload_n hC dX7_runDaemonsOf_27 rfl ?_
      refine z_iald hC dX7_runDaemonsOf_28 ltC_23 layC_23 (fun h3 => ?_)
      refine z_iload_n hC dX7_runDaemonsOf_29 rfl ?_
      refine z_icmp_ne hC 68 dX7_runDaemonsOf_30 (by decide) (fun h4 => ?_) (fun h4 => ?_)
      · refine z_iinc hC dX7_runDaemonsOf_68 (lv' := [some (.ref (ad 0)), some (.int c1), some (.int (a0.1 + 1))]) rfl (by decide) ki_1 rfl ?_
        refine z_goto hC 2 dX7_runDaemonsOf_71 (by decide) ?_
        exact z_leaf (hc (a0.1 + 1) a0.2)
      · refine z_aload_n hC dX7_runDaemonsOf_33 rfl ?_
        refine z_getr hC wf_X7_47 dX7_runDaemonsOf_34 ltC_0 layC_0 rfl ?_
        refine z_getr hC wf_X7_186 dX7_runDaemonsOf_37 ltC_24 layC_24 rfl ?_
        refine z_iload_n hC dX7_runDaemonsOf_40 rfl ?_
        refine z_zald hC dX7_runDaemonsOf_41 ltC_32 layC_32 (fun h5 => ?_)
        refine z_if_eq hC 68 dX7_runDaemonsOf_42 (by decide) (fun h6 => ?_) (fun h6 => ?_)
        · refine z_iinc hC dX7_runDaemonsOf_68 (lv' := [some (.ref (ad 0)), some (.int c1), some (.int (a0.1 + 1))]) rfl (by decide) ki_1 rfl ?_
          refine z_goto hC 2 dX7_runDaemonsOf_71 (by decide) ?_
          exact z_leaf (hc (a0.1 + 1) a0.2)
        · refine z_aload_n hC dX7_runDaemonsOf_45 rfl ?_
          refine z_getr hC wf_X7_47 dX7_runDaemonsOf_46 ltC_0 layC_0 rfl ?_
          refine z_iconst hC dX7_runDaemonsOf_49 ki_2 ?_
          refine z_iload_n hC dX7_runDaemonsOf_50 rfl ?_
          refine z_callVv hC [.int 2, .int a0.1] (c_X4_addRow 2 a0.1) yy_X4_addRow wl_X7_238 dX7_runDaemonsOf_51 ltC_24 layC_24 vcz_X4 rfl rfl rfl (Nat.le_of_ble_eq_true rfl) (by decide) (fun r7 σ8 _ => ?_)
          refine z_aload_n hC dX7_runDaemonsOf_54 rfl ?_
          refine z_aload_n hC dX7_runDaemonsOf_55 rfl ?_
          refine z_getr hC wf_X7_40 dX7_runDaemonsOf_56 ltC_0 layC_0 rfl ?_
          refine z_getr hC wf_X7_261 dX7_runDaemonsOf_59 ltC_21 layC_21 rfl ?_
          refine z_iload_n hC dX7_runDaemonsOf_62 rfl ?_
          refine z_iald hC dX7_runDaemonsOf_63 ltC_22 layC_22 (fun h9 => ?_)
          refine z_callVi hC [.int (σ8 22 a0.1.toNatClampNeg)] (c_X7_doDeed (σ8 22 a0.1.toNatClampNeg)) yy_X7_doDeed wl_X7_129 dX7_runDaemonsOf_64 ltC_0 layC_0 vcz_X7 rfl rfl rfl (Nat.le_of_ble_eq_true rfl) (by decide) (fun r10 σ11 _ => ?_)
          refine z_pop hC dX7_runDaemonsOf_67 rfl ?_
          refine z_iinc hC dX7_runDaemonsOf_68 (lv' := [some (.ref (ad 0)), some (.int c1), some (.int (a0.1 + 1))]) rfl (by decide) ki_1 rfl ?_
          refine z_goto hC 2 dX7_runDaemonsOf_71 (by decide) ?_
          exact z_leaf (hc (a0.1 + 1) σ11)
set_option maxRecDepth 100000 in
set_option maxHeartbeats 4000000 in
theorem w_X7_runDaemonsOf {Γ : zG} {ad : Nat → Nat} (hC : zX Γ layC nC ad cX7_runDaemonsOf RX7 3 (zRm 5 108) none) (p1 : Int32) (σ : zS) : zK Γ layC nC ad 3 none 0 [some (.ref (ad 0)), some (.int p1), none] [] σ (f_X7_runDaemonsOf p1 σ) some := by
  unfold f_X7_runDaemonsOf
  refine z_iconst hC dX7_runDaemonsOf_0 ki_0 ?_
  refine z_istore_n hC dX7_runDaemonsOf_1 (lv' := [some (.ref (ad 0)), some (.int p1), some (.int 0)]) (by decide) rfl ?_
  refine z_lpb (lvf := fun z : Int32 × zS => [some (.ref (ad 0)), some (.int p1), some (.int z.1)]) (sg := fun z => z.2) (x := 74) zfuel (0, σ) rfl rfl (fun z K hc hx => t_X7_runDaemonsOf_L2 hC p1 z K (fun x0 s' => hc (x0, s')) (fun x0 s' => hx (x0, s'))) (fun a12 => ?_)
  exact z_vret hC dX7_runDaemonsOf_74
theorem c_X7_runDaemonsOf (p1 : Int32) : zM layC nC yX7_runDaemonsOf cX7_runDaemonsOf 3 none (zRm 5 108) (fun ad => [.ref (ad 0), .int p1]) (f_X7_runDaemonsOf p1) := zM_of (own := RX7) (by decide) rfl (fun ad w hw => by simp only [List.mem_cons, List.not_mem_nil, or_false] at hw; (first | exact hw.elim | (rcases hw with rfl | rfl <;> rfl))) (fun ad => Nat.le_of_ble_eq_true rfl) (fun Γ ad hC σ => w_X7_runDaemonsOf hC p1 σ)
set_option maxRecDepth 100000 in
set_option maxHeartbeats 4000000 in
theorem t_X7_runDaemons_L2 {Γ : zG} {ad : Nat → Nat} (hC : zX Γ layC nC ad cX7_runDaemons RX7 2 (zRm 6 130) none) (a0 : Int32 × zS) (K : Bool × (Int32 × zS) → Option (Int32 × zS)) (hc : ∀ (x0 : Int32) (s' : zS), zZ Γ layC nC ad 2 none 2 [some (.ref (ad 0)), some (.int x0)] [] s' (K (true, (x0, s')))) (hx : ∀ (x0 : Int32) (s' : zS), zZ Γ layC nC ad 2 none 19 [some (.ref (ad 0)), some (.int x0)] [] s' (K (false, (x0, s')))) : zK Γ layC nC ad 2 none 2 [some (.ref (ad 0)), some (.int a0.1)] [] (a0.2) (b_X7_runDaemons_L2 a0) K := by
  unfold b_X7_runDaemons_L2
  refine z_iload_n hC dX7_runDaemons_2 rfl ?_
  refine z_bipush hC dX7_runDaemons_3 kb_9 ?_
  refine z_icmp_gt hC 19 dX7_runDaemons_5 (by decide) (fun h1 => ?_) (fun h1 => ?_)
  · exact z_leaf (hx a0.1 a0.2)
  · refine z_aload_n hC dX7_runDaemons_8 rfl ?_
    refine z_iload_n hC dX7_runDaemons_9 rfl ?_
    refine z_callVv hC [.int a0.1] (c_X7_runDaemonsOf a0.1) yy_X7_runDaemonsOf wl_X7_255 dX7_runDaemons_10 ltC_0 layC_0 vcz_X7 rfl rfl rfl (Nat.le_of_ble_eq_true rfl) (by decide) (fun r2 σ3 _ => ?_)
    refine z_iinc hC dX7_runDaemons_13 (lv' := [some (.ref (ad 0)), some (.int (a0.1 + 1))]) rfl (by decide) ki_1 rfl ?_
    refine z_goto hC 2 dX7_runDaemons_16 (by decide) ?_
    exact z_leaf (hc (a0.1 + 1) σ3)
set_option maxRecDepth 100000 in
set_option maxHeartbeats 4000000 in
theorem w_X7_runDaemons {Γ : zG} {ad : Nat → Nat} (hC : zX Γ layC nC ad cX7_runDaemons RX7 2 (zRm 6 130) none) (σ : zS) : zK Γ layC nC ad 2 none 0 [some (.ref (ad 0)), none] [] σ (f_X7_runDaemons σ) some := by
  unfold f_X7_runDaemons
  refine z_iconst hC dX7_runDaemons_0 ki_0 ?_
  refine z_istore_n hC dX7_runDaemons_1 (lv' := [some (.ref (ad 0)), some (.int 0)]) (by decide) rfl ?_
  refine z_lpb (lvf := fun z : Int32 × zS => [some (.ref (ad 0)), some (.int z.1)]) (sg := fun z => z.2) (x := 19) zfuel (0, σ) rfl rfl (fun z K hc hx => t_X7_runDaemons_L2 hC z K (fun x0 s' => hc (x0, s')) (fun x0 s' => hx (x0, s'))) (fun a4 => ?_)
  exact z_vret hC dX7_runDaemons_19
theorem c_X7_runDaemons : zM layC nC yX7_runDaemons cX7_runDaemons 2 none (zRm 6 130) (fun ad => [.ref (ad 0)]) (f_X7_runDaemons) := zM_of (own := RX7) (by decide) rfl (fun ad w hw => by simp only [List.mem_cons, List.not_mem_nil, or_false] at hw; (first | exact hw.elim | (rcases hw with rfl <;> rfl))) (fun ad => Nat.le_of_ble_eq_true rfl) (fun Γ ad hC σ => w_X7_runDaemons hC σ)
set_option maxRecDepth 100000 in
set_option maxHeartbeats 4000000 in
theorem w_X7_runTimer {Γ : zG} {ad : Nat → Nat} (hC : zX Γ layC nC ad cX7_runTimer RX7 2 (zRm 5 108) none) (p1 : Int32) (σ : zS) : zK Γ layC nC ad 2 none 0 [some (.ref (ad 0)), some (.int p1)] [] σ (f_X7_runTimer p1 σ) some := by
  unfold f_X7_runTimer
  refine z_aload_n hC dX7_runTimer_0 rfl ?_
  refine z_getr hC wf_X7_47 dX7_runTimer_1 ltC_0 layC_0 rfl ?_
  refine z_getr hC wf_X7_183 dX7_runTimer_4 ltC_24 layC_24 rfl ?_
  refine z_iload_n hC dX7_runTimer_7 rfl ?_
  refine z_dup2 hC dX7_runTimer_8 rfl rfl ?_
  refine z_iald hC dX7_runTimer_9 ltC_31 layC_31 (fun h1 => ?_)
  refine z_iconst hC dX7_runTimer_10 ki_1 ?_
  refine z_isub hC dX7_runTimer_11 ?_
  refine z_iast hC dX7_runTimer_12 ltC_31 layC_31 (fun h2 => ?_)
  refine z_let (fun σ3 _ => ?_)
  refine z_aload_n hC dX7_runTimer_13 rfl ?_
  refine z_getr hC wf_X7_47 dX7_runTimer_14 ltC_0 layC_0 rfl ?_
  refine z_getr hC wf_X7_183 dX7_runTimer_17 ltC_24 layC_24 rfl ?_
  refine z_iload_n hC dX7_runTimer_20 rfl ?_
  refine z_iald hC dX7_runTimer_21 ltC_31 layC_31 (fun h4 => ?_)
  refine z_if_le hC 26 dX7_runTimer_22 (by decide) (fun h5 => ?_) (fun h5 => ?_)
  · refine z_aload_n hC dX7_runTimer_26 rfl ?_
    refine z_getr hC wf_X7_33 dX7_runTimer_27 ltC_0 layC_0 rfl ?_
    refine z_getr hC wf_X7_248 dX7_runTimer_30 ltC_17 layC_17 rfl ?_
    refine z_iload_n hC dX7_runTimer_33 rfl ?_
    refine z_zald hC dX7_runTimer_34 ltC_20 layC_20 (fun h6 => ?_)
    refine z_if_eq hC 56 dX7_runTimer_35 (by decide) (fun h7 => ?_) (fun h7 => ?_)
    · refine z_aload_n hC dX7_runTimer_56 rfl ?_
      refine z_getr hC wf_X7_47 dX7_runTimer_57 ltC_0 layC_0 rfl ?_
      refine z_iconst hC dX7_runTimer_60 ki_1 ?_
      refine z_iload_n hC dX7_runTimer_61 rfl ?_
      refine z_callVv hC [.int 1, .int p1] (c_X4_addRow 1 p1) yy_X4_addRow wl_X7_238 dX7_runTimer_62 ltC_24 layC_24 vcz_X4 rfl rfl rfl (Nat.le_of_ble_eq_true rfl) (by decide) (fun r8 σ9 _ => ?_)
      refine z_aload_n hC dX7_runTimer_65 rfl ?_
      refine z_aload_n hC dX7_runTimer_66 rfl ?_
      refine z_getr hC wf_X7_33 dX7_runTimer_67 ltC_0 layC_0 rfl ?_
      refine z_getr hC wf_X7_254 dX7_runTimer_70 ltC_17 layC_17 rfl ?_
      refine z_iload_n hC dX7_runTimer_73 rfl ?_
      refine z_iald hC dX7_runTimer_74 ltC_18 layC_18 (fun h10 => ?_)
      refine z_callVi hC [.int (σ9 18 p1.toNatClampNeg)] (c_X7_doDeed (σ9 18 p1.toNatClampNeg)) yy_X7_doDeed wl_X7_129 dX7_runTimer_75 ltC_0 layC_0 vcz_X7 rfl rfl rfl (Nat.le_of_ble_eq_true rfl) (by decide) (fun r11 σ12 _ => ?_)
      refine z_pop hC dX7_runTimer_78 rfl ?_
      exact z_vret hC dX7_runTimer_79
    · refine z_aload_n hC dX7_runTimer_38 rfl ?_
      refine z_getr hC wf_X7_47 dX7_runTimer_39 ltC_0 layC_0 rfl ?_
      refine z_getr hC wf_X7_183 dX7_runTimer_42 ltC_24 layC_24 rfl ?_
      refine z_iload_n hC dX7_runTimer_45 rfl ?_
      refine z_aload_n hC dX7_runTimer_46 rfl ?_
      refine z_getr hC wf_X7_33 dX7_runTimer_47 ltC_0 layC_0 rfl ?_
      refine z_getr hC wf_X7_251 dX7_runTimer_50 ltC_17 layC_17 rfl ?_
      refine z_iload_n hC dX7_runTimer_53 rfl ?_
      refine z_iald hC dX7_runTimer_54 ltC_19 layC_19 (fun h13 => ?_)
      refine z_iast hC dX7_runTimer_55 ltC_31 layC_31 (fun h14 => ?_)
      refine z_let (fun σ15 _ => ?_)
      refine z_aload_n hC dX7_runTimer_56 rfl ?_
      refine z_getr hC wf_X7_47 dX7_runTimer_57 ltC_0 layC_0 rfl ?_
      refine z_iconst hC dX7_runTimer_60 ki_1 ?_
      refine z_iload_n hC dX7_runTimer_61 rfl ?_
      refine z_callVv hC [.int 1, .int p1] (c_X4_addRow 1 p1) yy_X4_addRow wl_X7_238 dX7_runTimer_62 ltC_24 layC_24 vcz_X4 rfl rfl rfl (Nat.le_of_ble_eq_true rfl) (by decide) (fun r16 σ17 _ => ?_)
      refine z_aload_n hC dX7_runTimer_65 rfl ?_
      refine z_aload_n hC dX7_runTimer_66 rfl ?_
      refine z_getr hC wf_X7_33 dX7_runTimer_67 ltC_0 layC_0 rfl ?_
      refine z_getr hC wf_X7_254 dX7_runTimer_70 ltC_17 layC_17 rfl ?_
      refine z_iload_n hC dX7_runTimer_73 rfl ?_
      refine z_iald hC dX7_runTimer_74 ltC_18 layC_18 (fun h18 => ?_)
      refine z_callVi hC [.int (σ17 18 p1.toNatClampNeg)] (c_X7_doDeed (σ17 18 p1.toNatClampNeg)) yy_X7_doDeed wl_X7_129 dX7_runTimer_75 ltC_0 layC_0 vcz_X7 rfl rfl rfl (Nat.le_of_ble_eq_true rfl) (by decide) (fun r19 σ20 _ => ?_)
      refine z_pop hC dX7_runTimer_78 rfl ?_
      exact z_vret hC dX7_runTimer_79
  · exact z_vret hC dX7_runTimer_25
theorem c_X7_runTimer (p1 : Int32) : zM layC nC yX7_runTimer cX7_runTimer 2 none (zRm 5 108) (fun ad => [.ref (ad 0), .int p1]) (f_X7_runTimer p1) := zM_of (own := RX7) (by decide) rfl (fun ad w hw => by simp only [List.mem_cons, List.not_mem_nil, or_false] at hw; (first | exact hw.elim | (rcases hw with rfl | rfl <;> rfl))) (fun ad => Nat.le_of_ble_eq_true rfl) (fun Γ ad hC σ => w_X7_runTimer hC p1 σ)
set_option maxRecDepth 100000 in
set_option maxHeartbeats 4000000 in
theorem t_X7_runTimers_L2 {Γ : zG} {ad : Nat → Nat} (hC : zX Γ layC nC ad cX7_runTimers RX7 2 (zRm 6 129) none) (a0 : Int32 × zS) (K : Bool × (Int32 × zS) → Option (Int32 × zS)) (hc : ∀ (x0 : Int32) (s' : zS), zZ Γ layC nC ad 2 none 2 [some (.ref (ad 0)), some (.int x0)] [] s' (K (true, (x0, s')))) (hx : ∀ (x0 : Int32) (s' : zS), zZ Γ layC nC ad 2 none 26 [some (.ref (ad 0)), some (.int x0)] [] s' (K (false, (x0, s')))) : zK Γ layC nC ad 2 none 2 [some (.ref (ad 0)), some (.int a0.1)] [] (a0.2) (b_X7_runTimers_L2 a0) K := by
  unfold b_X7_runTimers_L2
  refine z_iload_n hC dX7_runTimers_2 rfl ?_
  refine z_aload_n hC dX7_runTimers_3 rfl ?_
  refine z_getr hC wf_X7_33 dX7_runTimers_4 ltC_0 layC_0 rfl ?_
  refine z_geti hC wf_X7_178 dX7_runTimers_7 ltC_17 layC_17 rfl ?_
  refine z_icmp_ge hC 26 dX7_runTimers_10 (by decide) (fun h1 => ?_) (fun h1 => ?_)
  · exact z_leaf (hx a0.1 a0.2)
  · refine z_aload_n hC dX7_runTimers_13 rfl ?_
    refine z_getr hC wf_X7_58 dX7_runTimers_14 ltC_0 layC_0 rfl ?_
    refine z_iload_n hC dX7_runTimers_17 rfl ?_
    refine z_iconst hC dX7_runTimers_18 ki_0 ?_
    refine z_zast hC dX7_runTimers_19 ltC_116 layC_116 (fun h2 => ?_)
    refine z_let (fun σ3 _ => ?_)
    refine z_iinc hC dX7_runTimers_20 (lv' := [some (.ref (ad 0)), some (.int (a0.1 + 1))]) rfl (by decide) ki_1 rfl ?_
    refine z_goto hC 2 dX7_runTimers_23 (by decide) ?_
    exact z_leaf (hc (a0.1 + 1) σ3)
set_option maxRecDepth 100000 in
set_option maxHeartbeats 4000000 in
theorem t_X7_runTimers_L28 {Γ : zG} {ad : Nat → Nat} (hC : zX Γ layC nC ad cX7_runTimers RX7 2 (zRm 6 129) none) (a0 : Int32 × zS) (K : Bool × (Int32 × zS) → Option (Int32 × zS)) (hc : ∀ (x0 : Int32) (s' : zS), zZ Γ layC nC ad 2 none 28 [some (.ref (ad 0)), some (.int x0)] [] s' (K (true, (x0, s')))) (hx : ∀ (x0 : Int32) (s' : zS), zZ Γ layC nC ad 2 none 78 [some (.ref (ad 0)), some (.int x0)] [] s' (K (false, (x0, s')))) : zK Γ layC nC ad 2 none 28 [some (.ref (ad 0)), some (.int a0.1)] [] (a0.2) (b_X7_runTimers_L28 a0) K := by
  unfold b_X7_runTimers_L28
  refine z_iload_n hC dX7_runTimers_28 rfl ?_
  refine z_aload_n hC dX7_runTimers_29 rfl ?_
  refine z_getr hC wf_X7_33 dX7_runTimers_30 ltC_0 layC_0 rfl ?_
  refine z_geti hC wf_X7_178 dX7_runTimers_33 ltC_17 layC_17 rfl ?_
  refine z_icmp_ge hC 78 dX7_runTimers_36 (by decide) (fun h5 => ?_) (fun h5 => ?_)
  · exact z_leaf (hx a0.1 a0.2)
  · refine z_aload_n hC dX7_runTimers_39 rfl ?_
    refine z_geti hC wf_X7_145 dX7_runTimers_40 ltC_0 layC_0 rfl ?_
    refine z_if_ne hC 78 dX7_runTimers_43 (by decide) (fun h6 => ?_) (fun h6 => ?_)
    · exact z_leaf (hx a0.1 a0.2)
    · refine z_aload_n hC dX7_runTimers_46 rfl ?_
      refine z_getr hC wf_X7_47 dX7_runTimers_47 ltC_0 layC_0 rfl ?_
      refine z_getr hC wf_X7_183 dX7_runTimers_50 ltC_24 layC_24 rfl ?_
      refine z_iload_n hC dX7_runTimers_53 rfl ?_
      refine z_iald hC dX7_runTimers_54 ltC_31 layC_31 (fun h7 => ?_)
      refine z_if_le hC 72 dX7_runTimers_55 (by decide) (fun h8 => ?_) (fun h8 => ?_)
      · refine z_iinc hC dX7_runTimers_72 (lv' := [some (.ref (ad 0)), some (.int (a0.1 + 1))]) rfl (by decide) ki_1 rfl ?_
        refine z_goto hC 28 dX7_runTimers_75 (by decide) ?_
        exact z_leaf (hc (a0.1 + 1) a0.2)
      · refine z_aload_n hC dX7_runTimers_58 rfl ?_
        refine z_getr hC wf_X7_58 dX7_runTimers_59 ltC_0 layC_0 rfl ?_
        refine z_iload_n hC dX7_runTimers_62 rfl ?_
        refine z_zald hC dX7_runTimers_63 ltC_116 layC_116 (fun h9 => ?_)
        refine z_if_ne hC 72 dX7_runTimers_64 (by decide) (fun h10 => ?_) (fun h10 => ?_)
        · refine z_iinc hC dX7_runTimers_72 (lv' := [some (.ref (ad 0)), some (.int (a0.1 + 1))]) rfl (by decide) ki_1 rfl ?_
          refine z_goto hC 28 dX7_runTimers_75 (by decide) ?_
          exact z_leaf (hc (a0.1 + 1) a0.2)
        · refine z_aload_n hC dX7_runTimers_67 rfl ?_
          refine z_iload_n hC dX7_runTimers_68 rfl ?_
          refine z_callVv hC [.int a0.1] (c_X7_runTimer a0.1) yy_X7_runTimer wl_X7_245 dX7_runTimers_69 ltC_0 layC_0 vcz_X7 rfl rfl rfl (Nat.le_of_ble_eq_true rfl) (by decide) (fun r11 σ12 _ => ?_)
          refine z_iinc hC dX7_runTimers_72 (lv' := [some (.ref (ad 0)), some (.int (a0.1 + 1))]) rfl (by decide) ki_1 rfl ?_
          refine z_goto hC 28 dX7_runTimers_75 (by decide) ?_
          exact z_leaf (hc (a0.1 + 1) σ12)
set_option maxRecDepth 100000 in
set_option maxHeartbeats 4000000 in
theorem w_X7_runTimers {Γ : zG} {ad : Nat → Nat} (hC : zX Γ layC nC ad cX7_runTimers RX7 2 (zRm 6 129) none) (σ : zS) : zK Γ layC nC ad 2 none 0 [some (.ref (ad 0)), none] [] σ (f_X7_runTimers σ) some := by
  unfold f_X7_runTimers
  refine z_iconst hC dX7_runTimers_0 ki_0 ?_
  refine z_istore_n hC dX7_runTimers_1 (lv' := [some (.ref (ad 0)), some (.int 0)]) (by decide) rfl ?_
  refine z_lpb (lvf := fun z : Int32 × zS => [some (.ref (ad 0)), some (.int z.1)]) (sg := fun z => z.2) (x := 26) zfuel (0, σ) rfl rfl (fun z K hc hx => t_X7_runTimers_L2 hC z K (fun x0 s' => hc (x0, s')) (fun x0 s' => hx (x0, s'))) (fun a4 => ?_)
  refine z_iconst hC dX7_runTimers_26 ki_0 ?_
  refine z_istore_n hC dX7_runTimers_27 (lv' := [some (.ref (ad 0)), some (.int 0)]) (by decide) rfl ?_
  refine z_lpb (lvf := fun z : Int32 × zS => [some (.ref (ad 0)), some (.int z.1)]) (sg := fun z => z.2) (x := 78) zfuel (0, a4.2) rfl rfl (fun z K hc hx => t_X7_runTimers_L28 hC z K (fun x0 s' => hc (x0, s')) (fun x0 s' => hx (x0, s'))) (fun a13 => ?_)
  exact z_vret hC dX7_runTimers_78
theorem c_X7_runTimers : zM layC nC yX7_runTimers cX7_runTimers 2 none (zRm 6 129) (fun ad => [.ref (ad 0)]) (f_X7_runTimers) := zM_of (own := RX7) (by decide) rfl (fun ad w hw => by simp only [List.mem_cons, List.not_mem_nil, or_false] at hw; (first | exact hw.elim | (rcases hw with rfl <;> rfl))) (fun ad => Nat.le_of_ble_eq_true rfl) (fun Γ ad hC σ => w_X7_runTimers hC σ)
set_option maxRecDepth 100000 in
set_option maxHeartbeats 4000000 in
theorem w_X7_timer {Γ : zG} {ad : Nat → Nat} (hC : zX Γ layC nC ad cX7_timer RX7 4 (zRm 1 23) (some .int)) (p1 : Int32) (p2 : Int32) (p3 : Int32) (σ : zS) : zK Γ layC nC ad 4 (some .int) 0 [some (.ref (ad 0)), some (.int p1), some (.int p2), some (.int p3)] [] σ (f_X7_timer p1 p2 p3 σ) some := by
  unfold f_X7_timer
  refine z_iload_n hC dX7_timer_0 rfl ?_
  refine z_aload_n hC dX7_timer_1 rfl ?_
  refine z_getr hC wf_X7_19 dX7_timer_2 ltC_0 layC_0 rfl ?_
  refine z_geti hC wf_X7_110 dX7_timer_5 ltC_5 layC_5 rfl ?_
  refine z_callSi hC [.int p1, .int (σ 5 0)] (c_X7_isThere p1 (σ 5 0)) yy_X7_isThere wl_X7_74 dX7_timer_8 rfl rfl rfl (Nat.le_of_ble_eq_true rfl) (by decide) (fun r1 σ2 _ => ?_)
  refine z_if_ne hC 17 dX7_timer_11 (by decide) (fun h3 => ?_) (fun h3 => ?_)
  · refine z_iload_n hC dX7_timer_17 rfl ?_
    refine z_iconst hC dX7_timer_18 ki_1 ?_
    refine z_bipush hC dX7_timer_19 kb_50 ?_
    refine z_callSi hC [.int p2, .int 1, .int 50] (c_X7_isWithin p2 1 50) yy_X7_isWithin wl_X7_95 dX7_timer_21 rfl rfl rfl (Nat.le_of_ble_eq_true rfl) (by decide) (fun r4 σ5 _ => ?_)
    refine z_if_ne hC 30 dX7_timer_24 (by decide) (fun h6 => ?_) (fun h6 => ?_)
    · refine z_aload_n hC dX7_timer_30 rfl ?_
      refine z_aload_n hC dX7_timer_31 rfl ?_
      refine z_getr hC wf_X7_33 dX7_timer_32 ltC_0 layC_0 rfl ?_
      refine z_iload_n hC dX7_timer_35 rfl ?_
      refine z_iload_n hC dX7_timer_36 rfl ?_
      refine z_iload_n hC dX7_timer_37 rfl ?_
      refine z_callVi hC [.int p1, .int p2, .int p3] (c_X6_addTimer p1 p2 p3) yy_X6_addTimer wl_X7_123 dX7_timer_38 ltC_17 layC_17 vcz_X6 rfl rfl rfl (Nat.le_of_ble_eq_true rfl) (by decide) (fun r7 σ8 _ => ?_)
      refine z_callVi hC [.int r7] (c_X7_closePast r7) yy_X7_closePast wl_X7_66 dX7_timer_41 ltC_0 layC_0 vcz_X7 rfl rfl rfl (Nat.le_of_ble_eq_true rfl) (by decide) (fun r9 σ10 _ => ?_)
      exact z_iret hC dX7_timer_44
    · refine z_bipush hC dX7_timer_27 kb_m3 ?_
      exact z_iret hC dX7_timer_29
  · refine z_bipush hC dX7_timer_14 kb_m2 ?_
    exact z_iret hC dX7_timer_16
theorem c_X7_timer (p1 : Int32) (p2 : Int32) (p3 : Int32) : zM layC nC yX7_timer cX7_timer 4 (some .int) (zRm 1 23) (fun ad => [.ref (ad 0), .int p1, .int p2, .int p3]) (f_X7_timer p1 p2 p3) := zM_of (own := RX7) (by decide) rfl (fun ad w hw => by simp only [List.mem_cons, List.not_mem_nil, or_false] at hw; (first | exact hw.elim | (rcases hw with rfl | rfl | rfl | rfl <;> rfl))) (fun ad => Nat.le_of_ble_eq_true rfl) (fun Γ ad hC σ => w_X7_timer hC p1 p2 p3 σ)
set_option maxRecDepth 100000 in
set_option maxHeartbeats 4000000 in
theorem w_X7_told {Γ : zG} {ad : Nat → Nat} (hC : zX Γ layC nC ad cX7_told RX7 2 (zRm 0 0) (some .int)) (p1 : Int32) (σ : zS) : zK Γ layC nC ad 2 (some .int) 0 [some (.ref (ad 0)), some (.int p1)] [] σ (f_X7_told p1 σ) some := by
  unfold f_X7_told
  refine z_iload_n hC dX7_told_0 rfl ?_
  refine z_ite (fun h1 => ?_) (fun h1 => ?_)
  · refine z_tabIn hC 44 dX7_told_1 0 h1 (by decide) (by decide) rfl (by decide) ?_
    refine z_aload_n hC dX7_told_44 rfl ?_
    refine z_getr hC wf_X7_47 dX7_told_45 ltC_0 layC_0 rfl ?_
    refine z_geti hC wf_X7_165 dX7_told_48 ltC_24 layC_24 rfl ?_
    exact z_iret hC dX7_told_51
  refine z_ite (fun h2 => ?_) (fun h2 => ?_)
  · refine z_tabIn hC 52 dX7_told_1 1 h2 (by decide) (by decide) rfl (by decide) ?_
    refine z_aload_n hC dX7_told_52 rfl ?_
    refine z_getr hC wf_X7_47 dX7_told_53 ltC_0 layC_0 rfl ?_
    refine z_geti hC wf_X7_168 dX7_told_56 ltC_24 layC_24 rfl ?_
    exact z_iret hC dX7_told_59
  refine z_ite (fun h3 => ?_) (fun h3 => ?_)
  · refine z_tabIn hC 60 dX7_told_1 2 h3 (by decide) (by decide) rfl (by decide) ?_
    refine z_aload_n hC dX7_told_60 rfl ?_
    refine z_getr hC wf_X7_47 dX7_told_61 ltC_0 layC_0 rfl ?_
    refine z_geti hC wf_X7_139 dX7_told_64 ltC_24 layC_24 rfl ?_
    exact z_iret hC dX7_told_67
  refine z_ite (fun h4 => ?_) (fun h4 => ?_)
  · refine z_tabIn hC 68 dX7_told_1 3 h4 (by decide) (by decide) rfl (by decide) ?_
    refine z_aload_n hC dX7_told_68 rfl ?_
    refine z_getr hC wf_X7_47 dX7_told_69 ltC_0 layC_0 rfl ?_
    refine z_geti hC wf_X7_132 dX7_told_72 ltC_24 layC_24 rfl ?_
    exact z_iret hC dX7_told_75
  refine z_ite (fun h5 => ?_) (fun h5 => ?_)
  · refine z_tabIn hC 76 dX7_told_1 4 h5 (by decide) (by decide) rfl (by decide) ?_
    refine z_aload_n hC dX7_told_76 rfl ?_
    refine z_getr hC wf_X7_47 dX7_told_77 ltC_0 layC_0 rfl ?_
    refine z_geti hC wf_X7_171 dX7_told_80 ltC_24 layC_24 rfl ?_
    exact z_iret hC dX7_told_83
  refine z_ite (fun h6 => ?_) (fun h6 => ?_)
  · refine z_tabIn hC 84 dX7_told_1 5 h6 (by decide) (by decide) rfl (by decide) ?_
    refine z_aload_n hC dX7_told_84 rfl ?_
    refine z_getr hC wf_X7_54 dX7_told_85 ltC_0 layC_0 rfl ?_
    refine z_geti hC wf_X7_161 dX7_told_88 ltC_34 layC_34 rfl ?_
    exact z_iret hC dX7_told_91
  refine z_ite (fun h7 => ?_) (fun h7 => ?_)
  · refine z_tabIn hC 92 dX7_told_1 6 h7 (by decide) (by decide) rfl (by decide) ?_
    refine z_aload_n hC dX7_told_92 rfl ?_
    refine z_getr hC wf_X7_47 dX7_told_93 ltC_0 layC_0 rfl ?_
    refine z_geti hC wf_X7_142 dX7_told_96 ltC_24 layC_24 rfl ?_
    exact z_iret hC dX7_told_99
  refine z_tabOut hC 100 dX7_told_1 (by have := And.intro (lv_neT h1 (a := 0) (by decide)) (And.intro (lv_neT h2 (a := 1) (by decide)) (And.intro (lv_neT h3 (a := 2) (by decide)) (And.intro (lv_neT h4 (a := 3) (by decide)) (And.intro (lv_neT h5 (a := 4) (by decide)) (And.intro (lv_neT h6 (a := 5) (by decide)) (lv_neT h7 (a := 6) (by decide))))))); omega) (by decide) ?_
  refine z_bipush hC dX7_told_100 kb_m3 ?_
  exact z_iret hC dX7_told_102
theorem c_X7_told (p1 : Int32) : zM layC nC yX7_told cX7_told 2 (some .int) (zRm 0 0) (fun ad => [.ref (ad 0), .int p1]) (f_X7_told p1) := zM_of (own := RX7) (by decide) rfl (fun ad w hw => by simp only [List.mem_cons, List.not_mem_nil, or_false] at hw; (first | exact hw.elim | (rcases hw with rfl | rfl <;> rfl))) (fun ad => Nat.le_of_ble_eq_true rfl) (fun Γ ad hC σ => w_X7_told hC p1 σ)
set_option maxRecDepth 100000 in
set_option maxHeartbeats 4000000 in
theorem w_X7_turn {Γ : zG} {ad : Nat → Nat} (hC : zX Γ layC nC ad cX7_turn RX7 1 (zRm 7 152) (some .int)) (σ : zS) : zK Γ layC nC ad 1 (some .int) 0 [some (.ref (ad 0))] [] σ (f_X7_turn σ) some := by
  unfold f_X7_turn
  refine z_aload_n hC dX7_turn_0 rfl ?_
  refine z_getr hC wf_X7_54 dX7_turn_1 ltC_0 layC_0 rfl ?_
  refine z_aload_n hC dX7_turn_4 rfl ?_
  refine z_getr hC wf_X7_47 dX7_turn_5 ltC_0 layC_0 rfl ?_
  refine z_callVv hC [.ref (ad 24)] c_X5_keep yy_X5_keep wl_X7_135 dX7_turn_8 ltC_34 layC_34 vcz_X5 rfl rfl rfl (Nat.le_of_ble_eq_true rfl) (by decide) (fun r1 σ2 _ => ?_)
  refine z_aload_n hC dX7_turn_11 rfl ?_
  refine z_getr hC wf_X7_47 dX7_turn_12 ltC_0 layC_0 rfl ?_
  refine z_dup hC dX7_turn_15 rfl ?_
  refine z_geti hC wf_X7_139 dX7_turn_16 ltC_24 layC_24 rfl ?_
  refine z_iconst hC dX7_turn_19 ki_1 ?_
  refine z_iadd hC dX7_turn_20 ?_
  refine z_puti hC wp_X7_139 dX7_turn_21 ltC_24 layC_24 rfl ?_
  refine z_let (fun σ3 _ => ?_)
  refine z_aload_n hC dX7_turn_24 rfl ?_
  refine z_getr hC wf_X7_47 dX7_turn_25 ltC_0 layC_0 rfl ?_
  refine z_iconst hC dX7_turn_28 ki_0 ?_
  refine z_puti hC wp_X7_142 dX7_turn_29 ltC_24 layC_24 rfl ?_
  refine z_let (fun σ4 _ => ?_)
  refine z_aload_n hC dX7_turn_32 rfl ?_
  refine z_iconst hC dX7_turn_33 ki_0 ?_
  refine z_putz hC wp_X7_145 (by decide) dX7_turn_34 ltC_0 layC_0 rfl ?_
  refine z_let (fun σ5 _ => ?_)
  refine z_aload_n hC dX7_turn_37 rfl ?_
  refine z_callVv hC [] c_X7_bringEvents yy_X7_bringEvents wl_X7_149 dX7_turn_38 ltC_0 layC_0 vcz_X7 rfl rfl rfl (Nat.le_of_ble_eq_true rfl) (by decide) (fun r6 σ7 _ => ?_)
  refine z_aload_n hC dX7_turn_41 rfl ?_
  refine z_callVv hC [] c_X7_runTimers yy_X7_runTimers wl_X7_152 dX7_turn_42 ltC_0 layC_0 vcz_X7 rfl rfl rfl (Nat.le_of_ble_eq_true rfl) (by decide) (fun r8 σ9 _ => ?_)
  refine z_aload_n hC dX7_turn_45 rfl ?_
  refine z_callVv hC [] c_X7_runDaemons yy_X7_runDaemons wl_X7_155 dX7_turn_46 ltC_0 layC_0 vcz_X7 rfl rfl rfl (Nat.le_of_ble_eq_true rfl) (by decide) (fun r10 σ11 _ => ?_)
  refine z_aload_n hC dX7_turn_49 rfl ?_
  refine z_callVv hC [] c_X7_moveWalkers yy_X7_moveWalkers wl_X7_158 dX7_turn_50 ltC_0 layC_0 vcz_X7 rfl rfl rfl (Nat.le_of_ble_eq_true rfl) (by decide) (fun r12 σ13 _ => ?_)
  refine z_aload_n hC dX7_turn_53 rfl ?_
  refine z_getr hC wf_X7_47 dX7_turn_54 ltC_0 layC_0 rfl ?_
  refine z_geti hC wf_X7_142 dX7_turn_57 ltC_24 layC_24 rfl ?_
  exact z_iret hC dX7_turn_60
theorem c_X7_turn : zM layC nC yX7_turn cX7_turn 1 (some .int) (zRm 7 152) (fun ad => [.ref (ad 0)]) (f_X7_turn) := zM_of (own := RX7) (by decide) rfl (fun ad w hw => by simp only [List.mem_cons, List.not_mem_nil, or_false] at hw; (first | exact hw.elim | (rcases hw with rfl <;> rfl))) (fun ad => Nat.le_of_ble_eq_true rfl) (fun Γ ad hC σ => w_X7_turn hC σ)
set_option maxRecDepth 100000 in
set_option maxHeartbeats 4000000 in
theorem w_X7_walker {Γ : zG} {ad : Nat → Nat} (hC : zX Γ layC nC ad cX7_walker RX7 3 (zRm 1 21) (some .int)) (p1 : Int32) (σ : zS) : zK Γ layC nC ad 3 (some .int) 0 [some (.ref (ad 0)), some (.int p1), none] [] σ (f_X7_walker p1 σ) some := by
  unfold f_X7_walker
  refine z_iload_n hC dX7_walker_0 rfl ?_
  refine z_aload_n hC dX7_walker_1 rfl ?_
  refine z_getr hC wf_X7_12 dX7_walker_2 ltC_0 layC_0 rfl ?_
  refine z_geti hC wf_X7_70 dX7_walker_5 ltC_1 layC_1 rfl ?_
  refine z_callSi hC [.int p1, .int (σ 1 0)] (c_X7_isThere p1 (σ 1 0)) yy_X7_isThere wl_X7_74 dX7_walker_8 rfl rfl rfl (Nat.le_of_ble_eq_true rfl) (by decide) (fun r1 σ2 _ => ?_)
  refine z_if_ne hC 17 dX7_walker_11 (by decide) (fun h3 => ?_) (fun h3 => ?_)
  · refine z_aload_n hC dX7_walker_17 rfl ?_
    refine z_getr hC wf_X7_12 dX7_walker_18 ltC_0 layC_0 rfl ?_
    refine z_callVi hC [] c_X3_addWalker yy_X3_addWalker wl_X7_82 dX7_walker_21 ltC_1 layC_1 vcz_X3 rfl rfl rfl (Nat.le_of_ble_eq_true rfl) (by decide) (fun r4 σ5 _ => ?_)
    refine z_istore_n hC dX7_walker_24 (lv' := [some (.ref (ad 0)), some (.int p1), some (.int r4)]) (by decide) rfl ?_
    refine z_iload_n hC dX7_walker_25 rfl ?_
    refine z_aload_n hC dX7_walker_26 rfl ?_
    refine z_getr hC wf_X7_12 dX7_walker_27 ltC_0 layC_0 rfl ?_
    refine z_geti hC wf_X7_85 dX7_walker_30 ltC_1 layC_1 rfl ?_
    refine z_callSi hC [.int r4, .int (σ5 1 2)] (c_X7_isThere r4 (σ5 1 2)) yy_X7_isThere wl_X7_74 dX7_walker_33 rfl rfl rfl (Nat.le_of_ble_eq_true rfl) (by decide) (fun r6 σ7 _ => ?_)
    refine z_if_eq hC 59 dX7_walker_36 (by decide) (fun h8 => ?_) (fun h8 => ?_)
    · refine z_aload_n hC dX7_walker_59 rfl ?_
      refine z_iload_n hC dX7_walker_60 rfl ?_
      refine z_callVi hC [.int r4] (c_X7_closePast r4) yy_X7_closePast wl_X7_66 dX7_walker_61 ltC_0 layC_0 vcz_X7 rfl rfl rfl (Nat.le_of_ble_eq_true rfl) (by decide) (fun r9 σ10 _ => ?_)
      exact z_iret hC dX7_walker_64
    · refine z_aload_n hC dX7_walker_39 rfl ?_
      refine z_getr hC wf_X7_47 dX7_walker_40 ltC_0 layC_0 rfl ?_
      refine z_getr hC wf_X7_88 dX7_walker_43 ltC_24 layC_24 rfl ?_
      refine z_iload_n hC dX7_walker_46 rfl ?_
      refine z_iload_n hC dX7_walker_47 rfl ?_
      refine z_iast hC dX7_walker_48 ltC_29 layC_29 (fun h11 => ?_)
      refine z_let (fun σ12 _ => ?_)
      refine z_aload_n hC dX7_walker_49 rfl ?_
      refine z_getr hC wf_X7_47 dX7_walker_50 ltC_0 layC_0 rfl ?_
      refine z_getr hC wf_X7_92 dX7_walker_53 ltC_24 layC_24 rfl ?_
      refine z_iload_n hC dX7_walker_56 rfl ?_
      refine z_iconst hC dX7_walker_57 ki_m1 ?_
      refine z_iast hC dX7_walker_58 ltC_30 layC_30 (fun h13 => ?_)
      refine z_let (fun σ14 _ => ?_)
      refine z_aload_n hC dX7_walker_59 rfl ?_
      refine z_iload_n hC dX7_walker_60 rfl ?_
      refine z_callVi hC [.int r4] (c_X7_closePast r4) yy_X7_closePast wl_X7_66 dX7_walker_61 ltC_0 layC_0 vcz_X7 rfl rfl rfl (Nat.le_of_ble_eq_true rfl) (by decide) (fun r15 σ16 _ => ?_)
      exact z_iret hC dX7_walker_64
  · refine z_bipush hC dX7_walker_14 kb_m2 ?_
    exact z_iret hC dX7_walker_16
theorem c_X7_walker (p1 : Int32) : zM layC nC yX7_walker cX7_walker 3 (some .int) (zRm 1 21) (fun ad => [.ref (ad 0), .int p1]) (f_X7_walker p1) := zM_of (own := RX7) (by decide) rfl (fun ad w hw => by simp only [List.mem_cons, List.not_mem_nil, or_false] at hw; (first | exact hw.elim | (rcases hw with rfl | rfl <;> rfl))) (fun ad => Nat.le_of_ble_eq_true rfl) (fun Γ ad hC σ => w_X7_walker hC p1 σ)
set_option maxRecDepth 100000 in
set_option maxHeartbeats 4000000 in
theorem w_X7_walks {Γ : zG} {ad : Nat → Nat} (hC : zX Γ layC nC ad cX7_walks RX7 3 (zRm 1 21) (some .int)) (p1 : Int32) (p2 : Int32) (σ : zS) : zK Γ layC nC ad 3 (some .int) 0 [some (.ref (ad 0)), some (.int p1), some (.int p2)] [] σ (f_X7_walks p1 p2 σ) some := by
  unfold f_X7_walks
  refine z_iload_n hC dX7_walks_0 rfl ?_
  refine z_aload_n hC dX7_walks_1 rfl ?_
  refine z_getr hC wf_X7_12 dX7_walks_2 ltC_0 layC_0 rfl ?_
  refine z_geti hC wf_X7_85 dX7_walks_5 ltC_1 layC_1 rfl ?_
  refine z_callSi hC [.int p1, .int (σ 1 2)] (c_X7_isThere p1 (σ 1 2)) yy_X7_isThere wl_X7_74 dX7_walks_8 rfl rfl rfl (Nat.le_of_ble_eq_true rfl) (by decide) (fun r1 σ2 _ => ?_)
  refine z_if_ne hC 17 dX7_walks_11 (by decide) (fun h3 => ?_) (fun h3 => ?_)
  · refine z_iload_n hC dX7_walks_17 rfl ?_
    refine z_ite (fun h4 => ?_) (fun h4 => ?_)
    · refine z_look (off := 26) hC 44 dX7_walks_18 (by decide) (by rw [h4]; first | done | rfl) (by decide) ?_
      refine z_aload_n hC dX7_walks_44 rfl ?_
      refine z_getr hC wf_X7_47 dX7_walks_45 ltC_0 layC_0 rfl ?_
      refine z_getr hC wf_X7_88 dX7_walks_48 ltC_24 layC_24 rfl ?_
      refine z_iload_n hC dX7_walks_51 rfl ?_
      refine z_iald hC dX7_walks_52 ltC_29 layC_29 (fun h5 => ?_)
      exact z_iret hC dX7_walks_53
    refine z_ite (fun h6 => ?_) (fun h6 => ?_)
    · refine z_look (off := 36) hC 54 dX7_walks_18 (by decide) (by rw [h6]; first | done | rfl) (by decide) ?_
      refine z_aload_n hC dX7_walks_54 rfl ?_
      refine z_getr hC wf_X7_47 dX7_walks_55 ltC_0 layC_0 rfl ?_
      refine z_getr hC wf_X7_92 dX7_walks_58 ltC_24 layC_24 rfl ?_
      refine z_iload_n hC dX7_walks_61 rfl ?_
      refine z_iald hC dX7_walks_62 ltC_30 layC_30 (fun h7 => ?_)
      exact z_iret hC dX7_walks_63
    refine z_look (off := 46) hC 64 dX7_walks_18 (by decide) (by show Op.lookupswitch.offset [(0, 26), (1, 36)] _ _ = _; rw [lv_osw h4 (by decide), lv_osw h6 (by decide)]; first | done | rfl) (by decide) ?_
    refine z_bipush hC dX7_walks_64 kb_m3 ?_
    exact z_iret hC dX7_walks_66
  · refine z_bipush hC dX7_walks_14 kb_m2 ?_
    exact z_iret hC dX7_walks_16
theorem c_X7_walks (p1 : Int32) (p2 : Int32) : zM layC nC yX7_walks cX7_walks 3 (some .int) (zRm 1 21) (fun ad => [.ref (ad 0), .int p1, .int p2]) (f_X7_walks p1 p2) := zM_of (own := RX7) (by decide) rfl (fun ad w hw => by simp only [List.mem_cons, List.not_mem_nil, or_false] at hw; (first | exact hw.elim | (rcases hw with rfl | rfl | rfl <;> rfl))) (fun ad => Nat.le_of_ble_eq_true rfl) (fun Γ ad hC σ => w_X7_walks hC p1 p2 σ)
set_option maxRecDepth 100000 in
set_option maxHeartbeats 4000000 in
theorem w_X7_way {Γ : zG} {ad : Nat → Nat} (hC : zX Γ layC nC ad cX7_way RX7 3 (zRm 2 47) (some .int)) (p1 : Int32) (p2 : Int32) (σ : zS) : zK Γ layC nC ad 3 (some .int) 0 [some (.ref (ad 0)), some (.int p1), some (.int p2)] [] σ (f_X7_way p1 p2 σ) some := by
  unfold f_X7_way
  refine z_iload_n hC dX7_way_0 rfl ?_
  refine z_aload_n hC dX7_way_1 rfl ?_
  refine z_getr hC wf_X7_12 dX7_way_2 ltC_0 layC_0 rfl ?_
  refine z_geti hC wf_X7_70 dX7_way_5 ltC_1 layC_1 rfl ?_
  refine z_callSi hC [.int p1, .int (σ 1 0)] (c_X7_isThere p1 (σ 1 0)) yy_X7_isThere wl_X7_74 dX7_way_8 rfl rfl rfl (Nat.le_of_ble_eq_true rfl) (by decide) (fun r1 σ2 _ => ?_)
  refine z_if_eq hC 28 dX7_way_11 (by decide) (fun h3 => ?_) (fun h3 => ?_)
  · refine z_bipush hC dX7_way_28 kb_m2 ?_
    exact z_iret hC dX7_way_30
  · refine z_iload_n hC dX7_way_14 rfl ?_
    refine z_aload_n hC dX7_way_15 rfl ?_
    refine z_getr hC wf_X7_12 dX7_way_16 ltC_0 layC_0 rfl ?_
    refine z_geti hC wf_X7_70 dX7_way_19 ltC_1 layC_1 rfl ?_
    refine z_callSi hC [.int p2, .int (σ2 1 0)] (c_X7_isThere p2 (σ2 1 0)) yy_X7_isThere wl_X7_74 dX7_way_22 rfl rfl rfl (Nat.le_of_ble_eq_true rfl) (by decide) (fun r4 σ5 _ => ?_)
    refine z_if_ne hC 31 dX7_way_25 (by decide) (fun h6 => ?_) (fun h6 => ?_)
    · refine z_aload_n hC dX7_way_31 rfl ?_
      refine z_getr hC wf_X7_12 dX7_way_32 ltC_0 layC_0 rfl ?_
      refine z_iload_n hC dX7_way_35 rfl ?_
      refine z_aload_n hC dX7_way_36 rfl ?_
      refine z_getr hC wf_X7_47 dX7_way_37 ltC_0 layC_0 rfl ?_
      refine z_getr hC wf_X7_193 dX7_way_40 ltC_24 layC_24 rfl ?_
      refine z_callVv hC [.int p2, .ref (ad 28)] (c_X3_measureTo p2) yy_X3_measureTo wl_X7_199 dX7_way_43 ltC_1 layC_1 vcz_X3 rfl rfl rfl (Nat.le_of_ble_eq_true rfl) (by decide) (fun r7 σ8 _ => ?_)
      refine z_aload_n hC dX7_way_46 rfl ?_
      refine z_getr hC wf_X7_12 dX7_way_47 ltC_0 layC_0 rfl ?_
      refine z_getr hC wf_X7_203 dX7_way_50 ltC_1 layC_1 rfl ?_
      refine z_iload_n hC dX7_way_53 rfl ?_
      refine z_iald hC dX7_way_54 ltC_4 layC_4 (fun h9 => ?_)
      exact z_iret hC dX7_way_55
    · refine z_bipush hC dX7_way_28 kb_m2 ?_
      exact z_iret hC dX7_way_30
theorem c_X7_way (p1 : Int32) (p2 : Int32) : zM layC nC yX7_way cX7_way 3 (some .int) (zRm 2 47) (fun ad => [.ref (ad 0), .int p1, .int p2]) (f_X7_way p1 p2) := zM_of (own := RX7) (by decide) rfl (fun ad w hw => by simp only [List.mem_cons, List.not_mem_nil, or_false] at hw; (first | exact hw.elim | (rcases hw with rfl | rfl | rfl <;> rfl))) (fun ad => Nat.le_of_ble_eq_true rfl) (fun Γ ad hC σ => w_X7_way hC p1 p2 σ)
end
section
set_option maxRecDepth 100000 in
set_option maxHeartbeats 4000000 in
theorem w_X8_in {Γ : zG} {ad : Nat → Nat} (hC : zX Γ layM nM ad cX8_in RX8 3 (zRm 0 0) (some .boolean)) (p0 : Int32) (p1 : Int32) (p2 : Int32) (σ : zS) : zK Γ layM nM ad 3 (some .boolean) 0 [some (.int p0), some (.int p1), some (.int p2)] [] σ (f_X8_in p0 p1 p2 σ) some := by
  unfold f_X8_in
  refine z_iload_n hC dX8_in_0 rfl ?_
  refine z_iload_n hC dX8_in_1 rfl ?_
  refine z_icmp_lt hC 14 dX8_in_2 (by decide) (fun h1 => ?_) (fun h1 => ?_)
  · refine z_iconst hC dX8_in_14 ki_0 ?_
    exact z_zret hC (by decide) dX8_in_15
  · refine z_iload_n hC dX8_in_5 rfl ?_
    refine z_iload_n hC dX8_in_6 rfl ?_
    refine z_icmp_gt hC 14 dX8_in_7 (by decide) (fun h2 => ?_) (fun h2 => ?_)
    · refine z_iconst hC dX8_in_14 ki_0 ?_
      exact z_zret hC (by decide) dX8_in_15
    · refine z_iconst hC dX8_in_10 ki_1 ?_
      refine z_goto hC 15 dX8_in_11 (by decide) ?_
      exact z_zret hC (by decide) dX8_in_15
theorem c_X8_in (p0 : Int32) (p1 : Int32) (p2 : Int32) : zM layM nM yX8_in cX8_in 3 (some .boolean) (zRm 0 0) (fun ad => [.int p0, .int p1, .int p2]) (f_X8_in p0 p1 p2) := zM_of (own := RX8) (by decide) rfl (fun ad w hw => by simp only [List.mem_cons, List.not_mem_nil, or_false] at hw; (first | exact hw.elim | (rcases hw with rfl | rfl | rfl <;> rfl))) (fun ad => Nat.le_of_ble_eq_true rfl) (fun Γ ad hC σ => w_X8_in hC p0 p1 p2 σ)
set_option maxRecDepth 100000 in
set_option maxHeartbeats 4000000 in
theorem w_X8_isOf {Γ : zG} {ad : Nat → Nat} (hC : zX Γ layM nM ad cX8_isOf RX8 2 (zRm 1 22) (some .boolean)) (p0 : Int32) (p1 : Int32) (σ : zS) : zK Γ layM nM ad 2 (some .boolean) 0 [some (.int p0), some (.int p1)] [] σ (f_X8_isOf p0 p1 σ) some := by
  unfold f_X8_isOf
  refine z_iload_n hC dX8_isOf_0 rfl ?_
  refine z_iconst hC dX8_isOf_1 ki_0 ?_
  refine z_iload_n hC dX8_isOf_2 rfl ?_
  refine z_iconst hC dX8_isOf_3 ki_1 ?_
  refine z_isub hC dX8_isOf_4 ?_
  refine z_callSi hC [.int p0, .int 0, .int (p1 - 1)] (c_X8_in p0 0 (p1 - 1)) yy_X8_in wl_X8_78 dX8_isOf_5 rfl rfl rfl (Nat.le_of_ble_eq_true rfl) (by decide) (fun r1 σ2 _ => ?_)
  refine z_chk (fun h3 => ?_)
  exact z_zret hC h3 dX8_isOf_8
theorem c_X8_isOf (p0 : Int32) (p1 : Int32) : zM layM nM yX8_isOf cX8_isOf 2 (some .boolean) (zRm 1 22) (fun ad => [.int p0, .int p1]) (f_X8_isOf p0 p1) := zM_of (own := RX8) (by decide) rfl (fun ad w hw => by simp only [List.mem_cons, List.not_mem_nil, or_false] at hw; (first | exact hw.elim | (rcases hw with rfl | rfl <;> rfl))) (fun ad => Nat.le_of_ble_eq_true rfl) (fun Γ ad hC σ => w_X8_isOf hC p0 p1 σ)
set_option maxRecDepth 100000 in
set_option maxHeartbeats 4000000 in
theorem w_X8_holds {Γ : zG} {ad : Nat → Nat} (hC : zX Γ layM nM ad cX8_holds RX8 2 (zRm 0 0) (some .boolean)) (p1 : Int32) (σ : zS) : zK Γ layM nM ad 2 (some .boolean) 0 [some (.ref (ad 0)), some (.int p1)] [] σ (f_X8_holds p1 σ) some := by
  unfold f_X8_holds
  refine z_aload_n hC dX8_holds_0 rfl ?_
  refine z_getr hC wf_X8_35 dX8_holds_1 ltM_0 layM_0 rfl ?_
  refine z_iload_n hC dX8_holds_4 rfl ?_
  refine z_iald hC dX8_holds_5 ltM_8 layM_8 (fun h1 => ?_)
  refine z_iconst hC dX8_holds_6 ki_m1 ?_
  refine z_icmp_eq hC 32 dX8_holds_7 (by decide) (fun h2 => ?_) (fun h2 => ?_)
  · refine z_iconst hC dX8_holds_32 ki_1 ?_
    refine z_goto hC 37 dX8_holds_33 (by decide) ?_
    exact z_zret hC (by decide) dX8_holds_37
  · refine z_aload_n hC dX8_holds_10 rfl ?_
    refine z_getr hC wf_X8_7 dX8_holds_11 ltM_0 layM_0 rfl ?_
    refine z_iconst hC dX8_holds_14 ki_4 ?_
    refine z_aload_n hC dX8_holds_15 rfl ?_
    refine z_getr hC wf_X8_35 dX8_holds_16 ltM_0 layM_0 rfl ?_
    refine z_iload_n hC dX8_holds_19 rfl ?_
    refine z_iald hC dX8_holds_20 ltM_8 layM_8 (fun h3 => ?_)
    refine z_iadd hC dX8_holds_21 ?_
    refine z_iald hC dX8_holds_22 ltM_1 layM_1 (fun h4 => ?_)
    refine z_aload_n hC dX8_holds_23 rfl ?_
    refine z_getr hC wf_X8_38 dX8_holds_24 ltM_0 layM_0 rfl ?_
    refine z_iload_n hC dX8_holds_27 rfl ?_
    refine z_iald hC dX8_holds_28 ltM_9 layM_9 (fun h5 => ?_)
    refine z_icmp_lt hC 36 dX8_holds_29 (by decide) (fun h6 => ?_) (fun h6 => ?_)
    · refine z_iconst hC dX8_holds_36 ki_0 ?_
      exact z_zret hC (by decide) dX8_holds_37
    · refine z_iconst hC dX8_holds_32 ki_1 ?_
      refine z_goto hC 37 dX8_holds_33 (by decide) ?_
      exact z_zret hC (by decide) dX8_holds_37
theorem c_X8_holds (p1 : Int32) : zM layM nM yX8_holds cX8_holds 2 (some .boolean) (zRm 0 0) (fun ad => [.ref (ad 0), .int p1]) (f_X8_holds p1) := zM_of (own := RX8) (by decide) rfl (fun ad w hw => by simp only [List.mem_cons, List.not_mem_nil, or_false] at hw; (first | exact hw.elim | (rcases hw with rfl | rfl <;> rfl))) (fun ad => Nat.le_of_ble_eq_true rfl) (fun Γ ad hC σ => w_X8_holds hC p1 σ)
set_option maxRecDepth 100000 in
set_option maxHeartbeats 4000000 in
theorem w_X8_bound {Γ : zG} {ad : Nat → Nat} (hC : zX Γ layM nM ad cX8_bound RX8 3 (zRm 0 0) (some .int)) (p0 : Int32) (p1 : Int32) (p2 : Int32) (σ : zS) : zK Γ layM nM ad 3 (some .int) 0 [some (.int p0), some (.int p1), some (.int p2)] [] σ (f_X8_bound p0 p1 p2 σ) some := by
  unfold f_X8_bound
  refine z_iload_n hC dX8_bound_0 rfl ?_
  refine z_iload_n hC dX8_bound_1 rfl ?_
  refine z_icmp_ge hC 9 dX8_bound_2 (by decide) (fun h1 => ?_) (fun h1 => ?_)
  · refine z_iload_n hC dX8_bound_9 rfl ?_
    refine z_iload_n hC dX8_bound_10 rfl ?_
    refine z_icmp_le hC 18 dX8_bound_11 (by decide) (fun h2 => ?_) (fun h2 => ?_)
    · refine z_iload_n hC dX8_bound_18 rfl ?_
      exact z_iret hC dX8_bound_19
    · refine z_iload_n hC dX8_bound_14 rfl ?_
      refine z_goto hC 19 dX8_bound_15 (by decide) ?_
      exact z_iret hC dX8_bound_19
  · refine z_iload_n hC dX8_bound_5 rfl ?_
    refine z_goto hC 19 dX8_bound_6 (by decide) ?_
    exact z_iret hC dX8_bound_19
theorem c_X8_bound (p0 : Int32) (p1 : Int32) (p2 : Int32) : zM layM nM yX8_bound cX8_bound 3 (some .int) (zRm 0 0) (fun ad => [.int p0, .int p1, .int p2]) (f_X8_bound p0 p1 p2) := zM_of (own := RX8) (by decide) rfl (fun ad w hw => by simp only [List.mem_cons, List.not_mem_nil, or_false] at hw; (first | exact hw.elim | (rcases hw with rfl | rfl | rfl <;> rfl))) (fun ad => Nat.le_of_ble_eq_true rfl) (fun Γ ad hC σ => w_X8_bound hC p0 p1 p2 σ)
set_option maxRecDepth 100000 in
set_option maxHeartbeats 4000000 in
theorem w_X8_perform {Γ : zG} {ad : Nat → Nat} (hC : zX Γ layM nM ad cX8_perform RX8 4 (zRm 2 43) none) (p1 : Int32) (σ : zS) : zK Γ layM nM ad 4 none 0 [some (.ref (ad 0)), some (.int p1), none, none] [] σ (f_X8_perform p1 σ) some := by
  unfold f_X8_perform
  refine z_aload_n hC dX8_perform_0 rfl ?_
  refine z_iload_n hC dX8_perform_1 rfl ?_
  refine z_callVi hC [.int p1] (c_X8_holds p1) yy_X8_holds wl_X8_111 dX8_perform_2 ltM_0 layM_0 vcz_X8 rfl rfl rfl (Nat.le_of_ble_eq_true rfl) (by decide) (fun r1 σ2 _ => ?_)
  refine z_if_ne hC 9 dX8_perform_5 (by decide) (fun h3 => ?_) (fun h3 => ?_)
  · refine z_aload_n hC dX8_perform_9 rfl ?_
    refine z_getr hC wf_X8_29 dX8_perform_10 ltM_0 layM_0 rfl ?_
    refine z_iload_n hC dX8_perform_13 rfl ?_
    refine z_iald hC dX8_perform_14 ltM_6 layM_6 (fun h4 => ?_)
    refine z_istore_n hC dX8_perform_15 (lv' := [some (.ref (ad 0)), some (.int p1), some (.int (σ2 6 p1.toNatClampNeg)), none]) (by decide) rfl ?_
    refine z_aload_n hC dX8_perform_16 rfl ?_
    refine z_getr hC wf_X8_32 dX8_perform_17 ltM_0 layM_0 rfl ?_
    refine z_iload_n hC dX8_perform_20 rfl ?_
    refine z_iald hC dX8_perform_21 ltM_7 layM_7 (fun h5 => ?_)
    refine z_istore_n hC dX8_perform_22 (lv' := [some (.ref (ad 0)), some (.int p1), some (.int (σ2 6 p1.toNatClampNeg)), some (.int (σ2 7 p1.toNatClampNeg))]) (by decide) rfl ?_
    refine z_aload_n hC dX8_perform_23 rfl ?_
    refine z_getr hC wf_X8_26 dX8_perform_24 ltM_0 layM_0 rfl ?_
    refine z_iload_n hC dX8_perform_27 rfl ?_
    refine z_iald hC dX8_perform_28 ltM_5 layM_5 (fun h6 => ?_)
    refine z_ite (fun h7 => ?_) (fun h7 => ?_)
    · refine z_tabIn hC 76 dX8_perform_29 0 h7 (by decide) (by decide) rfl (by decide) ?_
      refine z_aload_n hC dX8_perform_76 rfl ?_
      refine z_getr hC wf_X8_7 dX8_perform_77 ltM_0 layM_0 rfl ?_
      refine z_iconst hC dX8_perform_80 ki_4 ?_
      refine z_iload_n hC dX8_perform_81 rfl ?_
      refine z_iadd hC dX8_perform_82 ?_
      refine z_aload_n hC dX8_perform_83 rfl ?_
      refine z_getr hC wf_X8_7 dX8_perform_84 ltM_0 layM_0 rfl ?_
      refine z_iconst hC dX8_perform_87 ki_4 ?_
      refine z_iload_n hC dX8_perform_88 rfl ?_
      refine z_iadd hC dX8_perform_89 ?_
      refine z_iald hC dX8_perform_90 ltM_1 layM_1 (fun h8 => ?_)
      refine z_iload_n hC dX8_perform_91 rfl ?_
      refine z_iadd hC dX8_perform_92 ?_
      refine z_sipush hC dX8_perform_93 ks_m1000 ?_
      refine z_sipush hC dX8_perform_96 ks_1000 ?_
      refine z_callSi hC [.int ((σ2 1 (4 + (σ2 6 p1.toNatClampNeg)).toNatClampNeg) + (σ2 7 p1.toNatClampNeg)), .int (-1000), .int 1000] (c_X8_bound ((σ2 1 (4 + (σ2 6 p1.toNatClampNeg)).toNatClampNeg) + (σ2 7 p1.toNatClampNeg)) (-1000) 1000) yy_X8_bound wl_X8_115 dX8_perform_99 rfl rfl rfl (Nat.le_of_ble_eq_true rfl) (by decide) (fun r9 σ10 _ => ?_)
      refine z_iast hC dX8_perform_102 ltM_1 layM_1 (fun h11 => ?_)
      refine z_let (fun σ12 _ => ?_)
      refine z_goto hC 332 dX8_perform_103 (by decide) ?_
      exact z_vret hC dX8_perform_332
    refine z_ite (fun h13 => ?_) (fun h13 => ?_)
    · refine z_tabIn hC 106 dX8_perform_29 1 h13 (by decide) (by decide) rfl (by decide) ?_
      refine z_iload_n hC dX8_perform_106 rfl ?_
      refine z_aload_n hC dX8_perform_107 rfl ?_
      refine z_geti hC wf_X8_105 dX8_perform_108 ltM_0 layM_0 rfl ?_
      refine z_callSi hC [.int (σ2 6 p1.toNatClampNeg), .int (σ2 0 19)] (c_X8_isOf (σ2 6 p1.toNatClampNeg) (σ2 0 19)) yy_X8_isOf wl_X8_89 dX8_perform_111 rfl rfl rfl (Nat.le_of_ble_eq_true rfl) (by decide) (fun r14 σ15 _ => ?_)
      refine z_if_eq hC 332 dX8_perform_114 (by decide) (fun h16 => ?_) (fun h16 => ?_)
      · exact z_vret hC dX8_perform_332
      · refine z_aload_n hC dX8_perform_117 rfl ?_
        refine z_getr hC wf_X8_7 dX8_perform_118 ltM_0 layM_0 rfl ?_
        refine z_bipush hC dX8_perform_121 kb_47 ?_
        refine z_iload_n hC dX8_perform_123 rfl ?_
        refine z_iadd hC dX8_perform_124 ?_
        refine z_aload_n hC dX8_perform_125 rfl ?_
        refine z_getr hC wf_X8_54 dX8_perform_126 ltM_0 layM_0 rfl ?_
        refine z_iload_n hC dX8_perform_129 rfl ?_
        refine z_iald hC dX8_perform_130 ltM_14 layM_14 (fun h17 => ?_)
        refine z_iast hC dX8_perform_131 ltM_1 layM_1 (fun h18 => ?_)
        refine z_let (fun σ19 _ => ?_)
        refine z_aload_n hC dX8_perform_132 rfl ?_
        refine z_getr hC wf_X8_66 dX8_perform_133 ltM_0 layM_0 rfl ?_
        refine z_iload_n hC dX8_perform_136 rfl ?_
        refine z_iconst hC dX8_perform_137 ki_1 ?_
        refine z_zast hC dX8_perform_138 ltM_18 layM_18 (fun h20 => ?_)
        refine z_let (fun σ21 _ => ?_)
        refine z_goto hC 332 dX8_perform_139 (by decide) ?_
        exact z_vret hC dX8_perform_332
    refine z_ite (fun h22 => ?_) (fun h22 => ?_)
    · refine z_tabIn hC 142 dX8_perform_29 2 h22 (by decide) (by decide) rfl (by decide) ?_
      refine z_iload_n hC dX8_perform_142 rfl ?_
      refine z_aload_n hC dX8_perform_143 rfl ?_
      refine z_geti hC wf_X8_105 dX8_perform_144 ltM_0 layM_0 rfl ?_
      refine z_callSi hC [.int (σ2 6 p1.toNatClampNeg), .int (σ2 0 19)] (c_X8_isOf (σ2 6 p1.toNatClampNeg) (σ2 0 19)) yy_X8_isOf wl_X8_89 dX8_perform_147 rfl rfl rfl (Nat.le_of_ble_eq_true rfl) (by decide) (fun r23 σ24 _ => ?_)
      refine z_if_eq hC 332 dX8_perform_150 (by decide) (fun h25 => ?_) (fun h25 => ?_)
      · exact z_vret hC dX8_perform_332
      · refine z_aload_n hC dX8_perform_153 rfl ?_
        refine z_getr hC wf_X8_7 dX8_perform_154 ltM_0 layM_0 rfl ?_
        refine z_bipush hC dX8_perform_157 kb_47 ?_
        refine z_iload_n hC dX8_perform_159 rfl ?_
        refine z_iadd hC dX8_perform_160 ?_
        refine z_iconst hC dX8_perform_161 ki_0 ?_
        refine z_iast hC dX8_perform_162 ltM_1 layM_1 (fun h26 => ?_)
        refine z_let (fun σ27 _ => ?_)
        refine z_goto hC 332 dX8_perform_163 (by decide) ?_
        exact z_vret hC dX8_perform_332
    refine z_ite (fun h28 => ?_) (fun h28 => ?_)
    · refine z_tabIn hC 166 dX8_perform_29 3 h28 (by decide) (by decide) rfl (by decide) ?_
      refine z_iload_n hC dX8_perform_166 rfl ?_
      refine z_aload_n hC dX8_perform_167 rfl ?_
      refine z_geti hC wf_X8_108 dX8_perform_168 ltM_0 layM_0 rfl ?_
      refine z_callSi hC [.int (σ2 6 p1.toNatClampNeg), .int (σ2 0 23)] (c_X8_isOf (σ2 6 p1.toNatClampNeg) (σ2 0 23)) yy_X8_isOf wl_X8_89 dX8_perform_171 rfl rfl rfl (Nat.le_of_ble_eq_true rfl) (by decide) (fun r29 σ30 _ => ?_)
      refine z_if_eq hC 332 dX8_perform_174 (by decide) (fun h31 => ?_) (fun h31 => ?_)
      · exact z_vret hC dX8_perform_332
      · refine z_aload_n hC dX8_perform_177 rfl ?_
        refine z_getr hC wf_X8_7 dX8_perform_178 ltM_0 layM_0 rfl ?_
        refine z_bipush hC dX8_perform_181 kb_59 ?_
        refine z_iload_n hC dX8_perform_183 rfl ?_
        refine z_iadd hC dX8_perform_184 ?_
        refine z_iconst hC dX8_perform_185 ki_1 ?_
        refine z_iast hC dX8_perform_186 ltM_1 layM_1 (fun h32 => ?_)
        refine z_let (fun σ33 _ => ?_)
        refine z_goto hC 332 dX8_perform_187 (by decide) ?_
        exact z_vret hC dX8_perform_332
    refine z_ite (fun h34 => ?_) (fun h34 => ?_)
    · refine z_tabIn hC 190 dX8_perform_29 4 h34 (by decide) (by decide) rfl (by decide) ?_
      refine z_iload_n hC dX8_perform_190 rfl ?_
      refine z_aload_n hC dX8_perform_191 rfl ?_
      refine z_geti hC wf_X8_108 dX8_perform_192 ltM_0 layM_0 rfl ?_
      refine z_callSi hC [.int (σ2 6 p1.toNatClampNeg), .int (σ2 0 23)] (c_X8_isOf (σ2 6 p1.toNatClampNeg) (σ2 0 23)) yy_X8_isOf wl_X8_89 dX8_perform_195 rfl rfl rfl (Nat.le_of_ble_eq_true rfl) (by decide) (fun r35 σ36 _ => ?_)
      refine z_if_eq hC 332 dX8_perform_198 (by decide) (fun h37 => ?_) (fun h37 => ?_)
      · exact z_vret hC dX8_perform_332
      · refine z_aload_n hC dX8_perform_201 rfl ?_
        refine z_getr hC wf_X8_7 dX8_perform_202 ltM_0 layM_0 rfl ?_
        refine z_bipush hC dX8_perform_205 kb_59 ?_
        refine z_iload_n hC dX8_perform_207 rfl ?_
        refine z_iadd hC dX8_perform_208 ?_
        refine z_iconst hC dX8_perform_209 ki_0 ?_
        refine z_iast hC dX8_perform_210 ltM_1 layM_1 (fun h38 => ?_)
        refine z_let (fun σ39 _ => ?_)
        refine z_goto hC 332 dX8_perform_211 (by decide) ?_
        exact z_vret hC dX8_perform_332
    refine z_ite (fun h40 => ?_) (fun h40 => ?_)
    · refine z_tabIn hC 214 dX8_perform_29 5 h40 (by decide) (by decide) rfl (by decide) ?_
      refine z_iload_n hC dX8_perform_214 rfl ?_
      refine z_aload_n hC dX8_perform_215 rfl ?_
      refine z_geti hC wf_X8_93 dX8_perform_216 ltM_0 layM_0 rfl ?_
      refine z_callSi hC [.int (σ2 6 p1.toNatClampNeg), .int (σ2 0 5)] (c_X8_isOf (σ2 6 p1.toNatClampNeg) (σ2 0 5)) yy_X8_isOf wl_X8_89 dX8_perform_219 rfl rfl rfl (Nat.le_of_ble_eq_true rfl) (by decide) (fun r41 σ42 _ => ?_)
      refine z_if_eq hC 332 dX8_perform_222 (by decide) (fun h43 => ?_) (fun h43 => ?_)
      · exact z_vret hC dX8_perform_332
      · refine z_aload_n hC dX8_perform_225 rfl ?_
        refine z_getr hC wf_X8_7 dX8_perform_226 ltM_0 layM_0 rfl ?_
        refine z_bipush hC dX8_perform_229 kb_12 ?_
        refine z_iload_n hC dX8_perform_231 rfl ?_
        refine z_iadd hC dX8_perform_232 ?_
        refine z_iconst hC dX8_perform_233 ki_1 ?_
        refine z_aload_n hC dX8_perform_234 rfl ?_
        refine z_getr hC wf_X8_7 dX8_perform_235 ltM_0 layM_0 rfl ?_
        refine z_bipush hC dX8_perform_238 kb_12 ?_
        refine z_iload_n hC dX8_perform_240 rfl ?_
        refine z_iadd hC dX8_perform_241 ?_
        refine z_iald hC dX8_perform_242 ltM_1 layM_1 (fun h44 => ?_)
        refine z_isub hC dX8_perform_243 ?_
        refine z_iast hC dX8_perform_244 ltM_1 layM_1 (fun h45 => ?_)
        refine z_let (fun σ46 _ => ?_)
        refine z_goto hC 332 dX8_perform_245 (by decide) ?_
        exact z_vret hC dX8_perform_332
    refine z_ite (fun h47 => ?_) (fun h47 => ?_)
    · refine z_tabIn hC 248 dX8_perform_29 6 h47 (by decide) (by decide) rfl (by decide) ?_
      refine z_iload_n hC dX8_perform_248 rfl ?_
      refine z_aload_n hC dX8_perform_249 rfl ?_
      refine z_geti hC wf_X8_96 dX8_perform_250 ltM_0 layM_0 rfl ?_
      refine z_callSi hC [.int (σ2 6 p1.toNatClampNeg), .int (σ2 0 8)] (c_X8_isOf (σ2 6 p1.toNatClampNeg) (σ2 0 8)) yy_X8_isOf wl_X8_89 dX8_perform_253 rfl rfl rfl (Nat.le_of_ble_eq_true rfl) (by decide) (fun r48 σ49 _ => ?_)
      refine z_if_eq hC 332 dX8_perform_256 (by decide) (fun h50 => ?_) (fun h50 => ?_)
      · exact z_vret hC dX8_perform_332
      · refine z_iload_n hC dX8_perform_259 rfl ?_
        refine z_aload_n hC dX8_perform_260 rfl ?_
        refine z_geti hC wf_X8_82 dX8_perform_261 ltM_0 layM_0 rfl ?_
        refine z_callSi hC [.int (σ2 7 p1.toNatClampNeg), .int (σ49 0 4)] (c_X8_isOf (σ2 7 p1.toNatClampNeg) (σ49 0 4)) yy_X8_isOf wl_X8_89 dX8_perform_264 rfl rfl rfl (Nat.le_of_ble_eq_true rfl) (by decide) (fun r51 σ52 _ => ?_)
        refine z_if_eq hC 332 dX8_perform_267 (by decide) (fun h53 => ?_) (fun h53 => ?_)
        · exact z_vret hC dX8_perform_332
        · refine z_aload_n hC dX8_perform_270 rfl ?_
          refine z_getr hC wf_X8_7 dX8_perform_271 ltM_0 layM_0 rfl ?_
          refine z_bipush hC dX8_perform_274 kb_31 ?_
          refine z_iload_n hC dX8_perform_276 rfl ?_
          refine z_iadd hC dX8_perform_277 ?_
          refine z_aload_n hC dX8_perform_278 rfl ?_
          refine z_getr hC wf_X8_7 dX8_perform_279 ltM_0 layM_0 rfl ?_
          refine z_bipush hC dX8_perform_282 kb_27 ?_
          refine z_iload_n hC dX8_perform_284 rfl ?_
          refine z_iadd hC dX8_perform_285 ?_
          refine z_iald hC dX8_perform_286 ltM_1 layM_1 (fun h54 => ?_)
          refine z_iload_n hC dX8_perform_287 rfl ?_
          refine z_icmp_ne hC 295 dX8_perform_288 (by decide) (fun h55 => ?_) (fun h55 => ?_)
          · refine z_iload_n hC dX8_perform_295 rfl ?_
            refine z_iast hC dX8_perform_296 ltM_1 layM_1 (fun h56 => ?_)
            refine z_let (fun σ57 _ => ?_)
            refine z_goto hC 332 dX8_perform_297 (by decide) ?_
            exact z_vret hC dX8_perform_332
          · refine z_iconst hC dX8_perform_291 ki_m1 ?_
            refine z_goto hC 296 dX8_perform_292 (by decide) ?_
            refine z_iast hC dX8_perform_296 ltM_1 layM_1 (fun h58 => ?_)
            refine z_let (fun σ59 _ => ?_)
            refine z_goto hC 332 dX8_perform_297 (by decide) ?_
            exact z_vret hC dX8_perform_332
    refine z_ite (fun h60 => ?_) (fun h60 => ?_)
    · refine z_tabIn hC 300 dX8_perform_29 7 h60 (by decide) (by decide) rfl (by decide) ?_
      refine z_aload_n hC dX8_perform_300 rfl ?_
      refine z_aload_n hC dX8_perform_301 rfl ?_
      refine z_geti hC wf_X8_119 dX8_perform_302 ltM_0 layM_0 rfl ?_
      refine z_chk (fun h61 => ?_)
      refine z_putz hC wp_X8_123 h61 dX8_perform_305 ltM_0 layM_0 rfl ?_
      refine z_let (fun σ62 _ => ?_)
      refine z_goto hC 332 dX8_perform_308 (by decide) ?_
      exact z_vret hC dX8_perform_332
    refine z_tabOut hC 311 dX8_perform_29 (by have := And.intro (lv_neT h7 (a := 0) (by decide)) (And.intro (lv_neT h13 (a := 1) (by decide)) (And.intro (lv_neT h22 (a := 2) (by decide)) (And.intro (lv_neT h28 (a := 3) (by decide)) (And.intro (lv_neT h34 (a := 4) (by decide)) (And.intro (lv_neT h40 (a := 5) (by decide)) (And.intro (lv_neT h47 (a := 6) (by decide)) (lv_neT h60 (a := 7) (by decide)))))))); omega) (by decide) ?_
    refine z_aload_n hC dX8_perform_311 rfl ?_
    refine z_getr hC wf_X8_7 dX8_perform_312 ltM_0 layM_0 rfl ?_
    refine z_iconst hC dX8_perform_315 ki_3 ?_
    refine z_aload_n hC dX8_perform_316 rfl ?_
    refine z_getr hC wf_X8_7 dX8_perform_317 ltM_0 layM_0 rfl ?_
    refine z_iconst hC dX8_perform_320 ki_3 ?_
    refine z_iald hC dX8_perform_321 ltM_1 layM_1 (fun h63 => ?_)
    refine z_iload_n hC dX8_perform_322 rfl ?_
    refine z_iadd hC dX8_perform_323 ?_
    refine z_iconst hC dX8_perform_324 ki_0 ?_
    refine z_sipush hC dX8_perform_325 ks_600 ?_
    refine z_callSi hC [.int ((σ2 1 (3 : Int32).toNatClampNeg) + (σ2 7 p1.toNatClampNeg)), .int 0, .int 600] (c_X8_bound ((σ2 1 (3 : Int32).toNatClampNeg) + (σ2 7 p1.toNatClampNeg)) 0 600) yy_X8_bound wl_X8_115 dX8_perform_328 rfl rfl rfl (Nat.le_of_ble_eq_true rfl) (by decide) (fun r64 σ65 _ => ?_)
    refine z_iast hC dX8_perform_331 ltM_1 layM_1 (fun h66 => ?_)
    refine z_let (fun σ67 _ => ?_)
    exact z_vret hC dX8_perform_332
  · exact z_vret hC dX8_perform_8
theorem c_X8_perform (p1 : Int32) : zM layM nM yX8_perform cX8_perform 4 none (zRm 2 43) (fun ad => [.ref (ad 0), .int p1]) (f_X8_perform p1) := zM_of (own := RX8) (by decide) rfl (fun ad w hw => by simp only [List.mem_cons, List.not_mem_nil, or_false] at hw; (first | exact hw.elim | (rcases hw with rfl | rfl <;> rfl))) (fun ad => Nat.le_of_ble_eq_true rfl) (fun Γ ad hC σ => w_X8_perform hC p1 σ)
set_option maxRecDepth 100000 in
set_option maxHeartbeats 4000000 in
theorem w_X8_changed {Γ : zG} {ad : Nat → Nat} (hC : zX Γ layM nM ad cX8_changed RX8 2 (zRm 0 0) (some .int)) (p1 : Int32) (σ : zS) : zK Γ layM nM ad 2 (some .int) 0 [some (.ref (ad 0)), some (.int p1)] [] σ (f_X8_changed p1 σ) some := by
  unfold f_X8_changed
  refine z_aload_n hC dX8_changed_0 rfl ?_
  refine z_iconst hC dX8_changed_1 ki_0 ?_
  refine z_puti hC wp_X8_75 dX8_changed_2 ltM_0 layM_0 rfl ?_
  refine z_let (fun σ1 _ => ?_)
  refine z_iload_n hC dX8_changed_5 rfl ?_
  exact z_iret hC dX8_changed_6
theorem c_X8_changed (p1 : Int32) : zM layM nM yX8_changed cX8_changed 2 (some .int) (zRm 0 0) (fun ad => [.ref (ad 0), .int p1]) (f_X8_changed p1) := zM_of (own := RX8) (by decide) rfl (fun ad w hw => by simp only [List.mem_cons, List.not_mem_nil, or_false] at hw; (first | exact hw.elim | (rcases hw with rfl | rfl <;> rfl))) (fun ad => Nat.le_of_ble_eq_true rfl) (fun Γ ad hC σ => w_X8_changed hC p1 σ)
set_option maxRecDepth 100000 in
set_option maxHeartbeats 4000000 in
theorem w_X8_act {Γ : zG} {ad : Nat → Nat} (hC : zX Γ layM nM ad cX8_act RX8 3 (zRm 3 66) (some .int)) (p1 : Int32) (σ : zS) : zK Γ layM nM ad 3 (some .int) 0 [some (.ref (ad 0)), some (.int p1), none] [] σ (f_X8_act p1 σ) some := by
  unfold f_X8_act
  refine z_iload_n hC dX8_act_0 rfl ?_
  refine z_aload_n hC dX8_act_1 rfl ?_
  refine z_geti hC wf_X8_99 dX8_act_2 ltM_0 layM_0 rfl ?_
  refine z_callSi hC [.int p1, .int (σ 0 9)] (c_X8_isOf p1 (σ 0 9)) yy_X8_isOf wl_X8_89 dX8_act_5 rfl rfl rfl (Nat.le_of_ble_eq_true rfl) (by decide) (fun r1 σ2 _ => ?_)
  refine z_if_ne hC 14 dX8_act_8 (by decide) (fun h3 => ?_) (fun h3 => ?_)
  · refine z_aload_n hC dX8_act_14 rfl ?_
    refine z_iload_n hC dX8_act_15 rfl ?_
    refine z_callVi hC [.int p1] (c_X8_holds p1) yy_X8_holds wl_X8_111 dX8_act_16 ltM_0 layM_0 vcz_X8 rfl rfl rfl (Nat.le_of_ble_eq_true rfl) (by decide) (fun r4 σ5 _ => ?_)
    refine z_if_eq hC 26 dX8_act_19 (by decide) (fun h6 => ?_) (fun h6 => ?_)
    · refine z_iconst hC dX8_act_26 ki_0 ?_
      refine z_istore_n hC dX8_act_27 (lv' := [some (.ref (ad 0)), some (.int p1), some (.int 0)]) (by decide) rfl ?_
      refine z_aload_n hC dX8_act_28 rfl ?_
      refine z_iload_n hC dX8_act_29 rfl ?_
      refine z_callVv hC [.int p1] (c_X8_perform p1) yy_X8_perform wl_X8_126 dX8_act_30 ltM_0 layM_0 vcz_X8 rfl rfl rfl (Nat.le_of_ble_eq_true rfl) (by decide) (fun r7 σ8 _ => ?_)
      refine z_aload_n hC dX8_act_33 rfl ?_
      refine z_iload_n hC dX8_act_34 rfl ?_
      refine z_callVi hC [.int 0] (c_X8_changed 0) yy_X8_changed wl_X8_85 dX8_act_35 ltM_0 layM_0 vcz_X8 rfl rfl rfl (Nat.le_of_ble_eq_true rfl) (by decide) (fun r9 σ10 _ => ?_)
      exact z_iret hC dX8_act_38
    · refine z_iconst hC dX8_act_22 ki_1 ?_
      refine z_goto hC 27 dX8_act_23 (by decide) ?_
      refine z_istore_n hC dX8_act_27 (lv' := [some (.ref (ad 0)), some (.int p1), some (.int 1)]) (by decide) rfl ?_
      refine z_aload_n hC dX8_act_28 rfl ?_
      refine z_iload_n hC dX8_act_29 rfl ?_
      refine z_callVv hC [.int p1] (c_X8_perform p1) yy_X8_perform wl_X8_126 dX8_act_30 ltM_0 layM_0 vcz_X8 rfl rfl rfl (Nat.le_of_ble_eq_true rfl) (by decide) (fun r11 σ12 _ => ?_)
      refine z_aload_n hC dX8_act_33 rfl ?_
      refine z_iload_n hC dX8_act_34 rfl ?_
      refine z_callVi hC [.int 1] (c_X8_changed 1) yy_X8_changed wl_X8_85 dX8_act_35 ltM_0 layM_0 vcz_X8 rfl rfl rfl (Nat.le_of_ble_eq_true rfl) (by decide) (fun r13 σ14 _ => ?_)
      exact z_iret hC dX8_act_38
  · refine z_bipush hC dX8_act_11 kb_m2 ?_
    exact z_iret hC dX8_act_13
theorem c_X8_act (p1 : Int32) : zM layM nM yX8_act cX8_act 3 (some .int) (zRm 3 66) (fun ad => [.ref (ad 0), .int p1]) (f_X8_act p1) := zM_of (own := RX8) (by decide) rfl (fun ad w hw => by simp only [List.mem_cons, List.not_mem_nil, or_false] at hw; (first | exact hw.elim | (rcases hw with rfl | rfl <;> rfl))) (fun ad => Nat.le_of_ble_eq_true rfl) (fun Γ ad hC σ => w_X8_act hC p1 σ)
set_option maxRecDepth 100000 in
set_option maxHeartbeats 4000000 in
theorem t_X8_back_L22 {Γ : zG} {ad : Nat → Nat} (hC : zX Γ layM nM ad cX8_back RX8 2 (zRm 0 0) (some .int)) (a0 : Int32 × zS) (K : Bool × (Int32 × zS) → Option (Int32 × zS)) (hc : ∀ (x0 : Int32) (s' : zS), zZ Γ layM nM ad 2 (some .int) 22 [some (.ref (ad 0)), some (.int x0)] [] s' (K (true, (x0, s')))) (hx : ∀ (x0 : Int32) (s' : zS), zZ Γ layM nM ad 2 (some .int) 56 [some (.ref (ad 0)), some (.int x0)] [] s' (K (false, (x0, s')))) : zK Γ layM nM ad 2 (some .int) 22 [some (.ref (ad 0)), some (.int a0.1)] [] (a0.2) (b_X8_back_L22 a0) K := by
  unfold b_X8_back_L22
  refine z_iload_n hC dX8_back_22 rfl ?_
  refine z_sipush hC dX8_back_23 ks_192 ?_
  refine z_icmp_ge hC 56 dX8_back_26 (by decide) (fun h3 => ?_) (fun h3 => ?_)
  · exact z_leaf (hx a0.1 a0.2)
  · refine z_aload_n hC dX8_back_29 rfl ?_
    refine z_getr hC wf_X8_7 dX8_back_30 ltM_0 layM_0 rfl ?_
    refine z_iload_n hC dX8_back_33 rfl ?_
    refine z_aload_n hC dX8_back_34 rfl ?_
    refine z_getr hC wf_X8_13 dX8_back_35 ltM_0 layM_0 rfl ?_
    refine z_sipush hC dX8_back_38 ks_192 ?_
    refine z_aload_n hC dX8_back_41 rfl ?_
    refine z_geti hC wf_X8_75 dX8_back_42 ltM_0 layM_0 rfl ?_
    refine z_imul hC dX8_back_45 ?_
    refine z_iload_n hC dX8_back_46 rfl ?_
    refine z_iadd hC dX8_back_47 ?_
    refine z_iald hC dX8_back_48 ltM_2 layM_2 (fun h4 => ?_)
    refine z_iast hC dX8_back_49 ltM_1 layM_1 (fun h5 => ?_)
    refine z_let (fun σ6 _ => ?_)
    refine z_iinc hC dX8_back_50 (lv' := [some (.ref (ad 0)), some (.int (a0.1 + 1))]) rfl (by decide) ki_1 rfl ?_
    refine z_goto hC 22 dX8_back_53 (by decide) ?_
    exact z_leaf (hc (a0.1 + 1) σ6)
set_option maxRecDepth 100000 in
set_option maxHeartbeats 4000000 in
theorem w_X8_back {Γ : zG} {ad : Nat → Nat} (hC : zX Γ layM nM ad cX8_back RX8 2 (zRm 0 0) (some .int)) (σ : zS) : zK Γ layM nM ad 2 (some .int) 0 [some (.ref (ad 0)), none] [] σ (f_X8_back σ) some := by
  unfold f_X8_back
  refine z_aload_n hC dX8_back_0 rfl ?_
  refine z_geti hC wf_X8_75 dX8_back_1 ltM_0 layM_0 rfl ?_
  refine z_if_ne hC 10 dX8_back_4 (by decide) (fun h1 => ?_) (fun h1 => ?_)
  · refine z_aload_n hC dX8_back_10 rfl ?_
    refine z_dup hC dX8_back_11 rfl ?_
    refine z_geti hC wf_X8_75 dX8_back_12 ltM_0 layM_0 rfl ?_
    refine z_iconst hC dX8_back_15 ki_1 ?_
    refine z_isub hC dX8_back_16 ?_
    refine z_puti hC wp_X8_75 dX8_back_17 ltM_0 layM_0 rfl ?_
    refine z_let (fun σ2 _ => ?_)
    refine z_iconst hC dX8_back_20 ki_0 ?_
    refine z_istore_n hC dX8_back_21 (lv' := [some (.ref (ad 0)), some (.int 0)]) (by decide) rfl ?_
    refine z_lpb (lvf := fun z : Int32 × zS => [some (.ref (ad 0)), some (.int z.1)]) (sg := fun z => z.2) (x := 56) zfuel (0, σ2) rfl rfl (fun z K hc hx => t_X8_back_L22 hC z K (fun x0 s' => hc (x0, s')) (fun x0 s' => hx (x0, s'))) (fun a7 => ?_)
    refine z_aload_n hC dX8_back_56 rfl ?_
    refine z_geti hC wf_X8_75 dX8_back_57 ltM_0 layM_0 rfl ?_
    exact z_iret hC dX8_back_60
  · refine z_bipush hC dX8_back_7 kb_m4 ?_
    exact z_iret hC dX8_back_9
theorem c_X8_back : zM layM nM yX8_back cX8_back 2 (some .int) (zRm 0 0) (fun ad => [.ref (ad 0)]) (f_X8_back) := zM_of (own := RX8) (by decide) rfl (fun ad w hw => by simp only [List.mem_cons, List.not_mem_nil, or_false] at hw; (first | exact hw.elim | (rcases hw with rfl <;> rfl))) (fun ad => Nat.le_of_ble_eq_true rfl) (fun Γ ad hC σ => w_X8_back hC σ)
set_option maxRecDepth 100000 in
set_option maxHeartbeats 4000000 in
theorem w_X8_condition {Γ : zG} {ad : Nat → Nat} (hC : zX Γ layM nM ad cX8_condition RX8 4 (zRm 2 43) (some .int)) (p1 : Int32) (p2 : Int32) (p3 : Int32) (σ : zS) : zK Γ layM nM ad 4 (some .int) 0 [some (.ref (ad 0)), some (.int p1), some (.int p2), some (.int p3)] [] σ (f_X8_condition p1 p2 p3 σ) some := by
  unfold f_X8_condition
  refine z_iload_n hC dX8_condition_0 rfl ?_
  refine z_aload_n hC dX8_condition_1 rfl ?_
  refine z_geti hC wf_X8_99 dX8_condition_2 ltM_0 layM_0 rfl ?_
  refine z_callSi hC [.int p1, .int (σ 0 9)] (c_X8_isOf p1 (σ 0 9)) yy_X8_isOf wl_X8_89 dX8_condition_5 rfl rfl rfl (Nat.le_of_ble_eq_true rfl) (by decide) (fun r1 σ2 _ => ?_)
  refine z_if_ne hC 14 dX8_condition_8 (by decide) (fun h3 => ?_) (fun h3 => ?_)
  · refine z_iload_n hC dX8_condition_14 rfl ?_
    refine z_iconst hC dX8_condition_15 ki_m1 ?_
    refine z_bipush hC dX8_condition_16 kb_7 ?_
    refine z_callSi hC [.int p2, .int (-1), .int 7] (c_X8_in p2 (-1) 7) yy_X8_in wl_X8_78 dX8_condition_18 rfl rfl rfl (Nat.le_of_ble_eq_true rfl) (by decide) (fun r4 σ5 _ => ?_)
    refine z_if_eq hC 37 dX8_condition_21 (by decide) (fun h6 => ?_) (fun h6 => ?_)
    · refine z_bipush hC dX8_condition_37 kb_m3 ?_
      exact z_iret hC dX8_condition_39
    · refine z_iload_n hC dX8_condition_24 rfl ?_
      refine z_sipush hC dX8_condition_25 ks_m1000 ?_
      refine z_sipush hC dX8_condition_28 ks_1000 ?_
      refine z_callSi hC [.int p3, .int (-1000), .int 1000] (c_X8_in p3 (-1000) 1000) yy_X8_in wl_X8_78 dX8_condition_31 rfl rfl rfl (Nat.le_of_ble_eq_true rfl) (by decide) (fun r7 σ8 _ => ?_)
      refine z_if_ne hC 40 dX8_condition_34 (by decide) (fun h9 => ?_) (fun h9 => ?_)
      · refine z_aload_n hC dX8_condition_40 rfl ?_
        refine z_getr hC wf_X8_35 dX8_condition_41 ltM_0 layM_0 rfl ?_
        refine z_iload_n hC dX8_condition_44 rfl ?_
        refine z_iload_n hC dX8_condition_45 rfl ?_
        refine z_iast hC dX8_condition_46 ltM_8 layM_8 (fun h10 => ?_)
        refine z_let (fun σ11 _ => ?_)
        refine z_aload_n hC dX8_condition_47 rfl ?_
        refine z_getr hC wf_X8_38 dX8_condition_48 ltM_0 layM_0 rfl ?_
        refine z_iload_n hC dX8_condition_51 rfl ?_
        refine z_iload_n hC dX8_condition_52 rfl ?_
        refine z_iast hC dX8_condition_53 ltM_9 layM_9 (fun h12 => ?_)
        refine z_let (fun σ13 _ => ?_)
        refine z_aload_n hC dX8_condition_54 rfl ?_
        refine z_iconst hC dX8_condition_55 ki_1 ?_
        refine z_callVi hC [.int 1] (c_X8_changed 1) yy_X8_changed wl_X8_85 dX8_condition_56 ltM_0 layM_0 vcz_X8 rfl rfl rfl (Nat.le_of_ble_eq_true rfl) (by decide) (fun r14 σ15 _ => ?_)
        exact z_iret hC dX8_condition_59
      · refine z_bipush hC dX8_condition_37 kb_m3 ?_
        exact z_iret hC dX8_condition_39
  · refine z_bipush hC dX8_condition_11 kb_m2 ?_
    exact z_iret hC dX8_condition_13
theorem c_X8_condition (p1 : Int32) (p2 : Int32) (p3 : Int32) : zM layM nM yX8_condition cX8_condition 4 (some .int) (zRm 2 43) (fun ad => [.ref (ad 0), .int p1, .int p2, .int p3]) (f_X8_condition p1 p2 p3) := zM_of (own := RX8) (by decide) rfl (fun ad w hw => by simp only [List.mem_cons, List.not_mem_nil, or_false] at hw; (first | exact hw.elim | (rcases hw with rfl | rfl | rfl | rfl <;> rfl))) (fun ad => Nat.le_of_ble_eq_true rfl) (fun Γ ad hC σ => w_X8_condition hC p1 p2 p3 σ)
set_option maxRecDepth 100000 in
set_option maxHeartbeats 4000000 in
theorem w_X8_count {Γ : zG} {ad : Nat → Nat} (hC : zX Γ layM nM ad cX8_count RX8 2 (zRm 0 0) (some .int)) (p1 : Int32) (σ : zS) : zK Γ layM nM ad 2 (some .int) 0 [some (.ref (ad 0)), some (.int p1)] [] σ (f_X8_count p1 σ) some := by
  unfold f_X8_count
  refine z_iload_n hC dX8_count_0 rfl ?_
  refine z_ite (fun h1 => ?_) (fun h1 => ?_)
  · refine z_tabIn hC 40 dX8_count_1 0 h1 (by decide) (by decide) rfl (by decide) ?_
    refine z_aload_n hC dX8_count_40 rfl ?_
    refine z_geti hC wf_X8_82 dX8_count_41 ltM_0 layM_0 rfl ?_
    exact z_iret hC dX8_count_44
  refine z_ite (fun h2 => ?_) (fun h2 => ?_)
  · refine z_tabIn hC 45 dX8_count_1 1 h2 (by decide) (by decide) rfl (by decide) ?_
    refine z_aload_n hC dX8_count_45 rfl ?_
    refine z_geti hC wf_X8_93 dX8_count_46 ltM_0 layM_0 rfl ?_
    exact z_iret hC dX8_count_49
  refine z_ite (fun h3 => ?_) (fun h3 => ?_)
  · refine z_tabIn hC 50 dX8_count_1 2 h3 (by decide) (by decide) rfl (by decide) ?_
    refine z_aload_n hC dX8_count_50 rfl ?_
    refine z_geti hC wf_X8_96 dX8_count_51 ltM_0 layM_0 rfl ?_
    exact z_iret hC dX8_count_54
  refine z_ite (fun h4 => ?_) (fun h4 => ?_)
  · refine z_tabIn hC 55 dX8_count_1 3 h4 (by decide) (by decide) rfl (by decide) ?_
    refine z_aload_n hC dX8_count_55 rfl ?_
    refine z_geti hC wf_X8_99 dX8_count_56 ltM_0 layM_0 rfl ?_
    exact z_iret hC dX8_count_59
  refine z_ite (fun h5 => ?_) (fun h5 => ?_)
  · refine z_tabIn hC 60 dX8_count_1 4 h5 (by decide) (by decide) rfl (by decide) ?_
    refine z_aload_n hC dX8_count_60 rfl ?_
    refine z_geti hC wf_X8_102 dX8_count_61 ltM_0 layM_0 rfl ?_
    exact z_iret hC dX8_count_64
  refine z_ite (fun h6 => ?_) (fun h6 => ?_)
  · refine z_tabIn hC 65 dX8_count_1 5 h6 (by decide) (by decide) rfl (by decide) ?_
    refine z_aload_n hC dX8_count_65 rfl ?_
    refine z_geti hC wf_X8_105 dX8_count_66 ltM_0 layM_0 rfl ?_
    exact z_iret hC dX8_count_69
  refine z_tabOut hC 70 dX8_count_1 (by have := And.intro (lv_neT h1 (a := 0) (by decide)) (And.intro (lv_neT h2 (a := 1) (by decide)) (And.intro (lv_neT h3 (a := 2) (by decide)) (And.intro (lv_neT h4 (a := 3) (by decide)) (And.intro (lv_neT h5 (a := 4) (by decide)) (lv_neT h6 (a := 5) (by decide)))))); omega) (by decide) ?_
  refine z_iload_n hC dX8_count_70 rfl ?_
  refine z_bipush hC dX8_count_71 kb_6 ?_
  refine z_icmp_ne hC 83 dX8_count_73 (by decide) (fun h7 => ?_) (fun h7 => ?_)
  · refine z_bipush hC dX8_count_83 kb_m3 ?_
    exact z_iret hC dX8_count_85
  · refine z_aload_n hC dX8_count_76 rfl ?_
    refine z_geti hC wf_X8_108 dX8_count_77 ltM_0 layM_0 rfl ?_
    refine z_goto hC 85 dX8_count_80 (by decide) ?_
    exact z_iret hC dX8_count_85
theorem c_X8_count (p1 : Int32) : zM layM nM yX8_count cX8_count 2 (some .int) (zRm 0 0) (fun ad => [.ref (ad 0), .int p1]) (f_X8_count p1) := zM_of (own := RX8) (by decide) rfl (fun ad w hw => by simp only [List.mem_cons, List.not_mem_nil, or_false] at hw; (first | exact hw.elim | (rcases hw with rfl | rfl <;> rfl))) (fun ad => Nat.le_of_ble_eq_true rfl) (fun Γ ad hC σ => w_X8_count hC p1 σ)
set_option maxRecDepth 100000 in
set_option maxHeartbeats 4000000 in
theorem w_X8_counter {Γ : zG} {ad : Nat → Nat} (hC : zX Γ layM nM ad cX8_counter RX8 2 (zRm 1 22) (some .int)) (p1 : Int32) (σ : zS) : zK Γ layM nM ad 2 (some .int) 0 [some (.ref (ad 0)), some (.int p1)] [] σ (f_X8_counter p1 σ) some := by
  unfold f_X8_counter
  refine z_iload_n hC dX8_counter_0 rfl ?_
  refine z_iconst hC dX8_counter_1 ki_0 ?_
  refine z_bipush hC dX8_counter_2 kb_7 ?_
  refine z_callSi hC [.int p1, .int 0, .int 7] (c_X8_in p1 0 7) yy_X8_in wl_X8_78 dX8_counter_4 rfl rfl rfl (Nat.le_of_ble_eq_true rfl) (by decide) (fun r1 σ2 _ => ?_)
  refine z_if_eq hC 21 dX8_counter_7 (by decide) (fun h3 => ?_) (fun h3 => ?_)
  · refine z_bipush hC dX8_counter_21 kb_m3 ?_
    exact z_iret hC dX8_counter_23
  · refine z_aload_n hC dX8_counter_10 rfl ?_
    refine z_getr hC wf_X8_7 dX8_counter_11 ltM_0 layM_0 rfl ?_
    refine z_iconst hC dX8_counter_14 ki_4 ?_
    refine z_iload_n hC dX8_counter_15 rfl ?_
    refine z_iadd hC dX8_counter_16 ?_
    refine z_iald hC dX8_counter_17 ltM_1 layM_1 (fun h4 => ?_)
    refine z_goto hC 23 dX8_counter_18 (by decide) ?_
    exact z_iret hC dX8_counter_23
theorem c_X8_counter (p1 : Int32) : zM layM nM yX8_counter cX8_counter 2 (some .int) (zRm 1 22) (fun ad => [.ref (ad 0), .int p1]) (f_X8_counter p1) := zM_of (own := RX8) (by decide) rfl (fun ad w hw => by simp only [List.mem_cons, List.not_mem_nil, or_false] at hw; (first | exact hw.elim | (rcases hw with rfl | rfl <;> rfl))) (fun ad => Nat.le_of_ble_eq_true rfl) (fun Γ ad hC σ => w_X8_counter hC p1 σ)
set_option maxRecDepth 100000 in
set_option maxHeartbeats 4000000 in
theorem w_X8_daemon {Γ : zG} {ad : Nat → Nat} (hC : zX Γ layM nM ad cX8_daemon RX8 3 (zRm 2 43) (some .int)) (p1 : Int32) (p2 : Int32) (σ : zS) : zK Γ layM nM ad 3 (some .int) 0 [some (.ref (ad 0)), some (.int p1), some (.int p2)] [] σ (f_X8_daemon p1 p2 σ) some := by
  unfold f_X8_daemon
  refine z_iload_n hC dX8_daemon_0 rfl ?_
  refine z_aload_n hC dX8_daemon_1 rfl ?_
  refine z_geti hC wf_X8_99 dX8_daemon_2 ltM_0 layM_0 rfl ?_
  refine z_callSi hC [.int p1, .int (σ 0 9)] (c_X8_isOf p1 (σ 0 9)) yy_X8_isOf wl_X8_89 dX8_daemon_5 rfl rfl rfl (Nat.le_of_ble_eq_true rfl) (by decide) (fun r1 σ2 _ => ?_)
  refine z_if_ne hC 14 dX8_daemon_8 (by decide) (fun h3 => ?_) (fun h3 => ?_)
  · refine z_iload_n hC dX8_daemon_14 rfl ?_
    refine z_iconst hC dX8_daemon_15 ki_0 ?_
    refine z_bipush hC dX8_daemon_16 kb_9 ?_
    refine z_callSi hC [.int p2, .int 0, .int 9] (c_X8_in p2 0 9) yy_X8_in wl_X8_78 dX8_daemon_18 rfl rfl rfl (Nat.le_of_ble_eq_true rfl) (by decide) (fun r4 σ5 _ => ?_)
    refine z_if_ne hC 27 dX8_daemon_21 (by decide) (fun h6 => ?_) (fun h6 => ?_)
    · refine z_aload_n hC dX8_daemon_27 rfl ?_
      refine z_geti hC wf_X8_108 dX8_daemon_28 ltM_0 layM_0 rfl ?_
      refine z_bipush hC dX8_daemon_31 kb_12 ?_
      refine z_icmp_ne hC 39 dX8_daemon_33 (by decide) (fun h7 => ?_) (fun h7 => ?_)
      · refine z_aload_n hC dX8_daemon_39 rfl ?_
        refine z_getr hC wf_X8_60 dX8_daemon_40 ltM_0 layM_0 rfl ?_
        refine z_aload_n hC dX8_daemon_43 rfl ?_
        refine z_geti hC wf_X8_108 dX8_daemon_44 ltM_0 layM_0 rfl ?_
        refine z_iload_n hC dX8_daemon_47 rfl ?_
        refine z_iast hC dX8_daemon_48 ltM_16 layM_16 (fun h8 => ?_)
        refine z_let (fun σ9 _ => ?_)
        refine z_aload_n hC dX8_daemon_49 rfl ?_
        refine z_getr hC wf_X8_63 dX8_daemon_50 ltM_0 layM_0 rfl ?_
        refine z_aload_n hC dX8_daemon_53 rfl ?_
        refine z_geti hC wf_X8_108 dX8_daemon_54 ltM_0 layM_0 rfl ?_
        refine z_iload_n hC dX8_daemon_57 rfl ?_
        refine z_iast hC dX8_daemon_58 ltM_17 layM_17 (fun h10 => ?_)
        refine z_let (fun σ11 _ => ?_)
        refine z_aload_n hC dX8_daemon_59 rfl ?_
        refine z_getr hC wf_X8_7 dX8_daemon_60 ltM_0 layM_0 rfl ?_
        refine z_bipush hC dX8_daemon_63 kb_59 ?_
        refine z_aload_n hC dX8_daemon_65 rfl ?_
        refine z_geti hC wf_X8_108 dX8_daemon_66 ltM_0 layM_0 rfl ?_
        refine z_iadd hC dX8_daemon_69 ?_
        refine z_iconst hC dX8_daemon_70 ki_0 ?_
        refine z_iast hC dX8_daemon_71 ltM_1 layM_1 (fun h12 => ?_)
        refine z_let (fun σ13 _ => ?_)
        refine z_aload_n hC dX8_daemon_72 rfl ?_
        refine z_dup hC dX8_daemon_73 rfl ?_
        refine z_geti hC wf_X8_108 dX8_daemon_74 ltM_0 layM_0 rfl ?_
        refine z_iconst hC dX8_daemon_77 ki_1 ?_
        refine z_iadd hC dX8_daemon_78 ?_
        refine z_puti hC wp_X8_108 dX8_daemon_79 ltM_0 layM_0 rfl ?_
        refine z_let (fun σ14 _ => ?_)
        refine z_aload_n hC dX8_daemon_82 rfl ?_
        refine z_aload_n hC dX8_daemon_83 rfl ?_
        refine z_geti hC wf_X8_108 dX8_daemon_84 ltM_0 layM_0 rfl ?_
        refine z_iconst hC dX8_daemon_87 ki_1 ?_
        refine z_isub hC dX8_daemon_88 ?_
        refine z_callVi hC [.int ((σ14 0 23) - 1)] (c_X8_changed ((σ14 0 23) - 1)) yy_X8_changed wl_X8_85 dX8_daemon_89 ltM_0 layM_0 vcz_X8 rfl rfl rfl (Nat.le_of_ble_eq_true rfl) (by decide) (fun r15 σ16 _ => ?_)
        exact z_iret hC dX8_daemon_92
      · refine z_bipush hC dX8_daemon_36 kb_m5 ?_
        exact z_iret hC dX8_daemon_38
    · refine z_bipush hC dX8_daemon_24 kb_m3 ?_
      exact z_iret hC dX8_daemon_26
  · refine z_bipush hC dX8_daemon_11 kb_m2 ?_
    exact z_iret hC dX8_daemon_13
theorem c_X8_daemon (p1 : Int32) (p2 : Int32) : zM layM nM yX8_daemon cX8_daemon 3 (some .int) (zRm 2 43) (fun ad => [.ref (ad 0), .int p1, .int p2]) (f_X8_daemon p1 p2) := zM_of (own := RX8) (by decide) rfl (fun ad w hw => by simp only [List.mem_cons, List.not_mem_nil, or_false] at hw; (first | exact hw.elim | (rcases hw with rfl | rfl | rfl <;> rfl))) (fun ad => Nat.le_of_ble_eq_true rfl) (fun Γ ad hC σ => w_X8_daemon hC p1 p2 σ)
set_option maxRecDepth 100000 in
set_option maxHeartbeats 4000000 in
theorem q_X8_deed_J59 {Γ : zG} {ad : Nat → Nat} (hC : zX Γ layM nM ad cX8_deed RX8 5 (zRm 1 22) (some .int)) (v1 : Int32) (v2 : Int32) (v3 : Int32) (v4 : Int32) (σ : zS) : zK Γ layM nM ad 5 (some .int) 59 [some (.ref (ad 0)), some (.int v1), some (.int v2), some (.int v3), some (.int v4)] [] σ (j_X8_deed_J59 v1 v2 v3 v4 σ) some := by
  unfold j_X8_deed_J59
  refine z_iload hC dX8_deed_59 rfl ?_
  refine z_if_ne hC 67 dX8_deed_61 (by decide) (fun h5 => ?_) (fun h5 => ?_)
  · refine z_aload_n hC dX8_deed_67 rfl ?_
    refine z_geti hC wf_X8_99 dX8_deed_68 ltM_0 layM_0 rfl ?_
    refine z_bipush hC dX8_deed_71 kb_40 ?_
    refine z_icmp_ne hC 79 dX8_deed_73 (by decide) (fun h6 => ?_) (fun h6 => ?_)
    · refine z_aload_n hC dX8_deed_79 rfl ?_
      refine z_getr hC wf_X8_26 dX8_deed_80 ltM_0 layM_0 rfl ?_
      refine z_aload_n hC dX8_deed_83 rfl ?_
      refine z_geti hC wf_X8_99 dX8_deed_84 ltM_0 layM_0 rfl ?_
      refine z_iload_n hC dX8_deed_87 rfl ?_
      refine z_iast hC dX8_deed_88 ltM_5 layM_5 (fun h7 => ?_)
      refine z_let (fun σ8 _ => ?_)
      refine z_aload_n hC dX8_deed_89 rfl ?_
      refine z_getr hC wf_X8_29 dX8_deed_90 ltM_0 layM_0 rfl ?_
      refine z_aload_n hC dX8_deed_93 rfl ?_
      refine z_geti hC wf_X8_99 dX8_deed_94 ltM_0 layM_0 rfl ?_
      refine z_iload_n hC dX8_deed_97 rfl ?_
      refine z_iast hC dX8_deed_98 ltM_6 layM_6 (fun h9 => ?_)
      refine z_let (fun σ10 _ => ?_)
      refine z_aload_n hC dX8_deed_99 rfl ?_
      refine z_getr hC wf_X8_32 dX8_deed_100 ltM_0 layM_0 rfl ?_
      refine z_aload_n hC dX8_deed_103 rfl ?_
      refine z_geti hC wf_X8_99 dX8_deed_104 ltM_0 layM_0 rfl ?_
      refine z_iload_n hC dX8_deed_107 rfl ?_
      refine z_iast hC dX8_deed_108 ltM_7 layM_7 (fun h11 => ?_)
      refine z_let (fun σ12 _ => ?_)
      refine z_aload_n hC dX8_deed_109 rfl ?_
      refine z_getr hC wf_X8_35 dX8_deed_110 ltM_0 layM_0 rfl ?_
      refine z_aload_n hC dX8_deed_113 rfl ?_
      refine z_geti hC wf_X8_99 dX8_deed_114 ltM_0 layM_0 rfl ?_
      refine z_iconst hC dX8_deed_117 ki_m1 ?_
      refine z_iast hC dX8_deed_118 ltM_8 layM_8 (fun h13 => ?_)
      refine z_let (fun σ14 _ => ?_)
      refine z_aload_n hC dX8_deed_119 rfl ?_
      refine z_dup hC dX8_deed_120 rfl ?_
      refine z_geti hC wf_X8_99 dX8_deed_121 ltM_0 layM_0 rfl ?_
      refine z_iconst hC dX8_deed_124 ki_1 ?_
      refine z_iadd hC dX8_deed_125 ?_
      refine z_puti hC wp_X8_99 dX8_deed_126 ltM_0 layM_0 rfl ?_
      refine z_let (fun σ15 _ => ?_)
      refine z_aload_n hC dX8_deed_129 rfl ?_
      refine z_aload_n hC dX8_deed_130 rfl ?_
      refine z_geti hC wf_X8_99 dX8_deed_131 ltM_0 layM_0 rfl ?_
      refine z_iconst hC dX8_deed_134 ki_1 ?_
      refine z_isub hC dX8_deed_135 ?_
      refine z_callVi hC [.int ((σ15 0 9) - 1)] (c_X8_changed ((σ15 0 9) - 1)) yy_X8_changed wl_X8_85 dX8_deed_136 ltM_0 layM_0 vcz_X8 rfl rfl rfl (Nat.le_of_ble_eq_true rfl) (by decide) (fun r16 σ17 _ => ?_)
      exact z_iret hC dX8_deed_139
    · refine z_bipush hC dX8_deed_76 kb_m5 ?_
      exact z_iret hC dX8_deed_78
  · refine z_bipush hC dX8_deed_64 kb_m3 ?_
    exact z_iret hC dX8_deed_66
set_option maxRecDepth 100000 in
set_option maxHeartbeats 4000000 in
theorem q_X8_deed_J43 {Γ : zG} {ad : Nat → Nat} (hC : zX Γ layM nM ad cX8_deed RX8 5 (zRm 1 22) (some .int)) (v1 : Int32) (v2 : Int32) (v3 : Int32) (v4 : Int32) (σ : zS) : zK Γ layM nM ad 5 (some .int) 43 [some (.ref (ad 0)), some (.int v1), some (.int v2), some (.int v3), some (.int v4)] [] σ (j_X8_deed_J43 v1 v2 v3 v4 σ) some := by
  unfold j_X8_deed_J43
  refine z_iload_n hC dX8_deed_43 rfl ?_
  refine z_bipush hC dX8_deed_44 kb_8 ?_
  refine z_icmp_ne hC 59 dX8_deed_46 (by decide) (fun h4 => ?_) (fun h4 => ?_)
  · exact q_X8_deed_J59 hC v1 v2 v3 v4 σ
  · refine z_iload_n hC dX8_deed_49 rfl ?_
    refine z_iconst hC dX8_deed_50 ki_1 ?_
    refine z_sipush hC dX8_deed_51 ks_600 ?_
    refine z_callSi hC [.int v3, .int 1, .int 600] (c_X8_in v3 1 600) yy_X8_in wl_X8_78 dX8_deed_54 rfl rfl rfl (Nat.le_of_ble_eq_true rfl) (by decide) (fun r18 σ19 _ => ?_)
    refine z_istore hC dX8_deed_57 (lv' := [some (.ref (ad 0)), some (.int v1), some (.int v2), some (.int v3), some (.int r18)]) (by decide) rfl ?_
    exact q_X8_deed_J59 hC v1 v2 v3 r18 σ19
set_option maxRecDepth 100000 in
set_option maxHeartbeats 4000000 in
theorem q_X8_deed_J41 {Γ : zG} {ad : Nat → Nat} (hC : zX Γ layM nM ad cX8_deed RX8 5 (zRm 1 22) (some .int)) (v1 : Int32) (v2 : Int32) (v3 : Int32) (v4 : Int32) (s0 : Int32) (σ : zS) : zK Γ layM nM ad 5 (some .int) 41 [some (.ref (ad 0)), some (.int v1), some (.int v2), some (.int v3), some (.int v4)] [.int s0] σ (j_X8_deed_J41 v1 v2 v3 v4 s0 σ) some := by
  unfold j_X8_deed_J41
  refine z_istore hC dX8_deed_41 (lv' := [some (.ref (ad 0)), some (.int v1), some (.int v2), some (.int v3), some (.int s0)]) (by decide) rfl ?_
  exact q_X8_deed_J43 hC v1 v2 v3 s0 σ
set_option maxRecDepth 100000 in
set_option maxHeartbeats 4000000 in
theorem q_X8_deed_J40 {Γ : zG} {ad : Nat → Nat} (hC : zX Γ layM nM ad cX8_deed RX8 5 (zRm 1 22) (some .int)) (v1 : Int32) (v2 : Int32) (v3 : Int32) (v4 : Int32) (σ : zS) : zK Γ layM nM ad 5 (some .int) 40 [some (.ref (ad 0)), some (.int v1), some (.int v2), some (.int v3), some (.int v4)] [] σ (j_X8_deed_J40 v1 v2 v3 v4 σ) some := by
  unfold j_X8_deed_J40
  refine z_iconst hC dX8_deed_40 ki_0 ?_
  exact q_X8_deed_J41 hC v1 v2 v3 v4 0 σ
set_option maxRecDepth 100000 in
set_option maxHeartbeats 4000000 in
theorem w_X8_deed {Γ : zG} {ad : Nat → Nat} (hC : zX Γ layM nM ad cX8_deed RX8 5 (zRm 1 22) (some .int)) (p1 : Int32) (p2 : Int32) (p3 : Int32) (σ : zS) : zK Γ layM nM ad 5 (some .int) 0 [some (.ref (ad 0)), some (.int p1), some (.int p2), some (.int p3), none] [] σ (f_X8_deed p1 p2 p3 σ) some := by
  unfold f_X8_deed
  refine z_iload_n hC dX8_deed_0 rfl ?_
  refine z_iconst hC dX8_deed_1 ki_0 ?_
  refine z_bipush hC dX8_deed_2 kb_8 ?_
  refine z_callSi hC [.int p1, .int 0, .int 8] (c_X8_in p1 0 8) yy_X8_in wl_X8_78 dX8_deed_4 rfl rfl rfl (Nat.le_of_ble_eq_true rfl) (by decide) (fun r1 σ2 _ => ?_)
  refine z_istore hC dX8_deed_7 (lv' := [some (.ref (ad 0)), some (.int p1), some (.int p2), some (.int p3), some (.int r1)]) (by decide) rfl ?_
  refine z_iload_n hC dX8_deed_9 rfl ?_
  refine z_if_ne hC 43 dX8_deed_10 (by decide) (fun h3 => ?_) (fun h3 => ?_)
  · exact q_X8_deed_J43 hC p1 p2 p3 r1 σ2
  · refine z_iload_n hC dX8_deed_13 rfl ?_
    refine z_iconst hC dX8_deed_14 ki_0 ?_
    refine z_bipush hC dX8_deed_15 kb_7 ?_
    refine z_callSi hC [.int p2, .int 0, .int 7] (c_X8_in p2 0 7) yy_X8_in wl_X8_78 dX8_deed_17 rfl rfl rfl (Nat.le_of_ble_eq_true rfl) (by decide) (fun r20 σ21 _ => ?_)
    refine z_if_eq hC 40 dX8_deed_20 (by decide) (fun h22 => ?_) (fun h22 => ?_)
    · exact q_X8_deed_J40 hC p1 p2 p3 r1 σ21
    · refine z_iload_n hC dX8_deed_23 rfl ?_
      refine z_sipush hC dX8_deed_24 ks_m1000 ?_
      refine z_sipush hC dX8_deed_27 ks_1000 ?_
      refine z_callSi hC [.int p3, .int (-1000), .int 1000] (c_X8_in p3 (-1000) 1000) yy_X8_in wl_X8_78 dX8_deed_30 rfl rfl rfl (Nat.le_of_ble_eq_true rfl) (by decide) (fun r23 σ24 _ => ?_)
      refine z_if_eq hC 40 dX8_deed_33 (by decide) (fun h25 => ?_) (fun h25 => ?_)
      · exact q_X8_deed_J40 hC p1 p2 p3 r1 σ24
      · refine z_iconst hC dX8_deed_36 ki_1 ?_
        refine z_goto hC 41 dX8_deed_37 (by decide) ?_
        exact q_X8_deed_J41 hC p1 p2 p3 r1 1 σ24
theorem c_X8_deed (p1 : Int32) (p2 : Int32) (p3 : Int32) : zM layM nM yX8_deed cX8_deed 5 (some .int) (zRm 1 22) (fun ad => [.ref (ad 0), .int p1, .int p2, .int p3]) (f_X8_deed p1 p2 p3) := zM_of (own := RX8) (by decide) rfl (fun ad w hw => by simp only [List.mem_cons, List.not_mem_nil, or_false] at hw; (first | exact hw.elim | (rcases hw with rfl | rfl | rfl | rfl <;> rfl))) (fun ad => Nat.le_of_ble_eq_true rfl) (fun Γ ad hC σ => w_X8_deed hC p1 p2 p3 σ)
end
section
set_option maxRecDepth 100000 in
set_option maxHeartbeats 4000000 in
theorem w_X8_door {Γ : zG} {ad : Nat → Nat} (hC : zX Γ layM nM ad cX8_door RX8 3 (zRm 2 43) (some .int)) (p1 : Int32) (p2 : Int32) (σ : zS) : zK Γ layM nM ad 3 (some .int) 0 [some (.ref (ad 0)), some (.int p1), some (.int p2)] [] σ (f_X8_door p1 p2 σ) some := by
  unfold f_X8_door
  refine z_iload_n hC dX8_door_0 rfl ?_
  refine z_aload_n hC dX8_door_1 rfl ?_
  refine z_geti hC wf_X8_82 dX8_door_2 ltM_0 layM_0 rfl ?_
  refine z_callSi hC [.int p1, .int (σ 0 4)] (c_X8_isOf p1 (σ 0 4)) yy_X8_isOf wl_X8_89 dX8_door_5 rfl rfl rfl (Nat.le_of_ble_eq_true rfl) (by decide) (fun r1 σ2 _ => ?_)
  refine z_if_eq hC 22 dX8_door_8 (by decide) (fun h3 => ?_) (fun h3 => ?_)
  · refine z_bipush hC dX8_door_22 kb_m2 ?_
    exact z_iret hC dX8_door_24
  · refine z_iload_n hC dX8_door_11 rfl ?_
    refine z_aload_n hC dX8_door_12 rfl ?_
    refine z_geti hC wf_X8_82 dX8_door_13 ltM_0 layM_0 rfl ?_
    refine z_callSi hC [.int p2, .int (σ2 0 4)] (c_X8_isOf p2 (σ2 0 4)) yy_X8_isOf wl_X8_89 dX8_door_16 rfl rfl rfl (Nat.le_of_ble_eq_true rfl) (by decide) (fun r4 σ5 _ => ?_)
    refine z_if_ne hC 25 dX8_door_19 (by decide) (fun h6 => ?_) (fun h6 => ?_)
    · refine z_iload_n hC dX8_door_25 rfl ?_
      refine z_iload_n hC dX8_door_26 rfl ?_
      refine z_icmp_ne hC 33 dX8_door_27 (by decide) (fun h7 => ?_) (fun h7 => ?_)
      · refine z_aload_n hC dX8_door_33 rfl ?_
        refine z_geti hC wf_X8_93 dX8_door_34 ltM_0 layM_0 rfl ?_
        refine z_bipush hC dX8_door_37 kb_15 ?_
        refine z_icmp_ne hC 45 dX8_door_39 (by decide) (fun h8 => ?_) (fun h8 => ?_)
        · refine z_aload_n hC dX8_door_45 rfl ?_
          refine z_getr hC wf_X8_20 dX8_door_46 ltM_0 layM_0 rfl ?_
          refine z_aload_n hC dX8_door_49 rfl ?_
          refine z_geti hC wf_X8_93 dX8_door_50 ltM_0 layM_0 rfl ?_
          refine z_iload_n hC dX8_door_53 rfl ?_
          refine z_iast hC dX8_door_54 ltM_3 layM_3 (fun h9 => ?_)
          refine z_let (fun σ10 _ => ?_)
          refine z_aload_n hC dX8_door_55 rfl ?_
          refine z_getr hC wf_X8_23 dX8_door_56 ltM_0 layM_0 rfl ?_
          refine z_aload_n hC dX8_door_59 rfl ?_
          refine z_geti hC wf_X8_93 dX8_door_60 ltM_0 layM_0 rfl ?_
          refine z_iload_n hC dX8_door_63 rfl ?_
          refine z_iast hC dX8_door_64 ltM_4 layM_4 (fun h11 => ?_)
          refine z_let (fun σ12 _ => ?_)
          refine z_aload_n hC dX8_door_65 rfl ?_
          refine z_getr hC wf_X8_7 dX8_door_66 ltM_0 layM_0 rfl ?_
          refine z_bipush hC dX8_door_69 kb_12 ?_
          refine z_aload_n hC dX8_door_71 rfl ?_
          refine z_geti hC wf_X8_93 dX8_door_72 ltM_0 layM_0 rfl ?_
          refine z_iadd hC dX8_door_75 ?_
          refine z_iconst hC dX8_door_76 ki_1 ?_
          refine z_iast hC dX8_door_77 ltM_1 layM_1 (fun h13 => ?_)
          refine z_let (fun σ14 _ => ?_)
          refine z_aload_n hC dX8_door_78 rfl ?_
          refine z_dup hC dX8_door_79 rfl ?_
          refine z_geti hC wf_X8_93 dX8_door_80 ltM_0 layM_0 rfl ?_
          refine z_iconst hC dX8_door_83 ki_1 ?_
          refine z_iadd hC dX8_door_84 ?_
          refine z_puti hC wp_X8_93 dX8_door_85 ltM_0 layM_0 rfl ?_
          refine z_let (fun σ15 _ => ?_)
          refine z_aload_n hC dX8_door_88 rfl ?_
          refine z_aload_n hC dX8_door_89 rfl ?_
          refine z_geti hC wf_X8_93 dX8_door_90 ltM_0 layM_0 rfl ?_
          refine z_iconst hC dX8_door_93 ki_1 ?_
          refine z_isub hC dX8_door_94 ?_
          refine z_callVi hC [.int ((σ15 0 5) - 1)] (c_X8_changed ((σ15 0 5) - 1)) yy_X8_changed wl_X8_85 dX8_door_95 ltM_0 layM_0 vcz_X8 rfl rfl rfl (Nat.le_of_ble_eq_true rfl) (by decide) (fun r16 σ17 _ => ?_)
          exact z_iret hC dX8_door_98
        · refine z_bipush hC dX8_door_42 kb_m5 ?_
          exact z_iret hC dX8_door_44
      · refine z_bipush hC dX8_door_30 kb_m3 ?_
        exact z_iret hC dX8_door_32
    · refine z_bipush hC dX8_door_22 kb_m2 ?_
      exact z_iret hC dX8_door_24
theorem c_X8_door (p1 : Int32) (p2 : Int32) : zM layM nM yX8_door cX8_door 3 (some .int) (zRm 2 43) (fun ad => [.ref (ad 0), .int p1, .int p2]) (f_X8_door p1 p2) := zM_of (own := RX8) (by decide) rfl (fun ad w hw => by simp only [List.mem_cons, List.not_mem_nil, or_false] at hw; (first | exact hw.elim | (rcases hw with rfl | rfl | rfl <;> rfl))) (fun ad => Nat.le_of_ble_eq_true rfl) (fun Γ ad hC σ => w_X8_door hC p1 p2 σ)
set_option maxRecDepth 100000 in
set_option maxHeartbeats 4000000 in
theorem w_X8_event {Γ : zG} {ad : Nat → Nat} (hC : zX Γ layM nM ad cX8_event RX8 4 (zRm 2 43) (some .int)) (p1 : Int32) (p2 : Int32) (p3 : Int32) (σ : zS) : zK Γ layM nM ad 4 (some .int) 0 [some (.ref (ad 0)), some (.int p1), some (.int p2), some (.int p3)] [] σ (f_X8_event p1 p2 p3 σ) some := by
  unfold f_X8_event
  refine z_iload_n hC dX8_event_0 rfl ?_
  refine z_aload_n hC dX8_event_1 rfl ?_
  refine z_geti hC wf_X8_99 dX8_event_2 ltM_0 layM_0 rfl ?_
  refine z_callSi hC [.int p1, .int (σ 0 9)] (c_X8_isOf p1 (σ 0 9)) yy_X8_isOf wl_X8_89 dX8_event_5 rfl rfl rfl (Nat.le_of_ble_eq_true rfl) (by decide) (fun r1 σ2 _ => ?_)
  refine z_if_ne hC 14 dX8_event_8 (by decide) (fun h3 => ?_) (fun h3 => ?_)
  · refine z_iload_n hC dX8_event_14 rfl ?_
    refine z_iconst hC dX8_event_15 ki_0 ?_
    refine z_sipush hC dX8_event_16 ks_1439 ?_
    refine z_callSi hC [.int p2, .int 0, .int 1439] (c_X8_in p2 0 1439) yy_X8_in wl_X8_78 dX8_event_19 rfl rfl rfl (Nat.le_of_ble_eq_true rfl) (by decide) (fun r4 σ5 _ => ?_)
    refine z_if_ne hC 28 dX8_event_22 (by decide) (fun h6 => ?_) (fun h6 => ?_)
    · refine z_aload_n hC dX8_event_28 rfl ?_
      refine z_geti hC wf_X8_102 dX8_event_29 ltM_0 layM_0 rfl ?_
      refine z_bipush hC dX8_event_32 kb_12 ?_
      refine z_icmp_ne hC 40 dX8_event_34 (by decide) (fun h7 => ?_) (fun h7 => ?_)
      · refine z_aload_n hC dX8_event_40 rfl ?_
        refine z_getr hC wf_X8_41 dX8_event_41 ltM_0 layM_0 rfl ?_
        refine z_aload_n hC dX8_event_44 rfl ?_
        refine z_geti hC wf_X8_102 dX8_event_45 ltM_0 layM_0 rfl ?_
        refine z_iload_n hC dX8_event_48 rfl ?_
        refine z_iast hC dX8_event_49 ltM_10 layM_10 (fun h8 => ?_)
        refine z_let (fun σ9 _ => ?_)
        refine z_aload_n hC dX8_event_50 rfl ?_
        refine z_getr hC wf_X8_44 dX8_event_51 ltM_0 layM_0 rfl ?_
        refine z_aload_n hC dX8_event_54 rfl ?_
        refine z_geti hC wf_X8_102 dX8_event_55 ltM_0 layM_0 rfl ?_
        refine z_iload_n hC dX8_event_58 rfl ?_
        refine z_iast hC dX8_event_59 ltM_11 layM_11 (fun h10 => ?_)
        refine z_let (fun σ11 _ => ?_)
        refine z_aload_n hC dX8_event_60 rfl ?_
        refine z_getr hC wf_X8_47 dX8_event_61 ltM_0 layM_0 rfl ?_
        refine z_aload_n hC dX8_event_64 rfl ?_
        refine z_geti hC wf_X8_102 dX8_event_65 ltM_0 layM_0 rfl ?_
        refine z_iload_n hC dX8_event_68 rfl ?_
        refine z_zast hC dX8_event_69 ltM_12 layM_12 (fun h12 => ?_)
        refine z_let (fun σ13 _ => ?_)
        refine z_aload_n hC dX8_event_70 rfl ?_
        refine z_getr hC wf_X8_7 dX8_event_71 ltM_0 layM_0 rfl ?_
        refine z_bipush hC dX8_event_74 kb_35 ?_
        refine z_aload_n hC dX8_event_76 rfl ?_
        refine z_geti hC wf_X8_102 dX8_event_77 ltM_0 layM_0 rfl ?_
        refine z_iadd hC dX8_event_80 ?_
        refine z_iconst hC dX8_event_81 ki_0 ?_
        refine z_iast hC dX8_event_82 ltM_1 layM_1 (fun h14 => ?_)
        refine z_let (fun σ15 _ => ?_)
        refine z_aload_n hC dX8_event_83 rfl ?_
        refine z_dup hC dX8_event_84 rfl ?_
        refine z_geti hC wf_X8_102 dX8_event_85 ltM_0 layM_0 rfl ?_
        refine z_iconst hC dX8_event_88 ki_1 ?_
        refine z_iadd hC dX8_event_89 ?_
        refine z_puti hC wp_X8_102 dX8_event_90 ltM_0 layM_0 rfl ?_
        refine z_let (fun σ16 _ => ?_)
        refine z_aload_n hC dX8_event_93 rfl ?_
        refine z_aload_n hC dX8_event_94 rfl ?_
        refine z_geti hC wf_X8_102 dX8_event_95 ltM_0 layM_0 rfl ?_
        refine z_iconst hC dX8_event_98 ki_1 ?_
        refine z_isub hC dX8_event_99 ?_
        refine z_callVi hC [.int ((σ16 0 15) - 1)] (c_X8_changed ((σ16 0 15) - 1)) yy_X8_changed wl_X8_85 dX8_event_100 ltM_0 layM_0 vcz_X8 rfl rfl rfl (Nat.le_of_ble_eq_true rfl) (by decide) (fun r17 σ18 _ => ?_)
        exact z_iret hC dX8_event_103
      · refine z_bipush hC dX8_event_37 kb_m5 ?_
        exact z_iret hC dX8_event_39
    · refine z_bipush hC dX8_event_25 kb_m3 ?_
      exact z_iret hC dX8_event_27
  · refine z_bipush hC dX8_event_11 kb_m2 ?_
    exact z_iret hC dX8_event_13
theorem c_X8_event (p1 : Int32) (p2 : Int32) (p3 : Int32) : zM layM nM yX8_event cX8_event 4 (some .int) (zRm 2 43) (fun ad => [.ref (ad 0), .int p1, .int p2, .int p3]) (f_X8_event p1 p2 p3) := zM_of (own := RX8) (by decide) rfl (fun ad w hw => by simp only [List.mem_cons, List.not_mem_nil, or_false] at hw; (first | exact hw.elim | (rcases hw with rfl | rfl | rfl | rfl <;> rfl))) (fun ad => Nat.le_of_ble_eq_true rfl) (fun Γ ad hC σ => w_X8_event hC p1 p2 p3 σ)
set_option maxRecDepth 100000 in
set_option maxHeartbeats 4000000 in
theorem w_X8_step {Γ : zG} {ad : Nat → Nat} (hC : zX Γ layM nM ad cX8_step RX8 3 (zRm 0 0) none) (p1 : Int32) (p2 : Int32) (σ : zS) : zK Γ layM nM ad 3 none 0 [some (.ref (ad 0)), some (.int p1), some (.int p2)] [] σ (f_X8_step p1 p2 σ) some := by
  unfold f_X8_step
  refine z_aload_n hC dX8_step_0 rfl ?_
  refine z_getr hC wf_X8_72 dX8_step_1 ltM_0 layM_0 rfl ?_
  refine z_iload_n hC dX8_step_4 rfl ?_
  refine z_iald hC dX8_step_5 ltM_20 layM_20 (fun h1 => ?_)
  refine z_iconst hC dX8_step_6 ki_m1 ?_
  refine z_icmp_eq hC 51 dX8_step_7 (by decide) (fun h2 => ?_) (fun h2 => ?_)
  · exact z_vret hC dX8_step_51
  · refine z_aload_n hC dX8_step_10 rfl ?_
    refine z_getr hC wf_X8_72 dX8_step_11 ltM_0 layM_0 rfl ?_
    refine z_iload_n hC dX8_step_14 rfl ?_
    refine z_iald hC dX8_step_15 ltM_20 layM_20 (fun h3 => ?_)
    refine z_iconst hC dX8_step_16 ki_m1 ?_
    refine z_icmp_eq hC 37 dX8_step_17 (by decide) (fun h4 => ?_) (fun h4 => ?_)
    · refine z_aload_n hC dX8_step_37 rfl ?_
      refine z_getr hC wf_X8_72 dX8_step_38 ltM_0 layM_0 rfl ?_
      refine z_iload_n hC dX8_step_41 rfl ?_
      refine z_aload_n hC dX8_step_42 rfl ?_
      refine z_getr hC wf_X8_72 dX8_step_43 ltM_0 layM_0 rfl ?_
      refine z_iload_n hC dX8_step_46 rfl ?_
      refine z_iald hC dX8_step_47 ltM_20 layM_20 (fun h5 => ?_)
      refine z_iconst hC dX8_step_48 ki_1 ?_
      refine z_iadd hC dX8_step_49 ?_
      refine z_iast hC dX8_step_50 ltM_20 layM_20 (fun h6 => ?_)
      refine z_let (fun σ7 _ => ?_)
      exact z_vret hC dX8_step_51
    · refine z_aload_n hC dX8_step_20 rfl ?_
      refine z_getr hC wf_X8_72 dX8_step_21 ltM_0 layM_0 rfl ?_
      refine z_iload_n hC dX8_step_24 rfl ?_
      refine z_iald hC dX8_step_25 ltM_20 layM_20 (fun h8 => ?_)
      refine z_aload_n hC dX8_step_26 rfl ?_
      refine z_getr hC wf_X8_72 dX8_step_27 ltM_0 layM_0 rfl ?_
      refine z_iload_n hC dX8_step_30 rfl ?_
      refine z_iald hC dX8_step_31 ltM_20 layM_20 (fun h9 => ?_)
      refine z_iconst hC dX8_step_32 ki_1 ?_
      refine z_iadd hC dX8_step_33 ?_
      refine z_icmp_le hC 51 dX8_step_34 (by decide) (fun h10 => ?_) (fun h10 => ?_)
      · exact z_vret hC dX8_step_51
      · refine z_aload_n hC dX8_step_37 rfl ?_
        refine z_getr hC wf_X8_72 dX8_step_38 ltM_0 layM_0 rfl ?_
        refine z_iload_n hC dX8_step_41 rfl ?_
        refine z_aload_n hC dX8_step_42 rfl ?_
        refine z_getr hC wf_X8_72 dX8_step_43 ltM_0 layM_0 rfl ?_
        refine z_iload_n hC dX8_step_46 rfl ?_
        refine z_iald hC dX8_step_47 ltM_20 layM_20 (fun h11 => ?_)
        refine z_iconst hC dX8_step_48 ki_1 ?_
        refine z_iadd hC dX8_step_49 ?_
        refine z_iast hC dX8_step_50 ltM_20 layM_20 (fun h12 => ?_)
        refine z_let (fun σ13 _ => ?_)
        exact z_vret hC dX8_step_51
theorem c_X8_step (p1 : Int32) (p2 : Int32) : zM layM nM yX8_step cX8_step 3 none (zRm 0 0) (fun ad => [.ref (ad 0), .int p1, .int p2]) (f_X8_step p1 p2) := zM_of (own := RX8) (by decide) rfl (fun ad w hw => by simp only [List.mem_cons, List.not_mem_nil, or_false] at hw; (first | exact hw.elim | (rcases hw with rfl | rfl | rfl <;> rfl))) (fun ad => Nat.le_of_ble_eq_true rfl) (fun Γ ad hC σ => w_X8_step hC p1 p2 σ)
set_option maxRecDepth 100000 in
set_option maxHeartbeats 4000000 in
theorem t_X8_findWays_L2 {Γ : zG} {ad : Nat → Nat} (hC : zX Γ layM nM ad cX8_findWays RX8 4 (zRm 1 22) none) (c1 : Int32) (a0 : Int32 × zS) (K : Bool × (Int32 × zS) → Option (Int32 × zS)) (hc : ∀ (x0 : Int32) (s' : zS), zZ Γ layM nM ad 4 none 2 [some (.ref (ad 0)), some (.int c1), some (.int x0), none] [] s' (K (true, (x0, s')))) (hx : ∀ (x0 : Int32) (s' : zS), zZ Γ layM nM ad 4 none 32 [some (.ref (ad 0)), some (.int c1), some (.int x0), none] [] s' (K (false, (x0, s')))) : zK Γ layM nM ad 4 none 2 [some (.ref (ad 0)), some (.int c1), some (.int a0.1), none] [] (a0.2) (b_X8_findWays_L2 c1 a0) K := by
  unfold b_X8_findWays_L2
  refine z_iload_n hC dX8_findWays_2 rfl ?_
  refine z_aload_n hC dX8_findWays_3 rfl ?_
  refine z_geti hC wf_X8_82 dX8_findWays_4 ltM_0 layM_0 rfl ?_
  refine z_icmp_ge hC 32 dX8_findWays_7 (by decide) (fun h1 => ?_) (fun h1 => ?_)
  · exact z_leaf (hx a0.1 a0.2)
  · refine z_aload_n hC dX8_findWays_10 rfl ?_
    refine z_getr hC wf_X8_72 dX8_findWays_11 ltM_0 layM_0 rfl ?_
    refine z_iload_n hC dX8_findWays_14 rfl ?_
    refine z_iload_n hC dX8_findWays_15 rfl ?_
    refine z_iload_n hC dX8_findWays_16 rfl ?_
    refine z_icmp_ne hC 24 dX8_findWays_17 (by decide) (fun h2 => ?_) (fun h2 => ?_)
    · refine z_iconst hC dX8_findWays_24 ki_m1 ?_
      refine z_iast hC dX8_findWays_25 ltM_20 layM_20 (fun h3 => ?_)
      refine z_let (fun σ4 _ => ?_)
      refine z_iinc hC dX8_findWays_26 (lv' := [some (.ref (ad 0)), some (.int c1), some (.int (a0.1 + 1)), none]) rfl (by decide) ki_1 rfl ?_
      refine z_goto hC 2 dX8_findWays_29 (by decide) ?_
      exact z_leaf (hc (a0.1 + 1) σ4)
    · refine z_iconst hC dX8_findWays_20 ki_0 ?_
      refine z_goto hC 25 dX8_findWays_21 (by decide) ?_
      refine z_iast hC dX8_findWays_25 ltM_20 layM_20 (fun h5 => ?_)
      refine z_let (fun σ6 _ => ?_)
      refine z_iinc hC dX8_findWays_26 (lv' := [some (.ref (ad 0)), some (.int c1), some (.int (a0.1 + 1)), none]) rfl (by decide) ki_1 rfl ?_
      refine z_goto hC 2 dX8_findWays_29 (by decide) ?_
      exact z_leaf (hc (a0.1 + 1) σ6)
set_option maxRecDepth 100000 in
set_option maxHeartbeats 4000000 in
theorem t_X8_findWays_L44 {Γ : zG} {ad : Nat → Nat} (hC : zX Γ layM nM ad cX8_findWays RX8 4 (zRm 1 22) none) (c1 : Int32) (c2 : Int32) (a0 : Int32 × zS) (K : Bool × (Int32 × zS) → Option (Int32 × zS)) (hc : ∀ (x0 : Int32) (s' : zS), zZ Γ layM nM ad 4 none 44 [some (.ref (ad 0)), some (.int c1), some (.int c2), some (.int x0)] [] s' (K (true, (x0, s')))) (hx : ∀ (x0 : Int32) (s' : zS), zZ Γ layM nM ad 4 none 103 [some (.ref (ad 0)), some (.int c1), some (.int c2), some (.int x0)] [] s' (K (false, (x0, s')))) : zK Γ layM nM ad 4 none 44 [some (.ref (ad 0)), some (.int c1), some (.int c2), some (.int a0.1)] [] (a0.2) (b_X8_findWays_L44 c1 c2 a0) K := by
  unfold b_X8_findWays_L44
  refine z_iload_n hC dX8_findWays_44 rfl ?_
  refine z_aload_n hC dX8_findWays_45 rfl ?_
  refine z_geti hC wf_X8_93 dX8_findWays_46 ltM_0 layM_0 rfl ?_
  refine z_icmp_ge hC 103 dX8_findWays_49 (by decide) (fun h9 => ?_) (fun h9 => ?_)
  · exact z_leaf (hx a0.1 a0.2)
  · refine z_aload_n hC dX8_findWays_52 rfl ?_
    refine z_getr hC wf_X8_7 dX8_findWays_53 ltM_0 layM_0 rfl ?_
    refine z_bipush hC dX8_findWays_56 kb_12 ?_
    refine z_iload_n hC dX8_findWays_58 rfl ?_
    refine z_iadd hC dX8_findWays_59 ?_
    refine z_iald hC dX8_findWays_60 ltM_1 layM_1 (fun h10 => ?_)
    refine z_iconst hC dX8_findWays_61 ki_1 ?_
    refine z_icmp_ne hC 97 dX8_findWays_62 (by decide) (fun h11 => ?_) (fun h11 => ?_)
    · refine z_iinc hC dX8_findWays_97 (lv' := [some (.ref (ad 0)), some (.int c1), some (.int c2), some (.int (a0.1 + 1))]) rfl (by decide) ki_1 rfl ?_
      refine z_goto hC 44 dX8_findWays_100 (by decide) ?_
      exact z_leaf (hc (a0.1 + 1) a0.2)
    · refine z_aload_n hC dX8_findWays_65 rfl ?_
      refine z_aload_n hC dX8_findWays_66 rfl ?_
      refine z_getr hC wf_X8_20 dX8_findWays_67 ltM_0 layM_0 rfl ?_
      refine z_iload_n hC dX8_findWays_70 rfl ?_
      refine z_iald hC dX8_findWays_71 ltM_3 layM_3 (fun h12 => ?_)
      refine z_aload_n hC dX8_findWays_72 rfl ?_
      refine z_getr hC wf_X8_23 dX8_findWays_73 ltM_0 layM_0 rfl ?_
      refine z_iload_n hC dX8_findWays_76 rfl ?_
      refine z_iald hC dX8_findWays_77 ltM_4 layM_4 (fun h13 => ?_)
      refine z_callVv hC [.int (a0.2 3 a0.1.toNatClampNeg), .int (a0.2 4 a0.1.toNatClampNeg)] (c_X8_step (a0.2 3 a0.1.toNatClampNeg) (a0.2 4 a0.1.toNatClampNeg)) yy_X8_step wl_X8_137 dX8_findWays_78 ltM_0 layM_0 vcz_X8 rfl rfl rfl (Nat.le_of_ble_eq_true rfl) (by decide) (fun r14 σ15 _ => ?_)
      refine z_aload_n hC dX8_findWays_81 rfl ?_
      refine z_aload_n hC dX8_findWays_82 rfl ?_
      refine z_getr hC wf_X8_23 dX8_findWays_83 ltM_0 layM_0 rfl ?_
      refine z_iload_n hC dX8_findWays_86 rfl ?_
      refine z_iald hC dX8_findWays_87 ltM_4 layM_4 (fun h16 => ?_)
      refine z_aload_n hC dX8_findWays_88 rfl ?_
      refine z_getr hC wf_X8_20 dX8_findWays_89 ltM_0 layM_0 rfl ?_
      refine z_iload_n hC dX8_findWays_92 rfl ?_
      refine z_iald hC dX8_findWays_93 ltM_3 layM_3 (fun h17 => ?_)
      refine z_callVv hC [.int (σ15 4 a0.1.toNatClampNeg), .int (σ15 3 a0.1.toNatClampNeg)] (c_X8_step (σ15 4 a0.1.toNatClampNeg) (σ15 3 a0.1.toNatClampNeg)) yy_X8_step wl_X8_137 dX8_findWays_94 ltM_0 layM_0 vcz_X8 rfl rfl rfl (Nat.le_of_ble_eq_true rfl) (by decide) (fun r18 σ19 _ => ?_)
      refine z_iinc hC dX8_findWays_97 (lv' := [some (.ref (ad 0)), some (.int c1), some (.int c2), some (.int (a0.1 + 1))]) rfl (by decide) ki_1 rfl ?_
      refine z_goto hC 44 dX8_findWays_100 (by decide) ?_
      exact z_leaf (hc (a0.1 + 1) σ19)
set_option maxRecDepth 100000 in
set_option maxHeartbeats 4000000 in
theorem t_X8_findWays_L34 {Γ : zG} {ad : Nat → Nat} (hC : zX Γ layM nM ad cX8_findWays RX8 4 (zRm 1 22) none) (c1 : Int32) (a0 : Int32 × zS) (K : Bool × (Int32 × zS) → Option (Int32 × zS)) (hc : ∀ (x0 : Int32) (s' : zS), zZ Γ layM nM ad 4 none 34 [some (.ref (ad 0)), some (.int c1), some (.int x0), none] [] s' (K (true, (x0, s')))) (hx : ∀ (x0 : Int32) (s' : zS), zZ Γ layM nM ad 4 none 109 [some (.ref (ad 0)), some (.int c1), some (.int x0), none] [] s' (K (false, (x0, s')))) : zK Γ layM nM ad 4 none 34 [some (.ref (ad 0)), some (.int c1), some (.int a0.1), none] [] (a0.2) (b_X8_findWays_L34 c1 a0) K := by
  unfold b_X8_findWays_L34
  refine z_iload_n hC dX8_findWays_34 rfl ?_
  refine z_aload_n hC dX8_findWays_35 rfl ?_
  refine z_geti hC wf_X8_82 dX8_findWays_36 ltM_0 layM_0 rfl ?_
  refine z_icmp_ge hC 109 dX8_findWays_39 (by decide) (fun h8 => ?_) (fun h8 => ?_)
  · exact z_leaf (hx a0.1 a0.2)
  · refine z_iconst hC dX8_findWays_42 ki_0 ?_
    refine z_istore_n hC dX8_findWays_43 (lv' := [some (.ref (ad 0)), some (.int c1), some (.int a0.1), some (.int 0)]) (by decide) rfl ?_
    refine z_lpb (lvf := fun z : Int32 × zS => [some (.ref (ad 0)), some (.int c1), some (.int a0.1), some (.int z.1)]) (sg := fun z => z.2) (x := 103) zfuel (0, a0.2) rfl rfl (fun z K hc hx => t_X8_findWays_L44 hC c1 a0.1 z K (fun x0 s' => hc (x0, s')) (fun x0 s' => hx (x0, s'))) (fun a20 => ?_)
    refine z_iinc hC dX8_findWays_103 (lv' := [some (.ref (ad 0)), some (.int c1), some (.int (a0.1 + 1)), some (.int a20.1)]) rfl (by decide) ki_1 rfl ?_
    refine z_goto hC 34 dX8_findWays_106 (by decide) ?_
    refine z_forget [3] (lv' := [some (.ref (ad 0)), some (.int c1), some (.int (a0.1 + 1)), none]) rfl ?_
    exact z_leaf (hc (a0.1 + 1) a20.2)
set_option maxRecDepth 100000 in
set_option maxHeartbeats 4000000 in
theorem w_X8_findWays {Γ : zG} {ad : Nat → Nat} (hC : zX Γ layM nM ad cX8_findWays RX8 4 (zRm 1 22) none) (p1 : Int32) (σ : zS) : zK Γ layM nM ad 4 none 0 [some (.ref (ad 0)), some (.int p1), none, none] [] σ (f_X8_findWays p1 σ) some := by
  unfold f_X8_findWays
  refine z_iconst hC dX8_findWays_0 ki_0 ?_
  refine z_istore_n hC dX8_findWays_1 (lv' := [some (.ref (ad 0)), some (.int p1), some (.int 0), none]) (by decide) rfl ?_
  refine z_lpb (lvf := fun z : Int32 × zS => [some (.ref (ad 0)), some (.int p1), some (.int z.1), none]) (sg := fun z => z.2) (x := 32) zfuel (0, σ) rfl rfl (fun z K hc hx => t_X8_findWays_L2 hC p1 z K (fun x0 s' => hc (x0, s')) (fun x0 s' => hx (x0, s'))) (fun a7 => ?_)
  refine z_iconst hC dX8_findWays_32 ki_0 ?_
  refine z_istore_n hC dX8_findWays_33 (lv' := [some (.ref (ad 0)), some (.int p1), some (.int 0), none]) (by decide) rfl ?_
  refine z_lpb (lvf := fun z : Int32 × zS => [some (.ref (ad 0)), some (.int p1), some (.int z.1), none]) (sg := fun z => z.2) (x := 109) zfuel (0, a7.2) rfl rfl (fun z K hc hx => t_X8_findWays_L34 hC p1 z K (fun x0 s' => hc (x0, s')) (fun x0 s' => hx (x0, s'))) (fun a21 => ?_)
  exact z_vret hC dX8_findWays_109
theorem c_X8_findWays (p1 : Int32) : zM layM nM yX8_findWays cX8_findWays 4 none (zRm 1 22) (fun ad => [.ref (ad 0), .int p1]) (f_X8_findWays p1) := zM_of (own := RX8) (by decide) rfl (fun ad w hw => by simp only [List.mem_cons, List.not_mem_nil, or_false] at hw; (first | exact hw.elim | (rcases hw with rfl | rfl <;> rfl))) (fun ad => Nat.le_of_ble_eq_true rfl) (fun Γ ad hC σ => w_X8_findWays hC p1 σ)
set_option maxRecDepth 100000 in
set_option maxHeartbeats 4000000 in
theorem w_X8_tell {Γ : zG} {ad : Nat → Nat} (hC : zX Γ layM nM ad cX8_tell RX8 3 (zRm 0 0) none) (p1 : Int32) (p2 : Int32) (σ : zS) : zK Γ layM nM ad 3 none 0 [some (.ref (ad 0)), some (.int p1), some (.int p2)] [] σ (f_X8_tell p1 p2 σ) some := by
  unfold f_X8_tell
  refine z_aload_n hC dX8_tell_0 rfl ?_
  refine z_dup hC dX8_tell_1 rfl ?_
  refine z_geti hC wf_X8_130 dX8_tell_2 ltM_0 layM_0 rfl ?_
  refine z_iconst hC dX8_tell_5 ki_1 ?_
  refine z_iadd hC dX8_tell_6 ?_
  refine z_puti hC wp_X8_130 dX8_tell_7 ltM_0 layM_0 rfl ?_
  refine z_let (fun σ1 _ => ?_)
  refine z_aload_n hC dX8_tell_10 rfl ?_
  refine z_getr hC wf_X8_7 dX8_tell_11 ltM_0 layM_0 rfl ?_
  refine z_bipush hC dX8_tell_14 kb_71 ?_
  refine z_iald hC dX8_tell_16 ltM_1 layM_1 (fun h2 => ?_)
  refine z_bipush hC dX8_tell_17 kb_60 ?_
  refine z_icmp_ge hC 71 dX8_tell_19 (by decide) (fun h3 => ?_) (fun h3 => ?_)
  · exact z_vret hC dX8_tell_71
  · refine z_aload_n hC dX8_tell_22 rfl ?_
    refine z_getr hC wf_X8_7 dX8_tell_23 ltM_0 layM_0 rfl ?_
    refine z_bipush hC dX8_tell_26 kb_72 ?_
    refine z_iconst hC dX8_tell_28 ki_2 ?_
    refine z_aload_n hC dX8_tell_29 rfl ?_
    refine z_getr hC wf_X8_7 dX8_tell_30 ltM_0 layM_0 rfl ?_
    refine z_bipush hC dX8_tell_33 kb_71 ?_
    refine z_iald hC dX8_tell_35 ltM_1 layM_1 (fun h4 => ?_)
    refine z_imul hC dX8_tell_36 ?_
    refine z_iadd hC dX8_tell_37 ?_
    refine z_iload_n hC dX8_tell_38 rfl ?_
    refine z_iast hC dX8_tell_39 ltM_1 layM_1 (fun h5 => ?_)
    refine z_let (fun σ6 _ => ?_)
    refine z_aload_n hC dX8_tell_40 rfl ?_
    refine z_getr hC wf_X8_7 dX8_tell_41 ltM_0 layM_0 rfl ?_
    refine z_bipush hC dX8_tell_44 kb_72 ?_
    refine z_iconst hC dX8_tell_46 ki_2 ?_
    refine z_aload_n hC dX8_tell_47 rfl ?_
    refine z_getr hC wf_X8_7 dX8_tell_48 ltM_0 layM_0 rfl ?_
    refine z_bipush hC dX8_tell_51 kb_71 ?_
    refine z_iald hC dX8_tell_53 ltM_1 layM_1 (fun h7 => ?_)
    refine z_imul hC dX8_tell_54 ?_
    refine z_iadd hC dX8_tell_55 ?_
    refine z_iconst hC dX8_tell_56 ki_1 ?_
    refine z_iadd hC dX8_tell_57 ?_
    refine z_iload_n hC dX8_tell_58 rfl ?_
    refine z_iast hC dX8_tell_59 ltM_1 layM_1 (fun h8 => ?_)
    refine z_let (fun σ9 _ => ?_)
    refine z_aload_n hC dX8_tell_60 rfl ?_
    refine z_getr hC wf_X8_7 dX8_tell_61 ltM_0 layM_0 rfl ?_
    refine z_bipush hC dX8_tell_64 kb_71 ?_
    refine z_dup2 hC dX8_tell_66 rfl rfl ?_
    refine z_iald hC dX8_tell_67 ltM_1 layM_1 (fun h10 => ?_)
    refine z_iconst hC dX8_tell_68 ki_1 ?_
    refine z_iadd hC dX8_tell_69 ?_
    refine z_iast hC dX8_tell_70 ltM_1 layM_1 (fun h11 => ?_)
    refine z_let (fun σ12 _ => ?_)
    exact z_vret hC dX8_tell_71
theorem c_X8_tell (p1 : Int32) (p2 : Int32) : zM layM nM yX8_tell cX8_tell 3 none (zRm 0 0) (fun ad => [.ref (ad 0), .int p1, .int p2]) (f_X8_tell p1 p2) := zM_of (own := RX8) (by decide) rfl (fun ad w hw => by simp only [List.mem_cons, List.not_mem_nil, or_false] at hw; (first | exact hw.elim | (rcases hw with rfl | rfl | rfl <;> rfl))) (fun ad => Nat.le_of_ble_eq_true rfl) (fun Γ ad hC σ => w_X8_tell hC p1 p2 σ)
set_option maxRecDepth 100000 in
set_option maxHeartbeats 4000000 in
theorem t_X8_goDaemons_L10 {Γ : zG} {ad : Nat → Nat} (hC : zX Γ layM nM ad cX8_goDaemons RX8 3 (zRm 3 66) none) (c1 : Int32) (a0 : Int32 × zS) (K : Bool × (Int32 × zS) → Option (Int32 × zS)) (hc : ∀ (x0 : Int32) (s' : zS), zZ Γ layM nM ad 3 none 10 [some (.ref (ad 0)), some (.int c1), some (.int x0)] [] s' (K (true, (x0, s')))) (hx : ∀ (x0 : Int32) (s' : zS), zZ Γ layM nM ad 3 none 70 [some (.ref (ad 0)), some (.int c1), some (.int x0)] [] s' (K (false, (x0, s')))) : zK Γ layM nM ad 3 none 10 [some (.ref (ad 0)), some (.int c1), some (.int a0.1)] [] (a0.2) (b_X8_goDaemons_L10 c1 a0) K := by
  unfold b_X8_goDaemons_L10
  refine z_iload_n hC dX8_goDaemons_10 rfl ?_
  refine z_aload_n hC dX8_goDaemons_11 rfl ?_
  refine z_geti hC wf_X8_108 dX8_goDaemons_12 ltM_0 layM_0 rfl ?_
  refine z_icmp_ge hC 70 dX8_goDaemons_15 (by decide) (fun h2 => ?_) (fun h2 => ?_)
  · exact z_leaf (hx a0.1 a0.2)
  · refine z_aload_n hC dX8_goDaemons_18 rfl ?_
    refine z_geti hC wf_X8_123 dX8_goDaemons_19 ltM_0 layM_0 rfl ?_
    refine z_if_ne hC 70 dX8_goDaemons_22 (by decide) (fun h3 => ?_) (fun h3 => ?_)
    · exact z_leaf (hx a0.1 a0.2)
    · refine z_aload_n hC dX8_goDaemons_25 rfl ?_
      refine z_getr hC wf_X8_63 dX8_goDaemons_26 ltM_0 layM_0 rfl ?_
      refine z_iload_n hC dX8_goDaemons_29 rfl ?_
      refine z_iald hC dX8_goDaemons_30 ltM_17 layM_17 (fun h4 => ?_)
      refine z_iload_n hC dX8_goDaemons_31 rfl ?_
      refine z_icmp_ne hC 64 dX8_goDaemons_32 (by decide) (fun h5 => ?_) (fun h5 => ?_)
      · refine z_iinc hC dX8_goDaemons_64 (lv' := [some (.ref (ad 0)), some (.int c1), some (.int (a0.1 + 1))]) rfl (by decide) ki_1 rfl ?_
        refine z_goto hC 10 dX8_goDaemons_67 (by decide) ?_
        exact z_leaf (hc (a0.1 + 1) a0.2)
      · refine z_aload_n hC dX8_goDaemons_35 rfl ?_
        refine z_getr hC wf_X8_7 dX8_goDaemons_36 ltM_0 layM_0 rfl ?_
        refine z_bipush hC dX8_goDaemons_39 kb_59 ?_
        refine z_iload_n hC dX8_goDaemons_41 rfl ?_
        refine z_iadd hC dX8_goDaemons_42 ?_
        refine z_iald hC dX8_goDaemons_43 ltM_1 layM_1 (fun h6 => ?_)
        refine z_iconst hC dX8_goDaemons_44 ki_1 ?_
        refine z_icmp_ne hC 64 dX8_goDaemons_45 (by decide) (fun h7 => ?_) (fun h7 => ?_)
        · refine z_iinc hC dX8_goDaemons_64 (lv' := [some (.ref (ad 0)), some (.int c1), some (.int (a0.1 + 1))]) rfl (by decide) ki_1 rfl ?_
          refine z_goto hC 10 dX8_goDaemons_67 (by decide) ?_
          exact z_leaf (hc (a0.1 + 1) a0.2)
        · refine z_aload_n hC dX8_goDaemons_48 rfl ?_
          refine z_iconst hC dX8_goDaemons_49 ki_2 ?_
          refine z_iload_n hC dX8_goDaemons_50 rfl ?_
          refine z_callVv hC [.int 2, .int a0.1] (c_X8_tell 2 a0.1) yy_X8_tell wl_X8_133 dX8_goDaemons_51 ltM_0 layM_0 vcz_X8 rfl rfl rfl (Nat.le_of_ble_eq_true rfl) (by decide) (fun r8 σ9 _ => ?_)
          refine z_aload_n hC dX8_goDaemons_54 rfl ?_
          refine z_aload_n hC dX8_goDaemons_55 rfl ?_
          refine z_getr hC wf_X8_60 dX8_goDaemons_56 ltM_0 layM_0 rfl ?_
          refine z_iload_n hC dX8_goDaemons_59 rfl ?_
          refine z_iald hC dX8_goDaemons_60 ltM_16 layM_16 (fun h10 => ?_)
          refine z_callVv hC [.int (σ9 16 a0.1.toNatClampNeg)] (c_X8_perform (σ9 16 a0.1.toNatClampNeg)) yy_X8_perform wl_X8_126 dX8_goDaemons_61 ltM_0 layM_0 vcz_X8 rfl rfl rfl (Nat.le_of_ble_eq_true rfl) (by decide) (fun r11 σ12 _ => ?_)
          refine z_iinc hC dX8_goDaemons_64 (lv' := [some (.ref (ad 0)), some (.int c1), some (.int (a0.1 + 1))]) rfl (by decide) ki_1 rfl ?_
          refine z_goto hC 10 dX8_goDaemons_67 (by decide) ?_
          exact z_leaf (hc (a0.1 + 1) σ12)
set_option maxRecDepth 100000 in
set_option maxHeartbeats 4000000 in
theorem t_X8_goDaemons_L2 {Γ : zG} {ad : Nat → Nat} (hC : zX Γ layM nM ad cX8_goDaemons RX8 3 (zRm 3 66) none) (a0 : Int32 × zS) (K : Bool × (Int32 × zS) → Option (Int32 × zS)) (hc : ∀ (x0 : Int32) (s' : zS), zZ Γ layM nM ad 3 none 2 [some (.ref (ad 0)), some (.int x0), none] [] s' (K (true, (x0, s')))) (hx : ∀ (x0 : Int32) (s' : zS), zZ Γ layM nM ad 3 none 76 [some (.ref (ad 0)), some (.int x0), none] [] s' (K (false, (x0, s')))) : zK Γ layM nM ad 3 none 2 [some (.ref (ad 0)), some (.int a0.1), none] [] (a0.2) (b_X8_goDaemons_L2 a0) K := by
  unfold b_X8_goDaemons_L2
  refine z_iload_n hC dX8_goDaemons_2 rfl ?_
  refine z_bipush hC dX8_goDaemons_3 kb_9 ?_
  refine z_icmp_gt hC 76 dX8_goDaemons_5 (by decide) (fun h1 => ?_) (fun h1 => ?_)
  · exact z_leaf (hx a0.1 a0.2)
  · refine z_iconst hC dX8_goDaemons_8 ki_0 ?_
    refine z_istore_n hC dX8_goDaemons_9 (lv' := [some (.ref (ad 0)), some (.int a0.1), some (.int 0)]) (by decide) rfl ?_
    refine z_lpb (lvf := fun z : Int32 × zS => [some (.ref (ad 0)), some (.int a0.1), some (.int z.1)]) (sg := fun z => z.2) (x := 70) zfuel (0, a0.2) rfl rfl (fun z K hc hx => t_X8_goDaemons_L10 hC a0.1 z K (fun x0 s' => hc (x0, s')) (fun x0 s' => hx (x0, s'))) (fun a13 => ?_)
    refine z_iinc hC dX8_goDaemons_70 (lv' := [some (.ref (ad 0)), some (.int (a0.1 + 1)), some (.int a13.1)]) rfl (by decide) ki_1 rfl ?_
    refine z_goto hC 2 dX8_goDaemons_73 (by decide) ?_
    refine z_forget [2] (lv' := [some (.ref (ad 0)), some (.int (a0.1 + 1)), none]) rfl ?_
    exact z_leaf (hc (a0.1 + 1) a13.2)
set_option maxRecDepth 100000 in
set_option maxHeartbeats 4000000 in
theorem w_X8_goDaemons {Γ : zG} {ad : Nat → Nat} (hC : zX Γ layM nM ad cX8_goDaemons RX8 3 (zRm 3 66) none) (σ : zS) : zK Γ layM nM ad 3 none 0 [some (.ref (ad 0)), none, none] [] σ (f_X8_goDaemons σ) some := by
  unfold f_X8_goDaemons
  refine z_iconst hC dX8_goDaemons_0 ki_0 ?_
  refine z_istore_n hC dX8_goDaemons_1 (lv' := [some (.ref (ad 0)), some (.int 0), none]) (by decide) rfl ?_
  refine z_lpb (lvf := fun z : Int32 × zS => [some (.ref (ad 0)), some (.int z.1), none]) (sg := fun z => z.2) (x := 76) zfuel (0, σ) rfl rfl (fun z K hc hx => t_X8_goDaemons_L2 hC z K (fun x0 s' => hc (x0, s')) (fun x0 s' => hx (x0, s'))) (fun a14 => ?_)
  exact z_vret hC dX8_goDaemons_76
theorem c_X8_goDaemons : zM layM nM yX8_goDaemons cX8_goDaemons 3 none (zRm 3 66) (fun ad => [.ref (ad 0)]) (f_X8_goDaemons) := zM_of (own := RX8) (by decide) rfl (fun ad w hw => by simp only [List.mem_cons, List.not_mem_nil, or_false] at hw; (first | exact hw.elim | (rcases hw with rfl <;> rfl))) (fun ad => Nat.le_of_ble_eq_true rfl) (fun Γ ad hC σ => w_X8_goDaemons hC σ)
set_option maxRecDepth 100000 in
set_option maxHeartbeats 4000000 in
theorem t_X8_goTime_L90 {Γ : zG} {ad : Nat → Nat} (hC : zX Γ layM nM ad cX8_goTime RX8 7 (zRm 3 66) none) (c1 : Int32) (c2 : Int32) (c3 : Int32) (c4 : Int32) (c5 : Int32) (a0 : Int32 × zS) (K : Bool × (Int32 × zS) → Option (Int32 × zS)) (hc : ∀ (x0 : Int32) (s' : zS), zZ Γ layM nM ad 7 none 90 [some (.ref (ad 0)), some (.int c1), some (.int c2), some (.int c3), some (.int c4), some (.int c5), some (.int x0)] [] s' (K (true, (x0, s')))) (hx : ∀ (x0 : Int32) (s' : zS), zZ Γ layM nM ad 7 none 180 [some (.ref (ad 0)), some (.int c1), some (.int c2), some (.int c3), some (.int c4), some (.int c5), some (.int x0)] [] s' (K (false, (x0, s')))) : zK Γ layM nM ad 7 none 90 [some (.ref (ad 0)), some (.int c1), some (.int c2), some (.int c3), some (.int c4), some (.int c5), some (.int a0.1)] [] (a0.2) (b_X8_goTime_L90 c1 c2 c3 c4 c5 a0) K := by
  unfold b_X8_goTime_L90
  refine z_iload hC dX8_goTime_90 rfl ?_
  refine z_aload_n hC dX8_goTime_92 rfl ?_
  refine z_geti hC wf_X8_102 dX8_goTime_93 ltM_0 layM_0 rfl ?_
  refine z_icmp_ge hC 180 dX8_goTime_96 (by decide) (fun h12 => ?_) (fun h12 => ?_)
  · exact z_leaf (hx a0.1 a0.2)
  · refine z_aload_n hC dX8_goTime_99 rfl ?_
    refine z_geti hC wf_X8_123 dX8_goTime_100 ltM_0 layM_0 rfl ?_
    refine z_if_ne hC 180 dX8_goTime_103 (by decide) (fun h13 => ?_) (fun h13 => ?_)
    · exact z_leaf (hx a0.1 a0.2)
    · refine z_aload_n hC dX8_goTime_106 rfl ?_
      refine z_getr hC wf_X8_44 dX8_goTime_107 ltM_0 layM_0 rfl ?_
      refine z_iload hC dX8_goTime_110 rfl ?_
      refine z_iald hC dX8_goTime_112 ltM_11 layM_11 (fun h14 => ?_)
      refine z_iload hC dX8_goTime_113 rfl ?_
      refine z_icmp_ne hC 174 dX8_goTime_115 (by decide) (fun h15 => ?_) (fun h15 => ?_)
      · refine z_iinc hC dX8_goTime_174 (lv' := [some (.ref (ad 0)), some (.int c1), some (.int c2), some (.int c3), some (.int c4), some (.int c5), some (.int (a0.1 + 1))]) rfl (by decide) ki_1 rfl ?_
        refine z_goto hC 90 dX8_goTime_177 (by decide) ?_
        exact z_leaf (hc (a0.1 + 1) a0.2)
      · refine z_aload_n hC dX8_goTime_118 rfl ?_
        refine z_getr hC wf_X8_7 dX8_goTime_119 ltM_0 layM_0 rfl ?_
        refine z_bipush hC dX8_goTime_122 kb_35 ?_
        refine z_iload hC dX8_goTime_124 rfl ?_
        refine z_iadd hC dX8_goTime_126 ?_
        refine z_iald hC dX8_goTime_127 ltM_1 layM_1 (fun h16 => ?_)
        refine z_if_ne hC 174 dX8_goTime_128 (by decide) (fun h17 => ?_) (fun h17 => ?_)
        · refine z_iinc hC dX8_goTime_174 (lv' := [some (.ref (ad 0)), some (.int c1), some (.int c2), some (.int c3), some (.int c4), some (.int c5), some (.int (a0.1 + 1))]) rfl (by decide) ki_1 rfl ?_
          refine z_goto hC 90 dX8_goTime_177 (by decide) ?_
          exact z_leaf (hc (a0.1 + 1) a0.2)
        · refine z_aload_n hC dX8_goTime_131 rfl ?_
          refine z_getr hC wf_X8_7 dX8_goTime_132 ltM_0 layM_0 rfl ?_
          refine z_bipush hC dX8_goTime_135 kb_35 ?_
          refine z_iload hC dX8_goTime_137 rfl ?_
          refine z_iadd hC dX8_goTime_139 ?_
          refine z_aload_n hC dX8_goTime_140 rfl ?_
          refine z_getr hC wf_X8_47 dX8_goTime_141 ltM_0 layM_0 rfl ?_
          refine z_iload hC dX8_goTime_144 rfl ?_
          refine z_zald hC dX8_goTime_146 ltM_12 layM_12 (fun h18 => ?_)
          refine z_if_eq hC 154 dX8_goTime_147 (by decide) (fun h19 => ?_) (fun h19 => ?_)
          · refine z_iconst hC dX8_goTime_154 ki_1 ?_
            refine z_iast hC dX8_goTime_155 ltM_1 layM_1 (fun h20 => ?_)
            refine z_let (fun σ21 _ => ?_)
            refine z_aload_n hC dX8_goTime_156 rfl ?_
            refine z_iconst hC dX8_goTime_157 ki_0 ?_
            refine z_iload hC dX8_goTime_158 rfl ?_
            refine z_callVv hC [.int 0, .int a0.1] (c_X8_tell 0 a0.1) yy_X8_tell wl_X8_133 dX8_goTime_160 ltM_0 layM_0 vcz_X8 rfl rfl rfl (Nat.le_of_ble_eq_true rfl) (by decide) (fun r22 σ23 _ => ?_)
            refine z_aload_n hC dX8_goTime_163 rfl ?_
            refine z_aload_n hC dX8_goTime_164 rfl ?_
            refine z_getr hC wf_X8_41 dX8_goTime_165 ltM_0 layM_0 rfl ?_
            refine z_iload hC dX8_goTime_168 rfl ?_
            refine z_iald hC dX8_goTime_170 ltM_10 layM_10 (fun h24 => ?_)
            refine z_callVv hC [.int (σ23 10 a0.1.toNatClampNeg)] (c_X8_perform (σ23 10 a0.1.toNatClampNeg)) yy_X8_perform wl_X8_126 dX8_goTime_171 ltM_0 layM_0 vcz_X8 rfl rfl rfl (Nat.le_of_ble_eq_true rfl) (by decide) (fun r25 σ26 _ => ?_)
            refine z_iinc hC dX8_goTime_174 (lv' := [some (.ref (ad 0)), some (.int c1), some (.int c2), some (.int c3), some (.int c4), some (.int c5), some (.int (a0.1 + 1))]) rfl (by decide) ki_1 rfl ?_
            refine z_goto hC 90 dX8_goTime_177 (by decide) ?_
            exact z_leaf (hc (a0.1 + 1) σ26)
          · refine z_iconst hC dX8_goTime_150 ki_0 ?_
            refine z_goto hC 155 dX8_goTime_151 (by decide) ?_
            refine z_iast hC dX8_goTime_155 ltM_1 layM_1 (fun h27 => ?_)
            refine z_let (fun σ28 _ => ?_)
            refine z_aload_n hC dX8_goTime_156 rfl ?_
            refine z_iconst hC dX8_goTime_157 ki_0 ?_
            refine z_iload hC dX8_goTime_158 rfl ?_
            refine z_callVv hC [.int 0, .int a0.1] (c_X8_tell 0 a0.1) yy_X8_tell wl_X8_133 dX8_goTime_160 ltM_0 layM_0 vcz_X8 rfl rfl rfl (Nat.le_of_ble_eq_true rfl) (by decide) (fun r29 σ30 _ => ?_)
            refine z_aload_n hC dX8_goTime_163 rfl ?_
            refine z_aload_n hC dX8_goTime_164 rfl ?_
            refine z_getr hC wf_X8_41 dX8_goTime_165 ltM_0 layM_0 rfl ?_
            refine z_iload hC dX8_goTime_168 rfl ?_
            refine z_iald hC dX8_goTime_170 ltM_10 layM_10 (fun h31 => ?_)
            refine z_callVv hC [.int (σ30 10 a0.1.toNatClampNeg)] (c_X8_perform (σ30 10 a0.1.toNatClampNeg)) yy_X8_perform wl_X8_126 dX8_goTime_171 ltM_0 layM_0 vcz_X8 rfl rfl rfl (Nat.le_of_ble_eq_true rfl) (by decide) (fun r32 σ33 _ => ?_)
            refine z_iinc hC dX8_goTime_174 (lv' := [some (.ref (ad 0)), some (.int c1), some (.int c2), some (.int c3), some (.int c4), some (.int c5), some (.int (a0.1 + 1))]) rfl (by decide) ki_1 rfl ?_
            refine z_goto hC 90 dX8_goTime_177 (by decide) ?_
            exact z_leaf (hc (a0.1 + 1) σ33)
set_option maxRecDepth 100000 in
set_option maxHeartbeats 4000000 in
theorem t_X8_goTime_L64 {Γ : zG} {ad : Nat → Nat} (hC : zX Γ layM nM ad cX8_goTime RX8 7 (zRm 3 66) none) (c1 : Int32) (c2 : Int32) (c3 : Int32) (a0 : Int32 × zS) (K : Bool × (Int32 × zS) → Option (Int32 × zS)) (hc : ∀ (x0 : Int32) (s' : zS), zZ Γ layM nM ad 7 none 64 [some (.ref (ad 0)), some (.int c1), some (.int c2), some (.int c3), some (.int x0), none, none] [] s' (K (true, (x0, s')))) (hx : ∀ (x0 : Int32) (s' : zS), zZ Γ layM nM ad 7 none 186 [some (.ref (ad 0)), some (.int c1), some (.int c2), some (.int c3), some (.int x0), none, none] [] s' (K (false, (x0, s')))) : zK Γ layM nM ad 7 none 64 [some (.ref (ad 0)), some (.int c1), some (.int c2), some (.int c3), some (.int a0.1), none, none] [] (a0.2) (b_X8_goTime_L64 c1 c2 c3 a0) K := by
  unfold b_X8_goTime_L64
  refine z_iload hC dX8_goTime_64 rfl ?_
  refine z_iload_n hC dX8_goTime_66 rfl ?_
  refine z_icmp_gt hC 186 dX8_goTime_67 (by decide) (fun h10 => ?_) (fun h10 => ?_)
  · exact z_leaf (hx a0.1 a0.2)
  · refine z_aload_n hC dX8_goTime_70 rfl ?_
    refine z_geti hC wf_X8_123 dX8_goTime_71 ltM_0 layM_0 rfl ?_
    refine z_if_ne hC 186 dX8_goTime_74 (by decide) (fun h11 => ?_) (fun h11 => ?_)
    · exact z_leaf (hx a0.1 a0.2)
    · refine z_iload_n hC dX8_goTime_77 rfl ?_
      refine z_iload hC dX8_goTime_78 rfl ?_
      refine z_iadd hC dX8_goTime_80 ?_
      refine z_sipush hC dX8_goTime_81 ks_1440 ?_
      refine z_irem hC dX8_goTime_84 (by decide) ?_
      refine z_istore hC dX8_goTime_85 (lv' := [some (.ref (ad 0)), some (.int c1), some (.int c2), some (.int c3), some (.int a0.1), some (.int ((c3 + a0.1) - (c3 + a0.1) / 1440 * 1440)), none]) (by decide) rfl ?_
      refine z_iconst hC dX8_goTime_87 ki_0 ?_
      refine z_istore hC dX8_goTime_88 (lv' := [some (.ref (ad 0)), some (.int c1), some (.int c2), some (.int c3), some (.int a0.1), some (.int ((c3 + a0.1) - (c3 + a0.1) / 1440 * 1440)), some (.int 0)]) (by decide) rfl ?_
      refine z_lpb (lvf := fun z : Int32 × zS => [some (.ref (ad 0)), some (.int c1), some (.int c2), some (.int c3), some (.int a0.1), some (.int ((c3 + a0.1) - (c3 + a0.1) / 1440 * 1440)), some (.int z.1)]) (sg := fun z => z.2) (x := 180) zfuel (0, a0.2) rfl rfl (fun z K hc hx => t_X8_goTime_L90 hC c1 c2 c3 a0.1 ((c3 + a0.1) - (c3 + a0.1) / 1440 * 1440) z K (fun x0 s' => hc (x0, s')) (fun x0 s' => hx (x0, s'))) (fun a34 => ?_)
      refine z_iinc hC dX8_goTime_180 (lv' := [some (.ref (ad 0)), some (.int c1), some (.int c2), some (.int c3), some (.int (a0.1 + 1)), some (.int ((c3 + a0.1) - (c3 + a0.1) / 1440 * 1440)), some (.int a34.1)]) rfl (by decide) ki_1 rfl ?_
      refine z_goto hC 64 dX8_goTime_183 (by decide) ?_
      refine z_forget [5, 6] (lv' := [some (.ref (ad 0)), some (.int c1), some (.int c2), some (.int c3), some (.int (a0.1 + 1)), none, none]) rfl ?_
      exact z_leaf (hc (a0.1 + 1) a34.2)
set_option maxRecDepth 100000 in
set_option maxHeartbeats 4000000 in
theorem w_X8_goTime {Γ : zG} {ad : Nat → Nat} (hC : zX Γ layM nM ad cX8_goTime RX8 7 (zRm 3 66) none) (σ : zS) : zK Γ layM nM ad 7 none 0 [some (.ref (ad 0)), none, none, none, none, none, none] [] σ (f_X8_goTime σ) some := by
  unfold f_X8_goTime
  refine z_aload_n hC dX8_goTime_0 rfl ?_
  refine z_geti hC wf_X8_16 dX8_goTime_1 ltM_0 layM_0 rfl ?_
  refine z_aload_n hC dX8_goTime_4 rfl ?_
  refine z_getr hC wf_X8_7 dX8_goTime_5 ltM_0 layM_0 rfl ?_
  refine z_iconst hC dX8_goTime_8 ki_3 ?_
  refine z_iald hC dX8_goTime_9 ltM_1 layM_1 (fun h1 => ?_)
  refine z_iadd hC dX8_goTime_10 ?_
  refine z_istore_n hC dX8_goTime_11 (lv' := [some (.ref (ad 0)), some (.int ((σ 0 3) + (σ 1 (3 : Int32).toNatClampNeg))), none, none, none, none, none]) (by decide) rfl ?_
  refine z_aload_n hC dX8_goTime_12 rfl ?_
  refine z_getr hC wf_X8_7 dX8_goTime_13 ltM_0 layM_0 rfl ?_
  refine z_iconst hC dX8_goTime_16 ki_1 ?_
  refine z_iald hC dX8_goTime_17 ltM_1 layM_1 (fun h2 => ?_)
  refine z_istore_n hC dX8_goTime_18 (lv' := [some (.ref (ad 0)), some (.int ((σ 0 3) + (σ 1 (3 : Int32).toNatClampNeg))), some (.int (σ 1 (1 : Int32).toNatClampNeg)), none, none, none, none]) (by decide) rfl ?_
  refine z_aload_n hC dX8_goTime_19 rfl ?_
  refine z_getr hC wf_X8_7 dX8_goTime_20 ltM_0 layM_0 rfl ?_
  refine z_iconst hC dX8_goTime_23 ki_0 ?_
  refine z_iald hC dX8_goTime_24 ltM_1 layM_1 (fun h3 => ?_)
  refine z_istore_n hC dX8_goTime_25 (lv' := [some (.ref (ad 0)), some (.int ((σ 0 3) + (σ 1 (3 : Int32).toNatClampNeg))), some (.int (σ 1 (1 : Int32).toNatClampNeg)), some (.int (σ 1 (0 : Int32).toNatClampNeg)), none, none, none]) (by decide) rfl ?_
  refine z_aload_n hC dX8_goTime_26 rfl ?_
  refine z_getr hC wf_X8_7 dX8_goTime_27 ltM_0 layM_0 rfl ?_
  refine z_iconst hC dX8_goTime_30 ki_3 ?_
  refine z_iconst hC dX8_goTime_31 ki_0 ?_
  refine z_iast hC dX8_goTime_32 ltM_1 layM_1 (fun h4 => ?_)
  refine z_let (fun σ5 _ => ?_)
  refine z_aload_n hC dX8_goTime_33 rfl ?_
  refine z_getr hC wf_X8_7 dX8_goTime_34 ltM_0 layM_0 rfl ?_
  refine z_iconst hC dX8_goTime_37 ki_0 ?_
  refine z_iload_n hC dX8_goTime_38 rfl ?_
  refine z_iload_n hC dX8_goTime_39 rfl ?_
  refine z_iadd hC dX8_goTime_40 ?_
  refine z_sipush hC dX8_goTime_41 ks_1440 ?_
  refine z_irem hC dX8_goTime_44 (by decide) ?_
  refine z_iast hC dX8_goTime_45 ltM_1 layM_1 (fun h6 => ?_)
  refine z_let (fun σ7 _ => ?_)
  refine z_aload_n hC dX8_goTime_46 rfl ?_
  refine z_getr hC wf_X8_7 dX8_goTime_47 ltM_0 layM_0 rfl ?_
  refine z_iconst hC dX8_goTime_50 ki_1 ?_
  refine z_iload_n hC dX8_goTime_51 rfl ?_
  refine z_iload_n hC dX8_goTime_52 rfl ?_
  refine z_iload_n hC dX8_goTime_53 rfl ?_
  refine z_iadd hC dX8_goTime_54 ?_
  refine z_sipush hC dX8_goTime_55 ks_1440 ?_
  refine z_idiv hC dX8_goTime_58 (by decide) ?_
  refine z_iadd hC dX8_goTime_59 ?_
  refine z_iast hC dX8_goTime_60 ltM_1 layM_1 (fun h8 => ?_)
  refine z_let (fun σ9 _ => ?_)
  refine z_iconst hC dX8_goTime_61 ki_1 ?_
  refine z_istore hC dX8_goTime_62 (lv' := [some (.ref (ad 0)), some (.int ((σ 0 3) + (σ 1 (3 : Int32).toNatClampNeg))), some (.int (σ 1 (1 : Int32).toNatClampNeg)), some (.int (σ 1 (0 : Int32).toNatClampNeg)), some (.int 1), none, none]) (by decide) rfl ?_
  refine z_lpb (lvf := fun z : Int32 × zS => [some (.ref (ad 0)), some (.int ((σ 0 3) + (σ 1 (3 : Int32).toNatClampNeg))), some (.int (σ 1 (1 : Int32).toNatClampNeg)), some (.int (σ 1 (0 : Int32).toNatClampNeg)), some (.int z.1), none, none]) (sg := fun z => z.2) (x := 186) zfuel (1, σ9) rfl rfl (fun z K hc hx => t_X8_goTime_L64 hC ((σ 0 3) + (σ 1 (3 : Int32).toNatClampNeg)) (σ 1 (1 : Int32).toNatClampNeg) (σ 1 (0 : Int32).toNatClampNeg) z K (fun x0 s' => hc (x0, s')) (fun x0 s' => hx (x0, s'))) (fun a35 => ?_)
  exact z_vret hC dX8_goTime_186
theorem c_X8_goTime : zM layM nM yX8_goTime cX8_goTime 7 none (zRm 3 66) (fun ad => [.ref (ad 0)]) (f_X8_goTime) := zM_of (own := RX8) (by decide) rfl (fun ad w hw => by simp only [List.mem_cons, List.not_mem_nil, or_false] at hw; (first | exact hw.elim | (rcases hw with rfl <;> rfl))) (fun ad => Nat.le_of_ble_eq_true rfl) (fun Γ ad hC σ => w_X8_goTime hC σ)
end
section
set_option maxRecDepth 100000 in
set_option maxHeartbeats 4000000 in
theorem t_X8_goTimers_L2 {Γ : zG} {ad : Nat → Nat} (hC : zX Γ layM nM ad cX8_goTimers RX8 2 (zRm 3 66) none) (a0 : Int32 × zS) (K : Bool × (Int32 × zS) → Option (Int32 × zS)) (hc : ∀ (x0 : Int32) (s' : zS), zZ Γ layM nM ad 2 none 2 [some (.ref (ad 0)), some (.int x0)] [] s' (K (true, (x0, s')))) (hx : ∀ (x0 : Int32) (s' : zS), zZ Γ layM nM ad 2 none 46 [some (.ref (ad 0)), some (.int x0)] [] s' (K (false, (x0, s')))) : zK Γ layM nM ad 2 none 2 [some (.ref (ad 0)), some (.int a0.1)] [] (a0.2) (b_X8_goTimers_L2 a0) K := by
  unfold b_X8_goTimers_L2
  refine z_iload_n hC dX8_goTimers_2 rfl ?_
  refine z_aload_n hC dX8_goTimers_3 rfl ?_
  refine z_geti hC wf_X8_105 dX8_goTimers_4 ltM_0 layM_0 rfl ?_
  refine z_icmp_ge hC 46 dX8_goTimers_7 (by decide) (fun h1 => ?_) (fun h1 => ?_)
  · exact z_leaf (hx a0.1 a0.2)
  · refine z_aload_n hC dX8_goTimers_10 rfl ?_
    refine z_getr hC wf_X8_69 dX8_goTimers_11 ltM_0 layM_0 rfl ?_
    refine z_iload_n hC dX8_goTimers_14 rfl ?_
    refine z_aload_n hC dX8_goTimers_15 rfl ?_
    refine z_getr hC wf_X8_7 dX8_goTimers_16 ltM_0 layM_0 rfl ?_
    refine z_bipush hC dX8_goTimers_19 kb_47 ?_
    refine z_iload_n hC dX8_goTimers_21 rfl ?_
    refine z_iadd hC dX8_goTimers_22 ?_
    refine z_iald hC dX8_goTimers_23 ltM_1 layM_1 (fun h2 => ?_)
    refine z_if_le hC 31 dX8_goTimers_24 (by decide) (fun h3 => ?_) (fun h3 => ?_)
    · refine z_iconst hC dX8_goTimers_31 ki_0 ?_
      refine z_zast hC dX8_goTimers_32 ltM_19 layM_19 (fun h4 => ?_)
      refine z_let (fun σ5 _ => ?_)
      refine z_aload_n hC dX8_goTimers_33 rfl ?_
      refine z_getr hC wf_X8_66 dX8_goTimers_34 ltM_0 layM_0 rfl ?_
      refine z_iload_n hC dX8_goTimers_37 rfl ?_
      refine z_iconst hC dX8_goTimers_38 ki_0 ?_
      refine z_zast hC dX8_goTimers_39 ltM_18 layM_18 (fun h6 => ?_)
      refine z_let (fun σ7 _ => ?_)
      refine z_iinc hC dX8_goTimers_40 (lv' := [some (.ref (ad 0)), some (.int (a0.1 + 1))]) rfl (by decide) ki_1 rfl ?_
      refine z_goto hC 2 dX8_goTimers_43 (by decide) ?_
      exact z_leaf (hc (a0.1 + 1) σ7)
    · refine z_iconst hC dX8_goTimers_27 ki_1 ?_
      refine z_goto hC 32 dX8_goTimers_28 (by decide) ?_
      refine z_zast hC dX8_goTimers_32 ltM_19 layM_19 (fun h8 => ?_)
      refine z_let (fun σ9 _ => ?_)
      refine z_aload_n hC dX8_goTimers_33 rfl ?_
      refine z_getr hC wf_X8_66 dX8_goTimers_34 ltM_0 layM_0 rfl ?_
      refine z_iload_n hC dX8_goTimers_37 rfl ?_
      refine z_iconst hC dX8_goTimers_38 ki_0 ?_
      refine z_zast hC dX8_goTimers_39 ltM_18 layM_18 (fun h10 => ?_)
      refine z_let (fun σ11 _ => ?_)
      refine z_iinc hC dX8_goTimers_40 (lv' := [some (.ref (ad 0)), some (.int (a0.1 + 1))]) rfl (by decide) ki_1 rfl ?_
      refine z_goto hC 2 dX8_goTimers_43 (by decide) ?_
      exact z_leaf (hc (a0.1 + 1) σ11)
set_option maxRecDepth 100000 in
set_option maxHeartbeats 4000000 in
theorem t_X8_goTimers_L48 {Γ : zG} {ad : Nat → Nat} (hC : zX Γ layM nM ad cX8_goTimers RX8 2 (zRm 3 66) none) (a0 : Int32 × zS) (K : Bool × (Int32 × zS) → Option (Int32 × zS)) (hc : ∀ (x0 : Int32) (s' : zS), zZ Γ layM nM ad 2 none 48 [some (.ref (ad 0)), some (.int x0)] [] s' (K (true, (x0, s')))) (hx : ∀ (x0 : Int32) (s' : zS), zZ Γ layM nM ad 2 none 168 [some (.ref (ad 0)), some (.int x0)] [] s' (K (false, (x0, s')))) : zK Γ layM nM ad 2 none 48 [some (.ref (ad 0)), some (.int a0.1)] [] (a0.2) (b_X8_goTimers_L48 a0) K := by
  unfold b_X8_goTimers_L48
  refine z_iload_n hC dX8_goTimers_48 rfl ?_
  refine z_aload_n hC dX8_goTimers_49 rfl ?_
  refine z_geti hC wf_X8_105 dX8_goTimers_50 ltM_0 layM_0 rfl ?_
  refine z_icmp_ge hC 168 dX8_goTimers_53 (by decide) (fun h13 => ?_) (fun h13 => ?_)
  · exact z_leaf (hx a0.1 a0.2)
  · refine z_aload_n hC dX8_goTimers_56 rfl ?_
    refine z_geti hC wf_X8_123 dX8_goTimers_57 ltM_0 layM_0 rfl ?_
    refine z_if_ne hC 168 dX8_goTimers_60 (by decide) (fun h14 => ?_) (fun h14 => ?_)
    · exact z_leaf (hx a0.1 a0.2)
    · refine z_aload_n hC dX8_goTimers_63 rfl ?_
      refine z_getr hC wf_X8_69 dX8_goTimers_64 ltM_0 layM_0 rfl ?_
      refine z_iload_n hC dX8_goTimers_67 rfl ?_
      refine z_zald hC dX8_goTimers_68 ltM_19 layM_19 (fun h15 => ?_)
      refine z_if_eq hC 162 dX8_goTimers_69 (by decide) (fun h16 => ?_) (fun h16 => ?_)
      · refine z_iinc hC dX8_goTimers_162 (lv' := [some (.ref (ad 0)), some (.int (a0.1 + 1))]) rfl (by decide) ki_1 rfl ?_
        refine z_goto hC 48 dX8_goTimers_165 (by decide) ?_
        exact z_leaf (hc (a0.1 + 1) a0.2)
      · refine z_aload_n hC dX8_goTimers_72 rfl ?_
        refine z_getr hC wf_X8_66 dX8_goTimers_73 ltM_0 layM_0 rfl ?_
        refine z_iload_n hC dX8_goTimers_76 rfl ?_
        refine z_zald hC dX8_goTimers_77 ltM_18 layM_18 (fun h17 => ?_)
        refine z_if_ne hC 162 dX8_goTimers_78 (by decide) (fun h18 => ?_) (fun h18 => ?_)
        · refine z_iinc hC dX8_goTimers_162 (lv' := [some (.ref (ad 0)), some (.int (a0.1 + 1))]) rfl (by decide) ki_1 rfl ?_
          refine z_goto hC 48 dX8_goTimers_165 (by decide) ?_
          exact z_leaf (hc (a0.1 + 1) a0.2)
        · refine z_aload_n hC dX8_goTimers_81 rfl ?_
          refine z_getr hC wf_X8_7 dX8_goTimers_82 ltM_0 layM_0 rfl ?_
          refine z_bipush hC dX8_goTimers_85 kb_47 ?_
          refine z_iload_n hC dX8_goTimers_87 rfl ?_
          refine z_iadd hC dX8_goTimers_88 ?_
          refine z_iald hC dX8_goTimers_89 ltM_1 layM_1 (fun h19 => ?_)
          refine z_if_le hC 162 dX8_goTimers_90 (by decide) (fun h20 => ?_) (fun h20 => ?_)
          · refine z_iinc hC dX8_goTimers_162 (lv' := [some (.ref (ad 0)), some (.int (a0.1 + 1))]) rfl (by decide) ki_1 rfl ?_
            refine z_goto hC 48 dX8_goTimers_165 (by decide) ?_
            exact z_leaf (hc (a0.1 + 1) a0.2)
          · refine z_aload_n hC dX8_goTimers_93 rfl ?_
            refine z_getr hC wf_X8_7 dX8_goTimers_94 ltM_0 layM_0 rfl ?_
            refine z_bipush hC dX8_goTimers_97 kb_47 ?_
            refine z_iload_n hC dX8_goTimers_99 rfl ?_
            refine z_iadd hC dX8_goTimers_100 ?_
            refine z_dup2 hC dX8_goTimers_101 rfl rfl ?_
            refine z_iald hC dX8_goTimers_102 ltM_1 layM_1 (fun h21 => ?_)
            refine z_iconst hC dX8_goTimers_103 ki_1 ?_
            refine z_isub hC dX8_goTimers_104 ?_
            refine z_iast hC dX8_goTimers_105 ltM_1 layM_1 (fun h22 => ?_)
            refine z_let (fun σ23 _ => ?_)
            refine z_aload_n hC dX8_goTimers_106 rfl ?_
            refine z_getr hC wf_X8_7 dX8_goTimers_107 ltM_0 layM_0 rfl ?_
            refine z_bipush hC dX8_goTimers_110 kb_47 ?_
            refine z_iload_n hC dX8_goTimers_112 rfl ?_
            refine z_iadd hC dX8_goTimers_113 ?_
            refine z_iald hC dX8_goTimers_114 ltM_1 layM_1 (fun h24 => ?_)
            refine z_if_ne hC 162 dX8_goTimers_115 (by decide) (fun h25 => ?_) (fun h25 => ?_)
            · refine z_iinc hC dX8_goTimers_162 (lv' := [some (.ref (ad 0)), some (.int (a0.1 + 1))]) rfl (by decide) ki_1 rfl ?_
              refine z_goto hC 48 dX8_goTimers_165 (by decide) ?_
              exact z_leaf (hc (a0.1 + 1) σ23)
            · refine z_aload_n hC dX8_goTimers_118 rfl ?_
              refine z_getr hC wf_X8_7 dX8_goTimers_119 ltM_0 layM_0 rfl ?_
              refine z_bipush hC dX8_goTimers_122 kb_47 ?_
              refine z_iload_n hC dX8_goTimers_124 rfl ?_
              refine z_iadd hC dX8_goTimers_125 ?_
              refine z_aload_n hC dX8_goTimers_126 rfl ?_
              refine z_getr hC wf_X8_57 dX8_goTimers_127 ltM_0 layM_0 rfl ?_
              refine z_iload_n hC dX8_goTimers_130 rfl ?_
              refine z_zald hC dX8_goTimers_131 ltM_15 layM_15 (fun h26 => ?_)
              refine z_if_eq hC 144 dX8_goTimers_132 (by decide) (fun h27 => ?_) (fun h27 => ?_)
              · refine z_iconst hC dX8_goTimers_144 ki_0 ?_
                refine z_iast hC dX8_goTimers_145 ltM_1 layM_1 (fun h28 => ?_)
                refine z_let (fun σ29 _ => ?_)
                refine z_aload_n hC dX8_goTimers_146 rfl ?_
                refine z_iconst hC dX8_goTimers_147 ki_1 ?_
                refine z_iload_n hC dX8_goTimers_148 rfl ?_
                refine z_callVv hC [.int 1, .int a0.1] (c_X8_tell 1 a0.1) yy_X8_tell wl_X8_133 dX8_goTimers_149 ltM_0 layM_0 vcz_X8 rfl rfl rfl (Nat.le_of_ble_eq_true rfl) (by decide) (fun r30 σ31 _ => ?_)
                refine z_aload_n hC dX8_goTimers_152 rfl ?_
                refine z_aload_n hC dX8_goTimers_153 rfl ?_
                refine z_getr hC wf_X8_51 dX8_goTimers_154 ltM_0 layM_0 rfl ?_
                refine z_iload_n hC dX8_goTimers_157 rfl ?_
                refine z_iald hC dX8_goTimers_158 ltM_13 layM_13 (fun h32 => ?_)
                refine z_callVv hC [.int (σ31 13 a0.1.toNatClampNeg)] (c_X8_perform (σ31 13 a0.1.toNatClampNeg)) yy_X8_perform wl_X8_126 dX8_goTimers_159 ltM_0 layM_0 vcz_X8 rfl rfl rfl (Nat.le_of_ble_eq_true rfl) (by decide) (fun r33 σ34 _ => ?_)
                refine z_iinc hC dX8_goTimers_162 (lv' := [some (.ref (ad 0)), some (.int (a0.1 + 1))]) rfl (by decide) ki_1 rfl ?_
                refine z_goto hC 48 dX8_goTimers_165 (by decide) ?_
                exact z_leaf (hc (a0.1 + 1) σ34)
              · refine z_aload_n hC dX8_goTimers_135 rfl ?_
                refine z_getr hC wf_X8_54 dX8_goTimers_136 ltM_0 layM_0 rfl ?_
                refine z_iload_n hC dX8_goTimers_139 rfl ?_
                refine z_iald hC dX8_goTimers_140 ltM_14 layM_14 (fun h35 => ?_)
                refine z_goto hC 145 dX8_goTimers_141 (by decide) ?_
                refine z_iast hC dX8_goTimers_145 ltM_1 layM_1 (fun h36 => ?_)
                refine z_let (fun σ37 _ => ?_)
                refine z_aload_n hC dX8_goTimers_146 rfl ?_
                refine z_iconst hC dX8_goTimers_147 ki_1 ?_
                refine z_iload_n hC dX8_goTimers_148 rfl ?_
                refine z_callVv hC [.int 1, .int a0.1] (c_X8_tell 1 a0.1) yy_X8_tell wl_X8_133 dX8_goTimers_149 ltM_0 layM_0 vcz_X8 rfl rfl rfl (Nat.le_of_ble_eq_true rfl) (by decide) (fun r38 σ39 _ => ?_)
                refine z_aload_n hC dX8_goTimers_152 rfl ?_
                refine z_aload_n hC dX8_goTimers_153 rfl ?_
                refine z_getr hC wf_X8_51 dX8_goTimers_154 ltM_0 layM_0 rfl ?_
                refine z_iload_n hC dX8_goTimers_157 rfl ?_
                refine z_iald hC dX8_goTimers_158 ltM_13 layM_13 (fun h40 => ?_)
                refine z_callVv hC [.int (σ39 13 a0.1.toNatClampNeg)] (c_X8_perform (σ39 13 a0.1.toNatClampNeg)) yy_X8_perform wl_X8_126 dX8_goTimers_159 ltM_0 layM_0 vcz_X8 rfl rfl rfl (Nat.le_of_ble_eq_true rfl) (by decide) (fun r41 σ42 _ => ?_)
                refine z_iinc hC dX8_goTimers_162 (lv' := [some (.ref (ad 0)), some (.int (a0.1 + 1))]) rfl (by decide) ki_1 rfl ?_
                refine z_goto hC 48 dX8_goTimers_165 (by decide) ?_
                exact z_leaf (hc (a0.1 + 1) σ42)
set_option maxRecDepth 100000 in
set_option maxHeartbeats 4000000 in
theorem w_X8_goTimers {Γ : zG} {ad : Nat → Nat} (hC : zX Γ layM nM ad cX8_goTimers RX8 2 (zRm 3 66) none) (σ : zS) : zK Γ layM nM ad 2 none 0 [some (.ref (ad 0)), none] [] σ (f_X8_goTimers σ) some := by
  unfold f_X8_goTimers
  refine z_iconst hC dX8_goTimers_0 ki_0 ?_
  refine z_istore_n hC dX8_goTimers_1 (lv' := [some (.ref (ad 0)), some (.int 0)]) (by decide) rfl ?_
  refine z_lpb (lvf := fun z : Int32 × zS => [some (.ref (ad 0)), some (.int z.1)]) (sg := fun z => z.2) (x := 46) zfuel (0, σ) rfl rfl (fun z K hc hx => t_X8_goTimers_L2 hC z K (fun x0 s' => hc (x0, s')) (fun x0 s' => hx (x0, s'))) (fun a12 => ?_)
  refine z_iconst hC dX8_goTimers_46 ki_0 ?_
  refine z_istore_n hC dX8_goTimers_47 (lv' := [some (.ref (ad 0)), some (.int 0)]) (by decide) rfl ?_
  refine z_lpb (lvf := fun z : Int32 × zS => [some (.ref (ad 0)), some (.int z.1)]) (sg := fun z => z.2) (x := 168) zfuel (0, a12.2) rfl rfl (fun z K hc hx => t_X8_goTimers_L48 hC z K (fun x0 s' => hc (x0, s')) (fun x0 s' => hx (x0, s'))) (fun a43 => ?_)
  exact z_vret hC dX8_goTimers_168
theorem c_X8_goTimers : zM layM nM yX8_goTimers cX8_goTimers 2 none (zRm 3 66) (fun ad => [.ref (ad 0)]) (f_X8_goTimers) := zM_of (own := RX8) (by decide) rfl (fun ad w hw => by simp only [List.mem_cons, List.not_mem_nil, or_false] at hw; (first | exact hw.elim | (rcases hw with rfl <;> rfl))) (fun ad => Nat.le_of_ble_eq_true rfl) (fun Γ ad hC σ => w_X8_goTimers hC σ)
set_option maxRecDepth 100000 in
set_option maxHeartbeats 4000000 in
theorem q_X8_isJoined_J63 {Γ : zG} {ad : Nat → Nat} (hC : zX Γ layM nM ad cX8_isJoined RX8 6 (zRm 0 0) (some .boolean)) (v1 : Int32) (v2 : Int32) (v3 : Int32) (v4 : Int32) (s0 : Int32) (σ : zS) (K : Bool × (Int32 × Int32 × zS) → Option (Int32 × zS)) (hc : ∀ (x0 : Int32) (x1 : Int32) (s' : zS), zZ Γ layM nM ad 6 (some .boolean) 5 [some (.ref (ad 0)), some (.int v1), some (.int v2), some (.int x0), some (.int x1), none] [] s' (K (true, (x0, x1, s')))) (hx : ∀ (x0 : Int32) (x1 : Int32) (s' : zS), zZ Γ layM nM ad 6 (some .boolean) 100 [some (.ref (ad 0)), some (.int v1), some (.int v2), some (.int x0), some (.int x1), none] [] s' (K (false, (x0, x1, s')))) : zK Γ layM nM ad 6 (some .boolean) 63 [some (.ref (ad 0)), some (.int v1), some (.int v2), some (.int v3), some (.int v4), none] [.int s0] σ (j_X8_isJoined_J63 v1 v2 v3 v4 s0 σ) K := by
  unfold j_X8_isJoined_J63
  refine z_istore hC dX8_isJoined_63 (lv' := [some (.ref (ad 0)), some (.int v1), some (.int v2), some (.int v3), some (.int v4), some (.int s0)]) (by decide) rfl ?_
  refine z_iload_n hC dX8_isJoined_65 rfl ?_
  refine z_if_ne hC 88 dX8_isJoined_66 (by decide) (fun h6 => ?_) (fun h6 => ?_)
  · refine z_iconst hC dX8_isJoined_88 ki_1 ?_
    refine z_goto hC 93 dX8_isJoined_89 (by decide) ?_
    refine z_istore_n hC dX8_isJoined_93 (lv' := [some (.ref (ad 0)), some (.int v1), some (.int v2), some (.int 1), some (.int v4), some (.int s0)]) (by decide) rfl ?_
    refine z_iinc hC dX8_isJoined_94 (lv' := [some (.ref (ad 0)), some (.int v1), some (.int v2), some (.int 1), some (.int (v4 + 1)), some (.int s0)]) rfl (by decide) ki_1 rfl ?_
    refine z_goto hC 5 dX8_isJoined_97 (by decide) ?_
    refine z_forget [5] (lv' := [some (.ref (ad 0)), some (.int v1), some (.int v2), some (.int 1), some (.int (v4 + 1)), none]) rfl ?_
    exact z_leaf (hc 1 (v4 + 1) σ)
  · refine z_iload hC dX8_isJoined_69 rfl ?_
    refine z_if_eq hC 92 dX8_isJoined_71 (by decide) (fun h7 => ?_) (fun h7 => ?_)
    · refine z_iconst hC dX8_isJoined_92 ki_0 ?_
      refine z_istore_n hC dX8_isJoined_93 (lv' := [some (.ref (ad 0)), some (.int v1), some (.int v2), some (.int 0), some (.int v4), some (.int s0)]) (by decide) rfl ?_
      refine z_iinc hC dX8_isJoined_94 (lv' := [some (.ref (ad 0)), some (.int v1), some (.int v2), some (.int 0), some (.int (v4 + 1)), some (.int s0)]) rfl (by decide) ki_1 rfl ?_
      refine z_goto hC 5 dX8_isJoined_97 (by decide) ?_
      refine z_forget [5] (lv' := [some (.ref (ad 0)), some (.int v1), some (.int v2), some (.int 0), some (.int (v4 + 1)), none]) rfl ?_
      exact z_leaf (hc 0 (v4 + 1) σ)
    · refine z_aload_n hC dX8_isJoined_74 rfl ?_
      refine z_getr hC wf_X8_7 dX8_isJoined_75 ltM_0 layM_0 rfl ?_
      refine z_bipush hC dX8_isJoined_78 kb_12 ?_
      refine z_iload hC dX8_isJoined_80 rfl ?_
      refine z_iadd hC dX8_isJoined_82 ?_
      refine z_iald hC dX8_isJoined_83 ltM_1 layM_1 (fun h8 => ?_)
      refine z_iconst hC dX8_isJoined_84 ki_1 ?_
      refine z_icmp_ne hC 92 dX8_isJoined_85 (by decide) (fun h9 => ?_) (fun h9 => ?_)
      · refine z_iconst hC dX8_isJoined_92 ki_0 ?_
        refine z_istore_n hC dX8_isJoined_93 (lv' := [some (.ref (ad 0)), some (.int v1), some (.int v2), some (.int 0), some (.int v4), some (.int s0)]) (by decide) rfl ?_
        refine z_iinc hC dX8_isJoined_94 (lv' := [some (.ref (ad 0)), some (.int v1), some (.int v2), some (.int 0), some (.int (v4 + 1)), some (.int s0)]) rfl (by decide) ki_1 rfl ?_
        refine z_goto hC 5 dX8_isJoined_97 (by decide) ?_
        refine z_forget [5] (lv' := [some (.ref (ad 0)), some (.int v1), some (.int v2), some (.int 0), some (.int (v4 + 1)), none]) rfl ?_
        exact z_leaf (hc 0 (v4 + 1) σ)
      · refine z_iconst hC dX8_isJoined_88 ki_1 ?_
        refine z_goto hC 93 dX8_isJoined_89 (by decide) ?_
        refine z_istore_n hC dX8_isJoined_93 (lv' := [some (.ref (ad 0)), some (.int v1), some (.int v2), some (.int 1), some (.int v4), some (.int s0)]) (by decide) rfl ?_
        refine z_iinc hC dX8_isJoined_94 (lv' := [some (.ref (ad 0)), some (.int v1), some (.int v2), some (.int 1), some (.int (v4 + 1)), some (.int s0)]) rfl (by decide) ki_1 rfl ?_
        refine z_goto hC 5 dX8_isJoined_97 (by decide) ?_
        refine z_forget [5] (lv' := [some (.ref (ad 0)), some (.int v1), some (.int v2), some (.int 1), some (.int (v4 + 1)), none]) rfl ?_
        exact z_leaf (hc 1 (v4 + 1) σ)
set_option maxRecDepth 100000 in
set_option maxHeartbeats 4000000 in
theorem q_X8_isJoined_J62 {Γ : zG} {ad : Nat → Nat} (hC : zX Γ layM nM ad cX8_isJoined RX8 6 (zRm 0 0) (some .boolean)) (v1 : Int32) (v2 : Int32) (v3 : Int32) (v4 : Int32) (σ : zS) (K : Bool × (Int32 × Int32 × zS) → Option (Int32 × zS)) (hc : ∀ (x0 : Int32) (x1 : Int32) (s' : zS), zZ Γ layM nM ad 6 (some .boolean) 5 [some (.ref (ad 0)), some (.int v1), some (.int v2), some (.int x0), some (.int x1), none] [] s' (K (true, (x0, x1, s')))) (hx : ∀ (x0 : Int32) (x1 : Int32) (s' : zS), zZ Γ layM nM ad 6 (some .boolean) 100 [some (.ref (ad 0)), some (.int v1), some (.int v2), some (.int x0), some (.int x1), none] [] s' (K (false, (x0, x1, s')))) : zK Γ layM nM ad 6 (some .boolean) 62 [some (.ref (ad 0)), some (.int v1), some (.int v2), some (.int v3), some (.int v4), none] [] σ (j_X8_isJoined_J62 v1 v2 v3 v4 σ) K := by
  unfold j_X8_isJoined_J62
  refine z_iconst hC dX8_isJoined_62 ki_0 ?_
  exact q_X8_isJoined_J63 hC v1 v2 v3 v4 0 σ K hc hx
set_option maxRecDepth 100000 in
set_option maxHeartbeats 4000000 in
theorem q_X8_isJoined_J58 {Γ : zG} {ad : Nat → Nat} (hC : zX Γ layM nM ad cX8_isJoined RX8 6 (zRm 0 0) (some .boolean)) (v1 : Int32) (v2 : Int32) (v3 : Int32) (v4 : Int32) (σ : zS) (K : Bool × (Int32 × Int32 × zS) → Option (Int32 × zS)) (hc : ∀ (x0 : Int32) (x1 : Int32) (s' : zS), zZ Γ layM nM ad 6 (some .boolean) 5 [some (.ref (ad 0)), some (.int v1), some (.int v2), some (.int x0), some (.int x1), none] [] s' (K (true, (x0, x1, s')))) (hx : ∀ (x0 : Int32) (x1 : Int32) (s' : zS), zZ Γ layM nM ad 6 (some .boolean) 100 [some (.ref (ad 0)), some (.int v1), some (.int v2), some (.int x0), some (.int x1), none] [] s' (K (false, (x0, x1, s')))) : zK Γ layM nM ad 6 (some .boolean) 58 [some (.ref (ad 0)), some (.int v1), some (.int v2), some (.int v3), some (.int v4), none] [] σ (j_X8_isJoined_J58 v1 v2 v3 v4 σ) K := by
  unfold j_X8_isJoined_J58
  refine z_iconst hC dX8_isJoined_58 ki_1 ?_
  refine z_goto hC 63 dX8_isJoined_59 (by decide) ?_
  exact q_X8_isJoined_J63 hC v1 v2 v3 v4 1 σ K hc hx
set_option maxRecDepth 100000 in
set_option maxHeartbeats 4000000 in
theorem q_X8_isJoined_J36 {Γ : zG} {ad : Nat → Nat} (hC : zX Γ layM nM ad cX8_isJoined RX8 6 (zRm 0 0) (some .boolean)) (v1 : Int32) (v2 : Int32) (v3 : Int32) (v4 : Int32) (σ : zS) (K : Bool × (Int32 × Int32 × zS) → Option (Int32 × zS)) (hc : ∀ (x0 : Int32) (x1 : Int32) (s' : zS), zZ Γ layM nM ad 6 (some .boolean) 5 [some (.ref (ad 0)), some (.int v1), some (.int v2), some (.int x0), some (.int x1), none] [] s' (K (true, (x0, x1, s')))) (hx : ∀ (x0 : Int32) (x1 : Int32) (s' : zS), zZ Γ layM nM ad 6 (some .boolean) 100 [some (.ref (ad 0)), some (.int v1), some (.int v2), some (.int x0), some (.int x1), none] [] s' (K (false, (x0, x1, s')))) : zK Γ layM nM ad 6 (some .boolean) 36 [some (.ref (ad 0)), some (.int v1), some (.int v2), some (.int v3), some (.int v4), none] [] σ (j_X8_isJoined_J36 v1 v2 v3 v4 σ) K := by
  unfold j_X8_isJoined_J36
  refine z_aload_n hC dX8_isJoined_36 rfl ?_
  refine z_getr hC wf_X8_20 dX8_isJoined_37 ltM_0 layM_0 rfl ?_
  refine z_iload hC dX8_isJoined_40 rfl ?_
  refine z_iald hC dX8_isJoined_42 ltM_3 layM_3 (fun h4 => ?_)
  refine z_iload_n hC dX8_isJoined_43 rfl ?_
  refine z_icmp_ne hC 62 dX8_isJoined_44 (by decide) (fun h5 => ?_) (fun h5 => ?_)
  · exact q_X8_isJoined_J62 hC v1 v2 v3 v4 σ K hc hx
  · refine z_aload_n hC dX8_isJoined_47 rfl ?_
    refine z_getr hC wf_X8_23 dX8_isJoined_48 ltM_0 layM_0 rfl ?_
    refine z_iload hC dX8_isJoined_51 rfl ?_
    refine z_iald hC dX8_isJoined_53 ltM_4 layM_4 (fun h10 => ?_)
    refine z_iload_n hC dX8_isJoined_54 rfl ?_
    refine z_icmp_ne hC 62 dX8_isJoined_55 (by decide) (fun h11 => ?_) (fun h11 => ?_)
    · exact q_X8_isJoined_J62 hC v1 v2 v3 v4 σ K hc hx
    · exact q_X8_isJoined_J58 hC v1 v2 v3 v4 σ K hc hx
set_option maxRecDepth 100000 in
set_option maxHeartbeats 4000000 in
theorem t_X8_isJoined_L5 {Γ : zG} {ad : Nat → Nat} (hC : zX Γ layM nM ad cX8_isJoined RX8 6 (zRm 0 0) (some .boolean)) (c1 : Int32) (c2 : Int32) (a0 : Int32 × Int32 × zS) (K : Bool × (Int32 × Int32 × zS) → Option (Int32 × zS)) (hc : ∀ (x0 : Int32) (x1 : Int32) (s' : zS), zZ Γ layM nM ad 6 (some .boolean) 5 [some (.ref (ad 0)), some (.int c1), some (.int c2), some (.int x0), some (.int x1), none] [] s' (K (true, (x0, x1, s')))) (hx : ∀ (x0 : Int32) (x1 : Int32) (s' : zS), zZ Γ layM nM ad 6 (some .boolean) 100 [some (.ref (ad 0)), some (.int c1), some (.int c2), some (.int x0), some (.int x1), none] [] s' (K (false, (x0, x1, s')))) : zK Γ layM nM ad 6 (some .boolean) 5 [some (.ref (ad 0)), some (.int c1), some (.int c2), some (.int a0.1), some (.int a0.2.1), none] [] (a0.2.2) (b_X8_isJoined_L5 c1 c2 a0) K := by
  unfold b_X8_isJoined_L5
  refine z_iload hC dX8_isJoined_5 rfl ?_
  refine z_aload_n hC dX8_isJoined_7 rfl ?_
  refine z_geti hC wf_X8_93 dX8_isJoined_8 ltM_0 layM_0 rfl ?_
  refine z_icmp_ge hC 100 dX8_isJoined_11 (by decide) (fun h1 => ?_) (fun h1 => ?_)
  · exact z_leaf (hx a0.1 a0.2.1 a0.2.2)
  · refine z_aload_n hC dX8_isJoined_14 rfl ?_
    refine z_getr hC wf_X8_20 dX8_isJoined_15 ltM_0 layM_0 rfl ?_
    refine z_iload hC dX8_isJoined_18 rfl ?_
    refine z_iald hC dX8_isJoined_20 ltM_3 layM_3 (fun h2 => ?_)
    refine z_iload_n hC dX8_isJoined_21 rfl ?_
    refine z_icmp_ne hC 36 dX8_isJoined_22 (by decide) (fun h3 => ?_) (fun h3 => ?_)
    · exact q_X8_isJoined_J36 hC c1 c2 a0.1 a0.2.1 a0.2.2 K hc hx
    · refine z_aload_n hC dX8_isJoined_25 rfl ?_
      refine z_getr hC wf_X8_23 dX8_isJoined_26 ltM_0 layM_0 rfl ?_
      refine z_iload hC dX8_isJoined_29 rfl ?_
      refine z_iald hC dX8_isJoined_31 ltM_4 layM_4 (fun h12 => ?_)
      refine z_iload_n hC dX8_isJoined_32 rfl ?_
      refine z_icmp_eq hC 58 dX8_isJoined_33 (by decide) (fun h13 => ?_) (fun h13 => ?_)
      · exact q_X8_isJoined_J58 hC c1 c2 a0.1 a0.2.1 a0.2.2 K hc hx
      · exact q_X8_isJoined_J36 hC c1 c2 a0.1 a0.2.1 a0.2.2 K hc hx
set_option maxRecDepth 100000 in
set_option maxHeartbeats 4000000 in
theorem w_X8_isJoined {Γ : zG} {ad : Nat → Nat} (hC : zX Γ layM nM ad cX8_isJoined RX8 6 (zRm 0 0) (some .boolean)) (p1 : Int32) (p2 : Int32) (σ : zS) : zK Γ layM nM ad 6 (some .boolean) 0 [some (.ref (ad 0)), some (.int p1), some (.int p2), none, none, none] [] σ (f_X8_isJoined p1 p2 σ) some := by
  unfold f_X8_isJoined
  refine z_iconst hC dX8_isJoined_0 ki_0 ?_
  refine z_istore_n hC dX8_isJoined_1 (lv' := [some (.ref (ad 0)), some (.int p1), some (.int p2), some (.int 0), none, none]) (by decide) rfl ?_
  refine z_iconst hC dX8_isJoined_2 ki_0 ?_
  refine z_istore hC dX8_isJoined_3 (lv' := [some (.ref (ad 0)), some (.int p1), some (.int p2), some (.int 0), some (.int 0), none]) (by decide) rfl ?_
  refine z_lpb (lvf := fun z : Int32 × Int32 × zS => [some (.ref (ad 0)), some (.int p1), some (.int p2), some (.int z.1), some (.int z.2.1), none]) (sg := fun z => z.2.2) (x := 100) zfuel (0, 0, σ) rfl rfl (fun z K hc hx => t_X8_isJoined_L5 hC p1 p2 z K (fun x0 x1 s' => hc (x0, x1, s')) (fun x0 x1 s' => hx (x0, x1, s'))) (fun a14 => ?_)
  refine z_iload_n hC dX8_isJoined_100 rfl ?_
  refine z_chk (fun h15 => ?_)
  exact z_zret hC h15 dX8_isJoined_101
theorem c_X8_isJoined (p1 : Int32) (p2 : Int32) : zM layM nM yX8_isJoined cX8_isJoined 6 (some .boolean) (zRm 0 0) (fun ad => [.ref (ad 0), .int p1, .int p2]) (f_X8_isJoined p1 p2) := zM_of (own := RX8) (by decide) rfl (fun ad w hw => by simp only [List.mem_cons, List.not_mem_nil, or_false] at hw; (first | exact hw.elim | (rcases hw with rfl | rfl | rfl <;> rfl))) (fun ad => Nat.le_of_ble_eq_true rfl) (fun Γ ad hC σ => w_X8_isJoined hC p1 p2 σ)
set_option maxRecDepth 100000 in
set_option maxHeartbeats 4000000 in
theorem t_X8_goWalkers_L58 {Γ : zG} {ad : Nat → Nat} (hC : zX Γ layM nM ad cX8_goWalkers RX8 6 (zRm 2 45) none) (c1 : Int32) (c2 : Int32) (c3 : Int32) (a0 : Int32 × Int32 × zS) (K : Bool × (Int32 × Int32 × zS) → Option (Int32 × zS)) (hc : ∀ (x0 : Int32) (x1 : Int32) (s' : zS), zZ Γ layM nM ad 6 none 58 [some (.ref (ad 0)), some (.int c1), some (.int c2), some (.int c3), some (.int x0), some (.int x1)] [] s' (K (true, (x0, x1, s')))) (hx : ∀ (x0 : Int32) (x1 : Int32) (s' : zS), zZ Γ layM nM ad 6 none 120 [some (.ref (ad 0)), some (.int c1), some (.int c2), some (.int c3), some (.int x0), some (.int x1)] [] s' (K (false, (x0, x1, s')))) : zK Γ layM nM ad 6 none 58 [some (.ref (ad 0)), some (.int c1), some (.int c2), some (.int c3), some (.int a0.1), some (.int a0.2.1)] [] (a0.2.2) (b_X8_goWalkers_L58 c1 c2 c3 a0) K := by
  unfold b_X8_goWalkers_L58
  refine z_iload hC dX8_goWalkers_58 rfl ?_
  refine z_if_lt hC 120 dX8_goWalkers_60 (by decide) (fun h6 => ?_) (fun h6 => ?_)
  · exact z_leaf (hx a0.1 a0.2.1 a0.2.2)
  · refine z_iload_n hC dX8_goWalkers_63 rfl ?_
    refine z_iconst hC dX8_goWalkers_64 ki_m1 ?_
    refine z_icmp_eq hC 120 dX8_goWalkers_65 (by decide) (fun h7 => ?_) (fun h7 => ?_)
    · exact z_leaf (hx a0.1 a0.2.1 a0.2.2)
    · refine z_aload_n hC dX8_goWalkers_68 rfl ?_
      refine z_getr hC wf_X8_72 dX8_goWalkers_69 ltM_0 layM_0 rfl ?_
      refine z_iload_n hC dX8_goWalkers_72 rfl ?_
      refine z_iald hC dX8_goWalkers_73 ltM_20 layM_20 (fun h8 => ?_)
      refine z_if_le hC 110 dX8_goWalkers_74 (by decide) (fun h9 => ?_) (fun h9 => ?_)
      · refine z_iload hC dX8_goWalkers_110 rfl ?_
        refine z_istore hC dX8_goWalkers_112 (lv' := [some (.ref (ad 0)), some (.int c1), some (.int c2), some (.int c3), some (.int a0.1), some (.int a0.2.1)]) (by decide) rfl ?_
        refine z_iinc hC dX8_goWalkers_114 (lv' := [some (.ref (ad 0)), some (.int c1), some (.int c2), some (.int c3), some (.int a0.1), some (.int (a0.2.1 + (-1)))]) rfl (by decide) ki_m1 rfl ?_
        refine z_goto hC 58 dX8_goWalkers_117 (by decide) ?_
        exact z_leaf (hc a0.1 (a0.2.1 + (-1)) a0.2.2)
      · refine z_aload_n hC dX8_goWalkers_77 rfl ?_
        refine z_getr hC wf_X8_72 dX8_goWalkers_78 ltM_0 layM_0 rfl ?_
        refine z_iload hC dX8_goWalkers_81 rfl ?_
        refine z_iald hC dX8_goWalkers_83 ltM_20 layM_20 (fun h10 => ?_)
        refine z_aload_n hC dX8_goWalkers_84 rfl ?_
        refine z_getr hC wf_X8_72 dX8_goWalkers_85 ltM_0 layM_0 rfl ?_
        refine z_iload_n hC dX8_goWalkers_88 rfl ?_
        refine z_iald hC dX8_goWalkers_89 ltM_20 layM_20 (fun h11 => ?_)
        refine z_iconst hC dX8_goWalkers_90 ki_1 ?_
        refine z_isub hC dX8_goWalkers_91 ?_
        refine z_icmp_ne hC 110 dX8_goWalkers_92 (by decide) (fun h12 => ?_) (fun h12 => ?_)
        · refine z_iload hC dX8_goWalkers_110 rfl ?_
          refine z_istore hC dX8_goWalkers_112 (lv' := [some (.ref (ad 0)), some (.int c1), some (.int c2), some (.int c3), some (.int a0.1), some (.int a0.2.1)]) (by decide) rfl ?_
          refine z_iinc hC dX8_goWalkers_114 (lv' := [some (.ref (ad 0)), some (.int c1), some (.int c2), some (.int c3), some (.int a0.1), some (.int (a0.2.1 + (-1)))]) rfl (by decide) ki_m1 rfl ?_
          refine z_goto hC 58 dX8_goWalkers_117 (by decide) ?_
          exact z_leaf (hc a0.1 (a0.2.1 + (-1)) a0.2.2)
        · refine z_aload_n hC dX8_goWalkers_95 rfl ?_
          refine z_iload_n hC dX8_goWalkers_96 rfl ?_
          refine z_iload hC dX8_goWalkers_97 rfl ?_
          refine z_callVi hC [.int c3, .int a0.2.1] (c_X8_isJoined c3 a0.2.1) yy_X8_isJoined wl_X8_143 dX8_goWalkers_99 ltM_0 layM_0 vcz_X8 rfl rfl rfl (Nat.le_of_ble_eq_true rfl) (by decide) (fun r13 σ14 _ => ?_)
          refine z_if_eq hC 110 dX8_goWalkers_102 (by decide) (fun h15 => ?_) (fun h15 => ?_)
          · refine z_iload hC dX8_goWalkers_110 rfl ?_
            refine z_istore hC dX8_goWalkers_112 (lv' := [some (.ref (ad 0)), some (.int c1), some (.int c2), some (.int c3), some (.int a0.1), some (.int a0.2.1)]) (by decide) rfl ?_
            refine z_iinc hC dX8_goWalkers_114 (lv' := [some (.ref (ad 0)), some (.int c1), some (.int c2), some (.int c3), some (.int a0.1), some (.int (a0.2.1 + (-1)))]) rfl (by decide) ki_m1 rfl ?_
            refine z_goto hC 58 dX8_goWalkers_117 (by decide) ?_
            exact z_leaf (hc a0.1 (a0.2.1 + (-1)) σ14)
          · refine z_iload hC dX8_goWalkers_105 rfl ?_
            refine z_goto hC 112 dX8_goWalkers_107 (by decide) ?_
            refine z_istore hC dX8_goWalkers_112 (lv' := [some (.ref (ad 0)), some (.int c1), some (.int c2), some (.int c3), some (.int a0.2.1), some (.int a0.2.1)]) (by decide) rfl ?_
            refine z_iinc hC dX8_goWalkers_114 (lv' := [some (.ref (ad 0)), some (.int c1), some (.int c2), some (.int c3), some (.int a0.2.1), some (.int (a0.2.1 + (-1)))]) rfl (by decide) ki_m1 rfl ?_
            refine z_goto hC 58 dX8_goWalkers_117 (by decide) ?_
            exact z_leaf (hc a0.2.1 (a0.2.1 + (-1)) σ14)
set_option maxRecDepth 100000 in
set_option maxHeartbeats 4000000 in
theorem q_X8_goWalkers_J120 {Γ : zG} {ad : Nat → Nat} (hC : zX Γ layM nM ad cX8_goWalkers RX8 6 (zRm 2 45) none) (v1 : Int32) (v2 : Int32) (v3 : Int32) (v4 : Int32) (v5 : Int32) (σ : zS) (K : Bool × (Int32 × zS) → Option (Int32 × zS)) (hc : ∀ (x0 : Int32) (s' : zS), zZ Γ layM nM ad 6 none 2 [some (.ref (ad 0)), some (.int x0), none, none, none, none] [] s' (K (true, (x0, s')))) (hx : ∀ (x0 : Int32) (s' : zS), zZ Γ layM nM ad 6 none 169 [some (.ref (ad 0)), some (.int x0), none, none, none, none] [] s' (K (false, (x0, s')))) : zK Γ layM nM ad 6 none 120 [some (.ref (ad 0)), some (.int v1), some (.int v2), some (.int v3), some (.int v4), some (.int v5)] [] σ (j_X8_goWalkers_J120 v1 v2 v3 v4 v5 σ) K := by
  unfold j_X8_goWalkers_J120
  refine z_iload hC dX8_goWalkers_120 rfl ?_
  refine z_iconst hC dX8_goWalkers_122 ki_m1 ?_
  refine z_icmp_eq hC 163 dX8_goWalkers_123 (by decide) (fun h17 => ?_) (fun h17 => ?_)
  · refine z_iinc hC dX8_goWalkers_163 (lv' := [some (.ref (ad 0)), some (.int (v1 + 1)), some (.int v2), some (.int v3), some (.int v4), some (.int v5)]) rfl (by decide) ki_1 rfl ?_
    refine z_goto hC 2 dX8_goWalkers_166 (by decide) ?_
    refine z_forget [2, 3, 4, 5] (lv' := [some (.ref (ad 0)), some (.int (v1 + 1)), none, none, none, none]) rfl ?_
    exact z_leaf (hc (v1 + 1) σ)
  · refine z_aload_n hC dX8_goWalkers_126 rfl ?_
    refine z_getr hC wf_X8_7 dX8_goWalkers_127 ltM_0 layM_0 rfl ?_
    refine z_bipush hC dX8_goWalkers_130 kb_27 ?_
    refine z_iload_n hC dX8_goWalkers_132 rfl ?_
    refine z_iadd hC dX8_goWalkers_133 ?_
    refine z_iload hC dX8_goWalkers_134 rfl ?_
    refine z_iast hC dX8_goWalkers_136 ltM_1 layM_1 (fun h18 => ?_)
    refine z_let (fun σ19 _ => ?_)
    refine z_aload_n hC dX8_goWalkers_137 rfl ?_
    refine z_getr hC wf_X8_7 dX8_goWalkers_138 ltM_0 layM_0 rfl ?_
    refine z_bipush hC dX8_goWalkers_141 kb_31 ?_
    refine z_iload_n hC dX8_goWalkers_143 rfl ?_
    refine z_iadd hC dX8_goWalkers_144 ?_
    refine z_iload hC dX8_goWalkers_145 rfl ?_
    refine z_iload_n hC dX8_goWalkers_147 rfl ?_
    refine z_icmp_ne hC 155 dX8_goWalkers_148 (by decide) (fun h20 => ?_) (fun h20 => ?_)
    · refine z_iload_n hC dX8_goWalkers_155 rfl ?_
      refine z_iast hC dX8_goWalkers_156 ltM_1 layM_1 (fun h21 => ?_)
      refine z_let (fun σ22 _ => ?_)
      refine z_aload_n hC dX8_goWalkers_157 rfl ?_
      refine z_iconst hC dX8_goWalkers_158 ki_3 ?_
      refine z_iload_n hC dX8_goWalkers_159 rfl ?_
      refine z_callVv hC [.int 3, .int v1] (c_X8_tell 3 v1) yy_X8_tell wl_X8_133 dX8_goWalkers_160 ltM_0 layM_0 vcz_X8 rfl rfl rfl (Nat.le_of_ble_eq_true rfl) (by decide) (fun r23 σ24 _ => ?_)
      refine z_iinc hC dX8_goWalkers_163 (lv' := [some (.ref (ad 0)), some (.int (v1 + 1)), some (.int v2), some (.int v3), some (.int v4), some (.int v5)]) rfl (by decide) ki_1 rfl ?_
      refine z_goto hC 2 dX8_goWalkers_166 (by decide) ?_
      refine z_forget [2, 3, 4, 5] (lv' := [some (.ref (ad 0)), some (.int (v1 + 1)), none, none, none, none]) rfl ?_
      exact z_leaf (hc (v1 + 1) σ24)
    · refine z_iconst hC dX8_goWalkers_151 ki_m1 ?_
      refine z_goto hC 156 dX8_goWalkers_152 (by decide) ?_
      refine z_iast hC dX8_goWalkers_156 ltM_1 layM_1 (fun h25 => ?_)
      refine z_let (fun σ26 _ => ?_)
      refine z_aload_n hC dX8_goWalkers_157 rfl ?_
      refine z_iconst hC dX8_goWalkers_158 ki_3 ?_
      refine z_iload_n hC dX8_goWalkers_159 rfl ?_
      refine z_callVv hC [.int 3, .int v1] (c_X8_tell 3 v1) yy_X8_tell wl_X8_133 dX8_goWalkers_160 ltM_0 layM_0 vcz_X8 rfl rfl rfl (Nat.le_of_ble_eq_true rfl) (by decide) (fun r27 σ28 _ => ?_)
      refine z_iinc hC dX8_goWalkers_163 (lv' := [some (.ref (ad 0)), some (.int (v1 + 1)), some (.int v2), some (.int v3), some (.int v4), some (.int v5)]) rfl (by decide) ki_1 rfl ?_
      refine z_goto hC 2 dX8_goWalkers_166 (by decide) ?_
      refine z_forget [2, 3, 4, 5] (lv' := [some (.ref (ad 0)), some (.int (v1 + 1)), none, none, none, none]) rfl ?_
      exact z_leaf (hc (v1 + 1) σ28)
set_option maxRecDepth 100000 in
set_option maxHeartbeats 4000000 in
theorem q_X8_goWalkers_J50 {Γ : zG} {ad : Nat → Nat} (hC : zX Γ layM nM ad cX8_goWalkers RX8 6 (zRm 2 45) none) (v1 : Int32) (v2 : Int32) (v3 : Int32) (v4 : Int32) (σ : zS) (K : Bool × (Int32 × zS) → Option (Int32 × zS)) (hc : ∀ (x0 : Int32) (s' : zS), zZ Γ layM nM ad 6 none 2 [some (.ref (ad 0)), some (.int x0), none, none, none, none] [] s' (K (true, (x0, s')))) (hx : ∀ (x0 : Int32) (s' : zS), zZ Γ layM nM ad 6 none 169 [some (.ref (ad 0)), some (.int x0), none, none, none, none] [] s' (K (false, (x0, s')))) : zK Γ layM nM ad 6 none 50 [some (.ref (ad 0)), some (.int v1), some (.int v2), some (.int v3), some (.int v4), none] [] σ (j_X8_goWalkers_J50 v1 v2 v3 v4 σ) K := by
  unfold j_X8_goWalkers_J50
  refine z_aload_n hC dX8_goWalkers_50 rfl ?_
  refine z_geti hC wf_X8_82 dX8_goWalkers_51 ltM_0 layM_0 rfl ?_
  refine z_iconst hC dX8_goWalkers_54 ki_1 ?_
  refine z_isub hC dX8_goWalkers_55 ?_
  refine z_istore hC dX8_goWalkers_56 (lv' := [some (.ref (ad 0)), some (.int v1), some (.int v2), some (.int v3), some (.int v4), some (.int ((σ 0 4) - 1))]) (by decide) rfl ?_
  refine z_lpb (lvf := fun z : Int32 × Int32 × zS => [some (.ref (ad 0)), some (.int v1), some (.int v2), some (.int v3), some (.int z.1), some (.int z.2.1)]) (sg := fun z => z.2.2) (x := 120) zfuel (v4, (σ 0 4) - 1, σ) rfl rfl (fun z K hc hx => t_X8_goWalkers_L58 hC v1 v2 v3 z K (fun x0 x1 s' => hc (x0, x1, s')) (fun x0 x1 s' => hx (x0, x1, s'))) (fun a16 => ?_)
  exact q_X8_goWalkers_J120 hC v1 v2 v3 a16.1 a16.2.1 a16.2.2 K hc hx
set_option maxRecDepth 100000 in
set_option maxHeartbeats 4000000 in
theorem t_X8_goWalkers_L2 {Γ : zG} {ad : Nat → Nat} (hC : zX Γ layM nM ad cX8_goWalkers RX8 6 (zRm 2 45) none) (a0 : Int32 × zS) (K : Bool × (Int32 × zS) → Option (Int32 × zS)) (hc : ∀ (x0 : Int32) (s' : zS), zZ Γ layM nM ad 6 none 2 [some (.ref (ad 0)), some (.int x0), none, none, none, none] [] s' (K (true, (x0, s')))) (hx : ∀ (x0 : Int32) (s' : zS), zZ Γ layM nM ad 6 none 169 [some (.ref (ad 0)), some (.int x0), none, none, none, none] [] s' (K (false, (x0, s')))) : zK Γ layM nM ad 6 none 2 [some (.ref (ad 0)), some (.int a0.1), none, none, none, none] [] (a0.2) (b_X8_goWalkers_L2 a0) K := by
  unfold b_X8_goWalkers_L2
  refine z_iload_n hC dX8_goWalkers_2 rfl ?_
  refine z_aload_n hC dX8_goWalkers_3 rfl ?_
  refine z_geti hC wf_X8_96 dX8_goWalkers_4 ltM_0 layM_0 rfl ?_
  refine z_icmp_ge hC 169 dX8_goWalkers_7 (by decide) (fun h1 => ?_) (fun h1 => ?_)
  · exact z_leaf (hx a0.1 a0.2)
  · refine z_aload_n hC dX8_goWalkers_10 rfl ?_
    refine z_geti hC wf_X8_123 dX8_goWalkers_11 ltM_0 layM_0 rfl ?_
    refine z_if_ne hC 169 dX8_goWalkers_14 (by decide) (fun h2 => ?_) (fun h2 => ?_)
    · exact z_leaf (hx a0.1 a0.2)
    · refine z_aload_n hC dX8_goWalkers_17 rfl ?_
      refine z_getr hC wf_X8_7 dX8_goWalkers_18 ltM_0 layM_0 rfl ?_
      refine z_bipush hC dX8_goWalkers_21 kb_31 ?_
      refine z_iload_n hC dX8_goWalkers_23 rfl ?_
      refine z_iadd hC dX8_goWalkers_24 ?_
      refine z_iald hC dX8_goWalkers_25 ltM_1 layM_1 (fun h3 => ?_)
      refine z_istore_n hC dX8_goWalkers_26 (lv' := [some (.ref (ad 0)), some (.int a0.1), some (.int (a0.2 1 (31 + a0.1).toNatClampNeg)), none, none, none]) (by decide) rfl ?_
      refine z_aload_n hC dX8_goWalkers_27 rfl ?_
      refine z_getr hC wf_X8_7 dX8_goWalkers_28 ltM_0 layM_0 rfl ?_
      refine z_bipush hC dX8_goWalkers_31 kb_27 ?_
      refine z_iload_n hC dX8_goWalkers_33 rfl ?_
      refine z_iadd hC dX8_goWalkers_34 ?_
      refine z_iald hC dX8_goWalkers_35 ltM_1 layM_1 (fun h4 => ?_)
      refine z_istore_n hC dX8_goWalkers_36 (lv' := [some (.ref (ad 0)), some (.int a0.1), some (.int (a0.2 1 (31 + a0.1).toNatClampNeg)), some (.int (a0.2 1 (27 + a0.1).toNatClampNeg)), none, none]) (by decide) rfl ?_
      refine z_iconst hC dX8_goWalkers_37 ki_m1 ?_
      refine z_istore hC dX8_goWalkers_38 (lv' := [some (.ref (ad 0)), some (.int a0.1), some (.int (a0.2 1 (31 + a0.1).toNatClampNeg)), some (.int (a0.2 1 (27 + a0.1).toNatClampNeg)), some (.int (-1)), none]) (by decide) rfl ?_
      refine z_iload_n hC dX8_goWalkers_40 rfl ?_
      refine z_iconst hC dX8_goWalkers_41 ki_m1 ?_
      refine z_icmp_eq hC 50 dX8_goWalkers_42 (by decide) (fun h5 => ?_) (fun h5 => ?_)
      · exact q_X8_goWalkers_J50 hC a0.1 (a0.2 1 (31 + a0.1).toNatClampNeg) (a0.2 1 (27 + a0.1).toNatClampNeg) (-1) a0.2 K hc hx
      · refine z_aload_n hC dX8_goWalkers_45 rfl ?_
        refine z_iload_n hC dX8_goWalkers_46 rfl ?_
        refine z_callVv hC [.int (a0.2 1 (31 + a0.1).toNatClampNeg)] (c_X8_findWays (a0.2 1 (31 + a0.1).toNatClampNeg)) yy_X8_findWays wl_X8_140 dX8_goWalkers_47 ltM_0 layM_0 vcz_X8 rfl rfl rfl (Nat.le_of_ble_eq_true rfl) (by decide) (fun r29 σ30 _ => ?_)
        exact q_X8_goWalkers_J50 hC a0.1 (a0.2 1 (31 + a0.1).toNatClampNeg) (a0.2 1 (27 + a0.1).toNatClampNeg) (-1) σ30 K hc hx
set_option maxRecDepth 100000 in
set_option maxHeartbeats 4000000 in
theorem w_X8_goWalkers {Γ : zG} {ad : Nat → Nat} (hC : zX Γ layM nM ad cX8_goWalkers RX8 6 (zRm 2 45) none) (σ : zS) : zK Γ layM nM ad 6 none 0 [some (.ref (ad 0)), none, none, none, none, none] [] σ (f_X8_goWalkers σ) some := by
  unfold f_X8_goWalkers
  refine z_iconst hC dX8_goWalkers_0 ki_0 ?_
  refine z_istore_n hC dX8_goWalkers_1 (lv' := [some (.ref (ad 0)), some (.int 0), none, none, none, none]) (by decide) rfl ?_
  refine z_lpb (lvf := fun z : Int32 × zS => [some (.ref (ad 0)), some (.int z.1), none, none, none, none]) (sg := fun z => z.2) (x := 169) zfuel (0, σ) rfl rfl (fun z K hc hx => t_X8_goWalkers_L2 hC z K (fun x0 s' => hc (x0, s')) (fun x0 s' => hx (x0, s'))) (fun a31 => ?_)
  exact z_vret hC dX8_goWalkers_169
theorem c_X8_goWalkers : zM layM nM yX8_goWalkers cX8_goWalkers 6 none (zRm 2 45) (fun ad => [.ref (ad 0)]) (f_X8_goWalkers) := zM_of (own := RX8) (by decide) rfl (fun ad w hw => by simp only [List.mem_cons, List.not_mem_nil, or_false] at hw; (first | exact hw.elim | (rcases hw with rfl <;> rfl))) (fun ad => Nat.le_of_ble_eq_true rfl) (fun Γ ad hC σ => w_X8_goWalkers hC σ)
set_option maxRecDepth 100000 in
set_option maxHeartbeats 4000000 in
theorem q_X8_is_J40 {Γ : zG} {ad : Nat → Nat} (hC : zX Γ layM nM ad cX8_is RX8 3 (zRm 2 43) (some .int)) (v1 : Int32) (v2 : Int32) (s0 : Int32) (s1 : Int32) (σ : zS) : zK Γ layM nM ad 3 (some .int) 40 [some (.ref (ad 0)), some (.int v1), some (.int v2)] [.int s0, .int s1] σ (j_X8_is_J40 v1 v2 s0 s1 σ) some := by
  unfold j_X8_is_J40
  refine z_callSi hC [.int s1, .int s0] (c_X8_isOf s1 s0) yy_X8_isOf wl_X8_89 dX8_is_40 rfl rfl rfl (Nat.le_of_ble_eq_true rfl) (by decide) (fun r6 σ7 _ => ?_)
  refine z_if_ne hC 49 dX8_is_43 (by decide) (fun h8 => ?_) (fun h8 => ?_)
  · refine z_iload_n hC dX8_is_49 rfl ?_
    refine z_if_ne hC 65 dX8_is_50 (by decide) (fun h9 => ?_) (fun h9 => ?_)
    · refine z_iload_n hC dX8_is_65 rfl ?_
      refine z_iconst hC dX8_is_66 ki_1 ?_
      refine z_icmp_ne hC 82 dX8_is_67 (by decide) (fun h10 => ?_) (fun h10 => ?_)
      · refine z_iconst hC dX8_is_82 ki_1 ?_
        refine z_aload_n hC dX8_is_83 rfl ?_
        refine z_getr hC wf_X8_7 dX8_is_84 ltM_0 layM_0 rfl ?_
        refine z_bipush hC dX8_is_87 kb_35 ?_
        refine z_iload_n hC dX8_is_89 rfl ?_
        refine z_iadd hC dX8_is_90 ?_
        refine z_iald hC dX8_is_91 ltM_1 layM_1 (fun h11 => ?_)
        refine z_isub hC dX8_is_92 ?_
        exact z_iret hC dX8_is_93
      · refine z_aload_n hC dX8_is_70 rfl ?_
        refine z_getr hC wf_X8_7 dX8_is_71 ltM_0 layM_0 rfl ?_
        refine z_bipush hC dX8_is_74 kb_12 ?_
        refine z_iload_n hC dX8_is_76 rfl ?_
        refine z_iadd hC dX8_is_77 ?_
        refine z_iald hC dX8_is_78 ltM_1 layM_1 (fun h12 => ?_)
        refine z_goto hC 93 dX8_is_79 (by decide) ?_
        exact z_iret hC dX8_is_93
    · refine z_aload_n hC dX8_is_53 rfl ?_
      refine z_getr hC wf_X8_7 dX8_is_54 ltM_0 layM_0 rfl ?_
      refine z_bipush hC dX8_is_57 kb_59 ?_
      refine z_iload_n hC dX8_is_59 rfl ?_
      refine z_iadd hC dX8_is_60 ?_
      refine z_iald hC dX8_is_61 ltM_1 layM_1 (fun h13 => ?_)
      refine z_goto hC 93 dX8_is_62 (by decide) ?_
      exact z_iret hC dX8_is_93
  · refine z_bipush hC dX8_is_46 kb_m2 ?_
    exact z_iret hC dX8_is_48
set_option maxRecDepth 100000 in
set_option maxHeartbeats 4000000 in
theorem w_X8_is {Γ : zG} {ad : Nat → Nat} (hC : zX Γ layM nM ad cX8_is RX8 3 (zRm 2 43) (some .int)) (p1 : Int32) (p2 : Int32) (σ : zS) : zK Γ layM nM ad 3 (some .int) 0 [some (.ref (ad 0)), some (.int p1), some (.int p2)] [] σ (f_X8_is p1 p2 σ) some := by
  unfold f_X8_is
  refine z_iload_n hC dX8_is_0 rfl ?_
  refine z_iconst hC dX8_is_1 ki_0 ?_
  refine z_iconst hC dX8_is_2 ki_2 ?_
  refine z_callSi hC [.int p1, .int 0, .int 2] (c_X8_in p1 0 2) yy_X8_in wl_X8_78 dX8_is_3 rfl rfl rfl (Nat.le_of_ble_eq_true rfl) (by decide) (fun r1 σ2 _ => ?_)
  refine z_if_ne hC 12 dX8_is_6 (by decide) (fun h3 => ?_) (fun h3 => ?_)
  · refine z_iload_n hC dX8_is_12 rfl ?_
    refine z_iload_n hC dX8_is_13 rfl ?_
    refine z_if_ne hC 24 dX8_is_14 (by decide) (fun h4 => ?_) (fun h4 => ?_)
    · refine z_iload_n hC dX8_is_24 rfl ?_
      refine z_iconst hC dX8_is_25 ki_1 ?_
      refine z_icmp_ne hC 36 dX8_is_26 (by decide) (fun h5 => ?_) (fun h5 => ?_)
      · refine z_aload_n hC dX8_is_36 rfl ?_
        refine z_geti hC wf_X8_102 dX8_is_37 ltM_0 layM_0 rfl ?_
        exact q_X8_is_J40 hC p1 p2 (σ2 0 15) p2 σ2
      · refine z_aload_n hC dX8_is_29 rfl ?_
        refine z_geti hC wf_X8_93 dX8_is_30 ltM_0 layM_0 rfl ?_
        refine z_goto hC 40 dX8_is_33 (by decide) ?_
        exact q_X8_is_J40 hC p1 p2 (σ2 0 5) p2 σ2
    · refine z_aload_n hC dX8_is_17 rfl ?_
      refine z_geti hC wf_X8_108 dX8_is_18 ltM_0 layM_0 rfl ?_
      refine z_goto hC 40 dX8_is_21 (by decide) ?_
      exact q_X8_is_J40 hC p1 p2 (σ2 0 23) p2 σ2
  · refine z_bipush hC dX8_is_9 kb_m3 ?_
    exact z_iret hC dX8_is_11
theorem c_X8_is (p1 : Int32) (p2 : Int32) : zM layM nM yX8_is cX8_is 3 (some .int) (zRm 2 43) (fun ad => [.ref (ad 0), .int p1, .int p2]) (f_X8_is p1 p2) := zM_of (own := RX8) (by decide) rfl (fun ad w hw => by simp only [List.mem_cons, List.not_mem_nil, or_false] at hw; (first | exact hw.elim | (rcases hw with rfl | rfl | rfl <;> rfl))) (fun ad => Nat.le_of_ble_eq_true rfl) (fun Γ ad hC σ => w_X8_is hC p1 p2 σ)
set_option maxRecDepth 100000 in
set_option maxHeartbeats 4000000 in
theorem w_X8_left {Γ : zG} {ad : Nat → Nat} (hC : zX Γ layM nM ad cX8_left RX8 2 (zRm 2 43) (some .int)) (p1 : Int32) (σ : zS) : zK Γ layM nM ad 2 (some .int) 0 [some (.ref (ad 0)), some (.int p1)] [] σ (f_X8_left p1 σ) some := by
  unfold f_X8_left
  refine z_iload_n hC dX8_left_0 rfl ?_
  refine z_aload_n hC dX8_left_1 rfl ?_
  refine z_geti hC wf_X8_105 dX8_left_2 ltM_0 layM_0 rfl ?_
  refine z_callSi hC [.int p1, .int (σ 0 19)] (c_X8_isOf p1 (σ 0 19)) yy_X8_isOf wl_X8_89 dX8_left_5 rfl rfl rfl (Nat.le_of_ble_eq_true rfl) (by decide) (fun r1 σ2 _ => ?_)
  refine z_if_eq hC 23 dX8_left_8 (by decide) (fun h3 => ?_) (fun h3 => ?_)
  · refine z_bipush hC dX8_left_23 kb_m2 ?_
    exact z_iret hC dX8_left_25
  · refine z_aload_n hC dX8_left_11 rfl ?_
    refine z_getr hC wf_X8_7 dX8_left_12 ltM_0 layM_0 rfl ?_
    refine z_bipush hC dX8_left_15 kb_47 ?_
    refine z_iload_n hC dX8_left_17 rfl ?_
    refine z_iadd hC dX8_left_18 ?_
    refine z_iald hC dX8_left_19 ltM_1 layM_1 (fun h4 => ?_)
    refine z_goto hC 25 dX8_left_20 (by decide) ?_
    exact z_iret hC dX8_left_25
theorem c_X8_left (p1 : Int32) : zM layM nM yX8_left cX8_left 2 (some .int) (zRm 2 43) (fun ad => [.ref (ad 0), .int p1]) (f_X8_left p1) := zM_of (own := RX8) (by decide) rfl (fun ad w hw => by simp only [List.mem_cons, List.not_mem_nil, or_false] at hw; (first | exact hw.elim | (rcases hw with rfl | rfl <;> rfl))) (fun ad => Nat.le_of_ble_eq_true rfl) (fun Γ ad hC σ => w_X8_left hC p1 σ)
set_option maxRecDepth 100000 in
set_option maxHeartbeats 4000000 in
theorem w_X8_minutes {Γ : zG} {ad : Nat → Nat} (hC : zX Γ layM nM ad cX8_minutes RX8 3 (zRm 2 43) (some .int)) (p1 : Int32) (σ : zS) : zK Γ layM nM ad 3 (some .int) 0 [some (.ref (ad 0)), some (.int p1), none] [] σ (f_X8_minutes p1 σ) some := by
  unfold f_X8_minutes
  refine z_iload_n hC dX8_minutes_0 rfl ?_
  refine z_aload_n hC dX8_minutes_1 rfl ?_
  refine z_geti hC wf_X8_102 dX8_minutes_2 ltM_0 layM_0 rfl ?_
  refine z_callSi hC [.int p1, .int (σ 0 15)] (c_X8_isOf p1 (σ 0 15)) yy_X8_isOf wl_X8_89 dX8_minutes_5 rfl rfl rfl (Nat.le_of_ble_eq_true rfl) (by decide) (fun r1 σ2 _ => ?_)
  refine z_if_ne hC 14 dX8_minutes_8 (by decide) (fun h3 => ?_) (fun h3 => ?_)
  · refine z_aload_n hC dX8_minutes_14 rfl ?_
    refine z_getr hC wf_X8_44 dX8_minutes_15 ltM_0 layM_0 rfl ?_
    refine z_iload_n hC dX8_minutes_18 rfl ?_
    refine z_iald hC dX8_minutes_19 ltM_11 layM_11 (fun h4 => ?_)
    refine z_aload_n hC dX8_minutes_20 rfl ?_
    refine z_getr hC wf_X8_7 dX8_minutes_21 ltM_0 layM_0 rfl ?_
    refine z_iconst hC dX8_minutes_24 ki_0 ?_
    refine z_iald hC dX8_minutes_25 ltM_1 layM_1 (fun h5 => ?_)
    refine z_isub hC dX8_minutes_26 ?_
    refine z_sipush hC dX8_minutes_27 ks_1440 ?_
    refine z_iadd hC dX8_minutes_30 ?_
    refine z_sipush hC dX8_minutes_31 ks_1440 ?_
    refine z_irem hC dX8_minutes_34 (by decide) ?_
    refine z_istore_n hC dX8_minutes_35 (lv' := [some (.ref (ad 0)), some (.int p1), some (.int ((((σ2 11 p1.toNatClampNeg) - (σ2 1 (0 : Int32).toNatClampNeg)) + 1440) - (((σ2 11 p1.toNatClampNeg) - (σ2 1 (0 : Int32).toNatClampNeg)) + 1440) / 1440 * 1440))]) (by decide) rfl ?_
    refine z_aload_n hC dX8_minutes_36 rfl ?_
    refine z_getr hC wf_X8_7 dX8_minutes_37 ltM_0 layM_0 rfl ?_
    refine z_bipush hC dX8_minutes_40 kb_35 ?_
    refine z_iload_n hC dX8_minutes_42 rfl ?_
    refine z_iadd hC dX8_minutes_43 ?_
    refine z_iald hC dX8_minutes_44 ltM_1 layM_1 (fun h6 => ?_)
    refine z_iconst hC dX8_minutes_45 ki_1 ?_
    refine z_icmp_ne hC 53 dX8_minutes_46 (by decide) (fun h7 => ?_) (fun h7 => ?_)
    · refine z_iload_n hC dX8_minutes_53 rfl ?_
      refine z_if_ne hC 63 dX8_minutes_54 (by decide) (fun h8 => ?_) (fun h8 => ?_)
      · refine z_iload_n hC dX8_minutes_63 rfl ?_
        exact z_iret hC dX8_minutes_64
      · refine z_sipush hC dX8_minutes_57 ks_1440 ?_
        refine z_goto hC 64 dX8_minutes_60 (by decide) ?_
        exact z_iret hC dX8_minutes_64
    · refine z_iconst hC dX8_minutes_49 ki_m1 ?_
      refine z_goto hC 64 dX8_minutes_50 (by decide) ?_
      exact z_iret hC dX8_minutes_64
  · refine z_bipush hC dX8_minutes_11 kb_m2 ?_
    exact z_iret hC dX8_minutes_13
theorem c_X8_minutes (p1 : Int32) : zM layM nM yX8_minutes cX8_minutes 3 (some .int) (zRm 2 43) (fun ad => [.ref (ad 0), .int p1]) (f_X8_minutes p1) := zM_of (own := RX8) (by decide) rfl (fun ad w hw => by simp only [List.mem_cons, List.not_mem_nil, or_false] at hw; (first | exact hw.elim | (rcases hw with rfl | rfl <;> rfl))) (fun ad => Nat.le_of_ble_eq_true rfl) (fun Γ ad hC σ => w_X8_minutes hC p1 σ)
set_option maxRecDepth 100000 in
set_option maxHeartbeats 4000000 in
theorem w_X8_pace {Γ : zG} {ad : Nat → Nat} (hC : zX Γ layM nM ad cX8_pace RX8 3 (zRm 1 22) (some .int)) (p1 : Int32) (σ : zS) : zK Γ layM nM ad 3 (some .int) 0 [some (.ref (ad 0)), some (.int p1), none] [] σ (f_X8_pace p1 σ) some := by
  unfold f_X8_pace
  refine z_iload_n hC dX8_pace_0 rfl ?_
  refine z_iconst hC dX8_pace_1 ki_1 ?_
  refine z_bipush hC dX8_pace_2 kb_60 ?_
  refine z_callSi hC [.int p1, .int 1, .int 60] (c_X8_in p1 1 60) yy_X8_in wl_X8_78 dX8_pace_4 rfl rfl rfl (Nat.le_of_ble_eq_true rfl) (by decide) (fun r1 σ2 _ => ?_)
  refine z_if_ne hC 13 dX8_pace_7 (by decide) (fun h3 => ?_) (fun h3 => ?_)
  · refine z_aload_n hC dX8_pace_13 rfl ?_
    refine z_geti hC wf_X8_16 dX8_pace_14 ltM_0 layM_0 rfl ?_
    refine z_istore_n hC dX8_pace_17 (lv' := [some (.ref (ad 0)), some (.int p1), some (.int (σ2 0 3))]) (by decide) rfl ?_
    refine z_aload_n hC dX8_pace_18 rfl ?_
    refine z_iload_n hC dX8_pace_19 rfl ?_
    refine z_puti hC wp_X8_16 dX8_pace_20 ltM_0 layM_0 rfl ?_
    refine z_let (fun σ4 _ => ?_)
    refine z_aload_n hC dX8_pace_23 rfl ?_
    refine z_iload_n hC dX8_pace_24 rfl ?_
    refine z_callVi hC [.int (σ2 0 3)] (c_X8_changed (σ2 0 3)) yy_X8_changed wl_X8_85 dX8_pace_25 ltM_0 layM_0 vcz_X8 rfl rfl rfl (Nat.le_of_ble_eq_true rfl) (by decide) (fun r5 σ6 _ => ?_)
    exact z_iret hC dX8_pace_28
  · refine z_bipush hC dX8_pace_10 kb_m3 ?_
    exact z_iret hC dX8_pace_12
theorem c_X8_pace (p1 : Int32) : zM layM nM yX8_pace cX8_pace 3 (some .int) (zRm 1 22) (fun ad => [.ref (ad 0), .int p1]) (f_X8_pace p1) := zM_of (own := RX8) (by decide) rfl (fun ad w hw => by simp only [List.mem_cons, List.not_mem_nil, or_false] at hw; (first | exact hw.elim | (rcases hw with rfl | rfl <;> rfl))) (fun ad => Nat.le_of_ble_eq_true rfl) (fun Γ ad hC σ => w_X8_pace hC p1 σ)
set_option maxRecDepth 100000 in
set_option maxHeartbeats 4000000 in
theorem w_X8_room {Γ : zG} {ad : Nat → Nat} (hC : zX Γ layM nM ad cX8_room RX8 1 (zRm 1 21) (some .int)) (σ : zS) : zK Γ layM nM ad 1 (some .int) 0 [some (.ref (ad 0))] [] σ (f_X8_room σ) some := by
  unfold f_X8_room
  refine z_aload_n hC dX8_room_0 rfl ?_
  refine z_geti hC wf_X8_82 dX8_room_1 ltM_0 layM_0 rfl ?_
  refine z_bipush hC dX8_room_4 kb_10 ?_
  refine z_icmp_ne hC 12 dX8_room_6 (by decide) (fun h1 => ?_) (fun h1 => ?_)
  · refine z_aload_n hC dX8_room_12 rfl ?_
    refine z_dup hC dX8_room_13 rfl ?_
    refine z_geti hC wf_X8_82 dX8_room_14 ltM_0 layM_0 rfl ?_
    refine z_iconst hC dX8_room_17 ki_1 ?_
    refine z_iadd hC dX8_room_18 ?_
    refine z_puti hC wp_X8_82 dX8_room_19 ltM_0 layM_0 rfl ?_
    refine z_let (fun σ2 _ => ?_)
    refine z_aload_n hC dX8_room_22 rfl ?_
    refine z_aload_n hC dX8_room_23 rfl ?_
    refine z_geti hC wf_X8_82 dX8_room_24 ltM_0 layM_0 rfl ?_
    refine z_iconst hC dX8_room_27 ki_1 ?_
    refine z_isub hC dX8_room_28 ?_
    refine z_callVi hC [.int ((σ2 0 4) - 1)] (c_X8_changed ((σ2 0 4) - 1)) yy_X8_changed wl_X8_85 dX8_room_29 ltM_0 layM_0 vcz_X8 rfl rfl rfl (Nat.le_of_ble_eq_true rfl) (by decide) (fun r3 σ4 _ => ?_)
    exact z_iret hC dX8_room_32
  · refine z_bipush hC dX8_room_9 kb_m5 ?_
    exact z_iret hC dX8_room_11
theorem c_X8_room : zM layM nM yX8_room cX8_room 1 (some .int) (zRm 1 21) (fun ad => [.ref (ad 0)]) (f_X8_room) := zM_of (own := RX8) (by decide) rfl (fun ad w hw => by simp only [List.mem_cons, List.not_mem_nil, or_false] at hw; (first | exact hw.elim | (rcases hw with rfl <;> rfl))) (fun ad => Nat.le_of_ble_eq_true rfl) (fun Γ ad hC σ => w_X8_room hC σ)
set_option maxRecDepth 100000 in
set_option maxHeartbeats 4000000 in
theorem w_X8_row {Γ : zG} {ad : Nat → Nat} (hC : zX Γ layM nM ad cX8_row RX8 3 (zRm 2 43) (some .int)) (p1 : Int32) (p2 : Int32) (σ : zS) : zK Γ layM nM ad 3 (some .int) 0 [some (.ref (ad 0)), some (.int p1), some (.int p2)] [] σ (f_X8_row p1 p2 σ) some := by
  unfold f_X8_row
  refine z_iload_n hC dX8_row_0 rfl ?_
  refine z_iconst hC dX8_row_1 ki_0 ?_
  refine z_iconst hC dX8_row_2 ki_1 ?_
  refine z_callSi hC [.int p2, .int 0, .int 1] (c_X8_in p2 0 1) yy_X8_in wl_X8_78 dX8_row_3 rfl rfl rfl (Nat.le_of_ble_eq_true rfl) (by decide) (fun r1 σ2 _ => ?_)
  refine z_if_ne hC 12 dX8_row_6 (by decide) (fun h3 => ?_) (fun h3 => ?_)
  · refine z_iload_n hC dX8_row_12 rfl ?_
    refine z_aload_n hC dX8_row_13 rfl ?_
    refine z_getr hC wf_X8_7 dX8_row_14 ltM_0 layM_0 rfl ?_
    refine z_bipush hC dX8_row_17 kb_71 ?_
    refine z_iald hC dX8_row_19 ltM_1 layM_1 (fun h4 => ?_)
    refine z_callSi hC [.int p1, .int (σ2 1 (71 : Int32).toNatClampNeg)] (c_X8_isOf p1 (σ2 1 (71 : Int32).toNatClampNeg)) yy_X8_isOf wl_X8_89 dX8_row_20 rfl rfl rfl (Nat.le_of_ble_eq_true rfl) (by decide) (fun r5 σ6 _ => ?_)
    refine z_if_eq hC 42 dX8_row_23 (by decide) (fun h7 => ?_) (fun h7 => ?_)
    · refine z_iconst hC dX8_row_42 ki_m1 ?_
      exact z_iret hC dX8_row_43
    · refine z_aload_n hC dX8_row_26 rfl ?_
      refine z_getr hC wf_X8_7 dX8_row_27 ltM_0 layM_0 rfl ?_
      refine z_bipush hC dX8_row_30 kb_72 ?_
      refine z_iconst hC dX8_row_32 ki_2 ?_
      refine z_iload_n hC dX8_row_33 rfl ?_
      refine z_imul hC dX8_row_34 ?_
      refine z_iadd hC dX8_row_35 ?_
      refine z_iload_n hC dX8_row_36 rfl ?_
      refine z_iadd hC dX8_row_37 ?_
      refine z_iald hC dX8_row_38 ltM_1 layM_1 (fun h8 => ?_)
      refine z_goto hC 43 dX8_row_39 (by decide) ?_
      exact z_iret hC dX8_row_43
  · refine z_bipush hC dX8_row_9 kb_m3 ?_
    exact z_iret hC dX8_row_11
theorem c_X8_row (p1 : Int32) (p2 : Int32) : zM layM nM yX8_row cX8_row 3 (some .int) (zRm 2 43) (fun ad => [.ref (ad 0), .int p1, .int p2]) (f_X8_row p1 p2) := zM_of (own := RX8) (by decide) rfl (fun ad w hw => by simp only [List.mem_cons, List.not_mem_nil, or_false] at hw; (first | exact hw.elim | (rcases hw with rfl | rfl | rfl <;> rfl))) (fun ad => Nat.le_of_ble_eq_true rfl) (fun Γ ad hC σ => w_X8_row hC p1 p2 σ)
end
section
set_option maxRecDepth 100000 in
set_option maxHeartbeats 4000000 in
theorem w_X8_timer {Γ : zG} {ad : Nat → Nat} (hC : zX Γ layM nM ad cX8_timer RX8 4 (zRm 2 43) (some .int)) (p1 : Int32) (p2 : Int32) (p3 : Int32) (σ : zS) : zK Γ layM nM ad 4 (some .int) 0 [some (.ref (ad 0)), some (.int p1), some (.int p2), some (.int p3)] [] σ (f_X8_timer p1 p2 p3 σ) some := by
  unfold f_X8_timer
  refine z_iload_n hC dX8_timer_0 rfl ?_
  refine z_aload_n hC dX8_timer_1 rfl ?_
  refine z_geti hC wf_X8_99 dX8_timer_2 ltM_0 layM_0 rfl ?_
  refine z_callSi hC [.int p1, .int (σ 0 9)] (c_X8_isOf p1 (σ 0 9)) yy_X8_isOf wl_X8_89 dX8_timer_5 rfl rfl rfl (Nat.le_of_ble_eq_true rfl) (by decide) (fun r1 σ2 _ => ?_)
  refine z_if_ne hC 14 dX8_timer_8 (by decide) (fun h3 => ?_) (fun h3 => ?_)
  · refine z_iload_n hC dX8_timer_14 rfl ?_
    refine z_iconst hC dX8_timer_15 ki_1 ?_
    refine z_bipush hC dX8_timer_16 kb_50 ?_
    refine z_callSi hC [.int p2, .int 1, .int 50] (c_X8_in p2 1 50) yy_X8_in wl_X8_78 dX8_timer_18 rfl rfl rfl (Nat.le_of_ble_eq_true rfl) (by decide) (fun r4 σ5 _ => ?_)
    refine z_if_ne hC 27 dX8_timer_21 (by decide) (fun h6 => ?_) (fun h6 => ?_)
    · refine z_aload_n hC dX8_timer_27 rfl ?_
      refine z_geti hC wf_X8_105 dX8_timer_28 ltM_0 layM_0 rfl ?_
      refine z_bipush hC dX8_timer_31 kb_12 ?_
      refine z_icmp_ne hC 39 dX8_timer_33 (by decide) (fun h7 => ?_) (fun h7 => ?_)
      · refine z_aload_n hC dX8_timer_39 rfl ?_
        refine z_getr hC wf_X8_51 dX8_timer_40 ltM_0 layM_0 rfl ?_
        refine z_aload_n hC dX8_timer_43 rfl ?_
        refine z_geti hC wf_X8_105 dX8_timer_44 ltM_0 layM_0 rfl ?_
        refine z_iload_n hC dX8_timer_47 rfl ?_
        refine z_iast hC dX8_timer_48 ltM_13 layM_13 (fun h8 => ?_)
        refine z_let (fun σ9 _ => ?_)
        refine z_aload_n hC dX8_timer_49 rfl ?_
        refine z_getr hC wf_X8_54 dX8_timer_50 ltM_0 layM_0 rfl ?_
        refine z_aload_n hC dX8_timer_53 rfl ?_
        refine z_geti hC wf_X8_105 dX8_timer_54 ltM_0 layM_0 rfl ?_
        refine z_iload_n hC dX8_timer_57 rfl ?_
        refine z_iast hC dX8_timer_58 ltM_14 layM_14 (fun h10 => ?_)
        refine z_let (fun σ11 _ => ?_)
        refine z_aload_n hC dX8_timer_59 rfl ?_
        refine z_getr hC wf_X8_57 dX8_timer_60 ltM_0 layM_0 rfl ?_
        refine z_aload_n hC dX8_timer_63 rfl ?_
        refine z_geti hC wf_X8_105 dX8_timer_64 ltM_0 layM_0 rfl ?_
        refine z_iload_n hC dX8_timer_67 rfl ?_
        refine z_zast hC dX8_timer_68 ltM_15 layM_15 (fun h12 => ?_)
        refine z_let (fun σ13 _ => ?_)
        refine z_aload_n hC dX8_timer_69 rfl ?_
        refine z_getr hC wf_X8_7 dX8_timer_70 ltM_0 layM_0 rfl ?_
        refine z_bipush hC dX8_timer_73 kb_47 ?_
        refine z_aload_n hC dX8_timer_75 rfl ?_
        refine z_geti hC wf_X8_105 dX8_timer_76 ltM_0 layM_0 rfl ?_
        refine z_iadd hC dX8_timer_79 ?_
        refine z_iconst hC dX8_timer_80 ki_0 ?_
        refine z_iast hC dX8_timer_81 ltM_1 layM_1 (fun h14 => ?_)
        refine z_let (fun σ15 _ => ?_)
        refine z_aload_n hC dX8_timer_82 rfl ?_
        refine z_dup hC dX8_timer_83 rfl ?_
        refine z_geti hC wf_X8_105 dX8_timer_84 ltM_0 layM_0 rfl ?_
        refine z_iconst hC dX8_timer_87 ki_1 ?_
        refine z_iadd hC dX8_timer_88 ?_
        refine z_puti hC wp_X8_105 dX8_timer_89 ltM_0 layM_0 rfl ?_
        refine z_let (fun σ16 _ => ?_)
        refine z_aload_n hC dX8_timer_92 rfl ?_
        refine z_aload_n hC dX8_timer_93 rfl ?_
        refine z_geti hC wf_X8_105 dX8_timer_94 ltM_0 layM_0 rfl ?_
        refine z_iconst hC dX8_timer_97 ki_1 ?_
        refine z_isub hC dX8_timer_98 ?_
        refine z_callVi hC [.int ((σ16 0 19) - 1)] (c_X8_changed ((σ16 0 19) - 1)) yy_X8_changed wl_X8_85 dX8_timer_99 ltM_0 layM_0 vcz_X8 rfl rfl rfl (Nat.le_of_ble_eq_true rfl) (by decide) (fun r17 σ18 _ => ?_)
        exact z_iret hC dX8_timer_102
      · refine z_bipush hC dX8_timer_36 kb_m5 ?_
        exact z_iret hC dX8_timer_38
    · refine z_bipush hC dX8_timer_24 kb_m3 ?_
      exact z_iret hC dX8_timer_26
  · refine z_bipush hC dX8_timer_11 kb_m2 ?_
    exact z_iret hC dX8_timer_13
theorem c_X8_timer (p1 : Int32) (p2 : Int32) (p3 : Int32) : zM layM nM yX8_timer cX8_timer 4 (some .int) (zRm 2 43) (fun ad => [.ref (ad 0), .int p1, .int p2, .int p3]) (f_X8_timer p1 p2 p3) := zM_of (own := RX8) (by decide) rfl (fun ad w hw => by simp only [List.mem_cons, List.not_mem_nil, or_false] at hw; (first | exact hw.elim | (rcases hw with rfl | rfl | rfl | rfl <;> rfl))) (fun ad => Nat.le_of_ble_eq_true rfl) (fun Γ ad hC σ => w_X8_timer hC p1 p2 p3 σ)
set_option maxRecDepth 100000 in
set_option maxHeartbeats 4000000 in
theorem w_X8_told {Γ : zG} {ad : Nat → Nat} (hC : zX Γ layM nM ad cX8_told RX8 2 (zRm 0 0) (some .int)) (p1 : Int32) (σ : zS) : zK Γ layM nM ad 2 (some .int) 0 [some (.ref (ad 0)), some (.int p1)] [] σ (f_X8_told p1 σ) some := by
  unfold f_X8_told
  refine z_iload_n hC dX8_told_0 rfl ?_
  refine z_ite (fun h1 => ?_) (fun h1 => ?_)
  · refine z_tabIn hC 40 dX8_told_1 0 h1 (by decide) (by decide) rfl (by decide) ?_
    refine z_aload_n hC dX8_told_40 rfl ?_
    refine z_getr hC wf_X8_7 dX8_told_41 ltM_0 layM_0 rfl ?_
    refine z_iconst hC dX8_told_44 ki_0 ?_
    refine z_iald hC dX8_told_45 ltM_1 layM_1 (fun h2 => ?_)
    exact z_iret hC dX8_told_46
  refine z_ite (fun h3 => ?_) (fun h3 => ?_)
  · refine z_tabIn hC 47 dX8_told_1 1 h3 (by decide) (by decide) rfl (by decide) ?_
    refine z_aload_n hC dX8_told_47 rfl ?_
    refine z_getr hC wf_X8_7 dX8_told_48 ltM_0 layM_0 rfl ?_
    refine z_iconst hC dX8_told_51 ki_1 ?_
    refine z_iald hC dX8_told_52 ltM_1 layM_1 (fun h4 => ?_)
    exact z_iret hC dX8_told_53
  refine z_ite (fun h5 => ?_) (fun h5 => ?_)
  · refine z_tabIn hC 54 dX8_told_1 2 h5 (by decide) (by decide) rfl (by decide) ?_
    refine z_aload_n hC dX8_told_54 rfl ?_
    refine z_getr hC wf_X8_7 dX8_told_55 ltM_0 layM_0 rfl ?_
    refine z_iconst hC dX8_told_58 ki_2 ?_
    refine z_iald hC dX8_told_59 ltM_1 layM_1 (fun h6 => ?_)
    exact z_iret hC dX8_told_60
  refine z_ite (fun h7 => ?_) (fun h7 => ?_)
  · refine z_tabIn hC 61 dX8_told_1 3 h7 (by decide) (by decide) rfl (by decide) ?_
    refine z_aload_n hC dX8_told_61 rfl ?_
    refine z_geti hC wf_X8_16 dX8_told_62 ltM_0 layM_0 rfl ?_
    exact z_iret hC dX8_told_65
  refine z_ite (fun h8 => ?_) (fun h8 => ?_)
  · refine z_tabIn hC 66 dX8_told_1 4 h8 (by decide) (by decide) rfl (by decide) ?_
    refine z_aload_n hC dX8_told_66 rfl ?_
    refine z_getr hC wf_X8_7 dX8_told_67 ltM_0 layM_0 rfl ?_
    refine z_iconst hC dX8_told_70 ki_3 ?_
    refine z_iald hC dX8_told_71 ltM_1 layM_1 (fun h9 => ?_)
    exact z_iret hC dX8_told_72
  refine z_ite (fun h10 => ?_) (fun h10 => ?_)
  · refine z_tabIn hC 73 dX8_told_1 5 h10 (by decide) (by decide) rfl (by decide) ?_
    refine z_aload_n hC dX8_told_73 rfl ?_
    refine z_geti hC wf_X8_75 dX8_told_74 ltM_0 layM_0 rfl ?_
    exact z_iret hC dX8_told_77
  refine z_tabOut hC 78 dX8_told_1 (by have := And.intro (lv_neT h1 (a := 0) (by decide)) (And.intro (lv_neT h3 (a := 1) (by decide)) (And.intro (lv_neT h5 (a := 2) (by decide)) (And.intro (lv_neT h7 (a := 3) (by decide)) (And.intro (lv_neT h8 (a := 4) (by decide)) (lv_neT h10 (a := 5) (by decide)))))); omega) (by decide) ?_
  refine z_iload_n hC dX8_told_78 rfl ?_
  refine z_bipush hC dX8_told_79 kb_6 ?_
  refine z_icmp_ne hC 94 dX8_told_81 (by decide) (fun h11 => ?_) (fun h11 => ?_)
  · refine z_bipush hC dX8_told_94 kb_m3 ?_
    exact z_iret hC dX8_told_96
  · refine z_aload_n hC dX8_told_84 rfl ?_
    refine z_getr hC wf_X8_7 dX8_told_85 ltM_0 layM_0 rfl ?_
    refine z_bipush hC dX8_told_88 kb_71 ?_
    refine z_iald hC dX8_told_90 ltM_1 layM_1 (fun h12 => ?_)
    refine z_goto hC 96 dX8_told_91 (by decide) ?_
    exact z_iret hC dX8_told_96
theorem c_X8_told (p1 : Int32) : zM layM nM yX8_told cX8_told 2 (some .int) (zRm 0 0) (fun ad => [.ref (ad 0), .int p1]) (f_X8_told p1) := zM_of (own := RX8) (by decide) rfl (fun ad w hw => by simp only [List.mem_cons, List.not_mem_nil, or_false] at hw; (first | exact hw.elim | (rcases hw with rfl | rfl <;> rfl))) (fun ad => Nat.le_of_ble_eq_true rfl) (fun Γ ad hC σ => w_X8_told hC p1 σ)
set_option maxRecDepth 100000 in
set_option maxHeartbeats 4000000 in
theorem t_X8_turn_L48 {Γ : zG} {ad : Nat → Nat} (hC : zX Γ layM nM ad cX8_turn RX8 2 (zRm 4 92) (some .int)) (a0 : Int32 × zS) (K : Bool × (Int32 × zS) → Option (Int32 × zS)) (hc : ∀ (x0 : Int32) (s' : zS), zZ Γ layM nM ad 2 (some .int) 48 [some (.ref (ad 0)), some (.int x0)] [] s' (K (true, (x0, s')))) (hx : ∀ (x0 : Int32) (s' : zS), zZ Γ layM nM ad 2 (some .int) 82 [some (.ref (ad 0)), some (.int x0)] [] s' (K (false, (x0, s')))) : zK Γ layM nM ad 2 (some .int) 48 [some (.ref (ad 0)), some (.int a0.1)] [] (a0.2) (b_X8_turn_L48 a0) K := by
  unfold b_X8_turn_L48
  refine z_iload_n hC dX8_turn_48 rfl ?_
  refine z_sipush hC dX8_turn_49 ks_192 ?_
  refine z_icmp_ge hC 82 dX8_turn_52 (by decide) (fun h2 => ?_) (fun h2 => ?_)
  · exact z_leaf (hx a0.1 a0.2)
  · refine z_aload_n hC dX8_turn_55 rfl ?_
    refine z_getr hC wf_X8_13 dX8_turn_56 ltM_0 layM_0 rfl ?_
    refine z_sipush hC dX8_turn_59 ks_192 ?_
    refine z_aload_n hC dX8_turn_62 rfl ?_
    refine z_geti hC wf_X8_75 dX8_turn_63 ltM_0 layM_0 rfl ?_
    refine z_imul hC dX8_turn_66 ?_
    refine z_iload_n hC dX8_turn_67 rfl ?_
    refine z_iadd hC dX8_turn_68 ?_
    refine z_aload_n hC dX8_turn_69 rfl ?_
    refine z_getr hC wf_X8_7 dX8_turn_70 ltM_0 layM_0 rfl ?_
    refine z_iload_n hC dX8_turn_73 rfl ?_
    refine z_iald hC dX8_turn_74 ltM_1 layM_1 (fun h3 => ?_)
    refine z_iast hC dX8_turn_75 ltM_2 layM_2 (fun h4 => ?_)
    refine z_let (fun σ5 _ => ?_)
    refine z_iinc hC dX8_turn_76 (lv' := [some (.ref (ad 0)), some (.int (a0.1 + 1))]) rfl (by decide) ki_1 rfl ?_
    refine z_goto hC 48 dX8_turn_79 (by decide) ?_
    exact z_leaf (hc (a0.1 + 1) σ5)
set_option maxRecDepth 100000 in
set_option maxHeartbeats 4000000 in
theorem q_X8_turn_J46 {Γ : zG} {ad : Nat → Nat} (hC : zX Γ layM nM ad cX8_turn RX8 2 (zRm 4 92) (some .int)) (σ : zS) : zK Γ layM nM ad 2 (some .int) 46 [some (.ref (ad 0)), none] [] σ (j_X8_turn_J46 σ) some := by
  unfold j_X8_turn_J46
  refine z_iconst hC dX8_turn_46 ki_0 ?_
  refine z_istore_n hC dX8_turn_47 (lv' := [some (.ref (ad 0)), some (.int 0)]) (by decide) rfl ?_
  refine z_lpb (lvf := fun z : Int32 × zS => [some (.ref (ad 0)), some (.int z.1)]) (sg := fun z => z.2) (x := 82) zfuel (0, σ) rfl rfl (fun z K hc hx => t_X8_turn_L48 hC z K (fun x0 s' => hc (x0, s')) (fun x0 s' => hx (x0, s'))) (fun a6 => ?_)
  refine z_aload_n hC dX8_turn_82 rfl ?_
  refine z_dup hC dX8_turn_83 rfl ?_
  refine z_geti hC wf_X8_75 dX8_turn_84 ltM_0 layM_0 rfl ?_
  refine z_iconst hC dX8_turn_87 ki_1 ?_
  refine z_iadd hC dX8_turn_88 ?_
  refine z_puti hC wp_X8_75 dX8_turn_89 ltM_0 layM_0 rfl ?_
  refine z_let (fun σ7 _ => ?_)
  refine z_aload_n hC dX8_turn_92 rfl ?_
  refine z_iconst hC dX8_turn_93 ki_1 ?_
  refine z_putz hC wp_X8_119 (by decide) dX8_turn_94 ltM_0 layM_0 rfl ?_
  refine z_let (fun σ8 _ => ?_)
  refine z_aload_n hC dX8_turn_97 rfl ?_
  refine z_iconst hC dX8_turn_98 ki_0 ?_
  refine z_putz hC wp_X8_123 (by decide) dX8_turn_99 ltM_0 layM_0 rfl ?_
  refine z_let (fun σ9 _ => ?_)
  refine z_aload_n hC dX8_turn_102 rfl ?_
  refine z_iconst hC dX8_turn_103 ki_0 ?_
  refine z_puti hC wp_X8_130 dX8_turn_104 ltM_0 layM_0 rfl ?_
  refine z_let (fun σ10 _ => ?_)
  refine z_aload_n hC dX8_turn_107 rfl ?_
  refine z_getr hC wf_X8_7 dX8_turn_108 ltM_0 layM_0 rfl ?_
  refine z_bipush hC dX8_turn_111 kb_71 ?_
  refine z_iconst hC dX8_turn_113 ki_0 ?_
  refine z_iast hC dX8_turn_114 ltM_1 layM_1 (fun h11 => ?_)
  refine z_let (fun σ12 _ => ?_)
  refine z_aload_n hC dX8_turn_115 rfl ?_
  refine z_getr hC wf_X8_7 dX8_turn_116 ltM_0 layM_0 rfl ?_
  refine z_iconst hC dX8_turn_119 ki_2 ?_
  refine z_dup2 hC dX8_turn_120 rfl rfl ?_
  refine z_iald hC dX8_turn_121 ltM_1 layM_1 (fun h13 => ?_)
  refine z_iconst hC dX8_turn_122 ki_1 ?_
  refine z_iadd hC dX8_turn_123 ?_
  refine z_iast hC dX8_turn_124 ltM_1 layM_1 (fun h14 => ?_)
  refine z_let (fun σ15 _ => ?_)
  refine z_aload_n hC dX8_turn_125 rfl ?_
  refine z_callVv hC [] c_X8_goTime yy_X8_goTime wl_X8_146 dX8_turn_126 ltM_0 layM_0 vcz_X8 rfl rfl rfl (Nat.le_of_ble_eq_true rfl) (by decide) (fun r16 σ17 _ => ?_)
  refine z_aload_n hC dX8_turn_129 rfl ?_
  refine z_callVv hC [] c_X8_goTimers yy_X8_goTimers wl_X8_149 dX8_turn_130 ltM_0 layM_0 vcz_X8 rfl rfl rfl (Nat.le_of_ble_eq_true rfl) (by decide) (fun r18 σ19 _ => ?_)
  refine z_aload_n hC dX8_turn_133 rfl ?_
  refine z_callVv hC [] c_X8_goDaemons yy_X8_goDaemons wl_X8_152 dX8_turn_134 ltM_0 layM_0 vcz_X8 rfl rfl rfl (Nat.le_of_ble_eq_true rfl) (by decide) (fun r20 σ21 _ => ?_)
  refine z_aload_n hC dX8_turn_137 rfl ?_
  refine z_callVv hC [] c_X8_goWalkers yy_X8_goWalkers wl_X8_155 dX8_turn_138 ltM_0 layM_0 vcz_X8 rfl rfl rfl (Nat.le_of_ble_eq_true rfl) (by decide) (fun r22 σ23 _ => ?_)
  refine z_aload_n hC dX8_turn_141 rfl ?_
  refine z_iconst hC dX8_turn_142 ki_0 ?_
  refine z_putz hC wp_X8_119 (by decide) dX8_turn_143 ltM_0 layM_0 rfl ?_
  refine z_let (fun σ24 _ => ?_)
  refine z_aload_n hC dX8_turn_146 rfl ?_
  refine z_iconst hC dX8_turn_147 ki_0 ?_
  refine z_putz hC wp_X8_123 (by decide) dX8_turn_148 ltM_0 layM_0 rfl ?_
  refine z_let (fun σ25 _ => ?_)
  refine z_aload_n hC dX8_turn_151 rfl ?_
  refine z_geti hC wf_X8_130 dX8_turn_152 ltM_0 layM_0 rfl ?_
  exact z_iret hC dX8_turn_155
set_option maxRecDepth 100000 in
set_option maxHeartbeats 4000000 in
theorem t_X8_turn_L11 {Γ : zG} {ad : Nat → Nat} (hC : zX Γ layM nM ad cX8_turn RX8 2 (zRm 4 92) (some .int)) (a0 : Int32 × zS) (K : Bool × (Int32 × zS) → Option (Int32 × zS)) (hc : ∀ (x0 : Int32) (s' : zS), zZ Γ layM nM ad 2 (some .int) 11 [some (.ref (ad 0)), some (.int x0)] [] s' (K (true, (x0, s')))) (hx : ∀ (x0 : Int32) (s' : zS), zZ Γ layM nM ad 2 (some .int) 40 [some (.ref (ad 0)), some (.int x0)] [] s' (K (false, (x0, s')))) : zK Γ layM nM ad 2 (some .int) 11 [some (.ref (ad 0)), some (.int a0.1)] [] (a0.2) (b_X8_turn_L11 a0) K := by
  unfold b_X8_turn_L11
  refine z_iload_n hC dX8_turn_11 rfl ?_
  refine z_sipush hC dX8_turn_12 ks_1344 ?_
  refine z_icmp_ge hC 40 dX8_turn_15 (by decide) (fun h26 => ?_) (fun h26 => ?_)
  · exact z_leaf (hx a0.1 a0.2)
  · refine z_aload_n hC dX8_turn_18 rfl ?_
    refine z_getr hC wf_X8_13 dX8_turn_19 ltM_0 layM_0 rfl ?_
    refine z_iload_n hC dX8_turn_22 rfl ?_
    refine z_aload_n hC dX8_turn_23 rfl ?_
    refine z_getr hC wf_X8_13 dX8_turn_24 ltM_0 layM_0 rfl ?_
    refine z_iload_n hC dX8_turn_27 rfl ?_
    refine z_sipush hC dX8_turn_28 ks_192 ?_
    refine z_iadd hC dX8_turn_31 ?_
    refine z_iald hC dX8_turn_32 ltM_2 layM_2 (fun h27 => ?_)
    refine z_iast hC dX8_turn_33 ltM_2 layM_2 (fun h28 => ?_)
    refine z_let (fun σ29 _ => ?_)
    refine z_iinc hC dX8_turn_34 (lv' := [some (.ref (ad 0)), some (.int (a0.1 + 1))]) rfl (by decide) ki_1 rfl ?_
    refine z_goto hC 11 dX8_turn_37 (by decide) ?_
    exact z_leaf (hc (a0.1 + 1) σ29)
set_option maxRecDepth 100000 in
set_option maxHeartbeats 4000000 in
theorem w_X8_turn {Γ : zG} {ad : Nat → Nat} (hC : zX Γ layM nM ad cX8_turn RX8 2 (zRm 4 92) (some .int)) (σ : zS) : zK Γ layM nM ad 2 (some .int) 0 [some (.ref (ad 0)), none] [] σ (f_X8_turn σ) some := by
  unfold f_X8_turn
  refine z_aload_n hC dX8_turn_0 rfl ?_
  refine z_geti hC wf_X8_75 dX8_turn_1 ltM_0 layM_0 rfl ?_
  refine z_bipush hC dX8_turn_4 kb_8 ?_
  refine z_icmp_ne hC 46 dX8_turn_6 (by decide) (fun h1 => ?_) (fun h1 => ?_)
  · exact q_X8_turn_J46 hC σ
  · refine z_iconst hC dX8_turn_9 ki_0 ?_
    refine z_istore_n hC dX8_turn_10 (lv' := [some (.ref (ad 0)), some (.int 0)]) (by decide) rfl ?_
    refine z_lpb (lvf := fun z : Int32 × zS => [some (.ref (ad 0)), some (.int z.1)]) (sg := fun z => z.2) (x := 40) zfuel (0, σ) rfl rfl (fun z K hc hx => t_X8_turn_L11 hC z K (fun x0 s' => hc (x0, s')) (fun x0 s' => hx (x0, s'))) (fun a30 => ?_)
    refine z_aload_n hC dX8_turn_40 rfl ?_
    refine z_bipush hC dX8_turn_41 kb_7 ?_
    refine z_puti hC wp_X8_75 dX8_turn_43 ltM_0 layM_0 rfl ?_
    refine z_let (fun σ31 _ => ?_)
    refine z_forget [1] (lv' := [some (.ref (ad 0)), none]) rfl ?_
    exact q_X8_turn_J46 hC σ31
theorem c_X8_turn : zM layM nM yX8_turn cX8_turn 2 (some .int) (zRm 4 92) (fun ad => [.ref (ad 0)]) (f_X8_turn) := zM_of (own := RX8) (by decide) rfl (fun ad w hw => by simp only [List.mem_cons, List.not_mem_nil, or_false] at hw; (first | exact hw.elim | (rcases hw with rfl <;> rfl))) (fun ad => Nat.le_of_ble_eq_true rfl) (fun Γ ad hC σ => w_X8_turn hC σ)
set_option maxRecDepth 100000 in
set_option maxHeartbeats 4000000 in
theorem w_X8_walker {Γ : zG} {ad : Nat → Nat} (hC : zX Γ layM nM ad cX8_walker RX8 2 (zRm 2 43) (some .int)) (p1 : Int32) (σ : zS) : zK Γ layM nM ad 2 (some .int) 0 [some (.ref (ad 0)), some (.int p1)] [] σ (f_X8_walker p1 σ) some := by
  unfold f_X8_walker
  refine z_iload_n hC dX8_walker_0 rfl ?_
  refine z_aload_n hC dX8_walker_1 rfl ?_
  refine z_geti hC wf_X8_82 dX8_walker_2 ltM_0 layM_0 rfl ?_
  refine z_callSi hC [.int p1, .int (σ 0 4)] (c_X8_isOf p1 (σ 0 4)) yy_X8_isOf wl_X8_89 dX8_walker_5 rfl rfl rfl (Nat.le_of_ble_eq_true rfl) (by decide) (fun r1 σ2 _ => ?_)
  refine z_if_ne hC 14 dX8_walker_8 (by decide) (fun h3 => ?_) (fun h3 => ?_)
  · refine z_aload_n hC dX8_walker_14 rfl ?_
    refine z_geti hC wf_X8_96 dX8_walker_15 ltM_0 layM_0 rfl ?_
    refine z_iconst hC dX8_walker_18 ki_4 ?_
    refine z_icmp_ne hC 25 dX8_walker_19 (by decide) (fun h4 => ?_) (fun h4 => ?_)
    · refine z_aload_n hC dX8_walker_25 rfl ?_
      refine z_getr hC wf_X8_7 dX8_walker_26 ltM_0 layM_0 rfl ?_
      refine z_bipush hC dX8_walker_29 kb_27 ?_
      refine z_aload_n hC dX8_walker_31 rfl ?_
      refine z_geti hC wf_X8_96 dX8_walker_32 ltM_0 layM_0 rfl ?_
      refine z_iadd hC dX8_walker_35 ?_
      refine z_iload_n hC dX8_walker_36 rfl ?_
      refine z_iast hC dX8_walker_37 ltM_1 layM_1 (fun h5 => ?_)
      refine z_let (fun σ6 _ => ?_)
      refine z_aload_n hC dX8_walker_38 rfl ?_
      refine z_getr hC wf_X8_7 dX8_walker_39 ltM_0 layM_0 rfl ?_
      refine z_bipush hC dX8_walker_42 kb_31 ?_
      refine z_aload_n hC dX8_walker_44 rfl ?_
      refine z_geti hC wf_X8_96 dX8_walker_45 ltM_0 layM_0 rfl ?_
      refine z_iadd hC dX8_walker_48 ?_
      refine z_iconst hC dX8_walker_49 ki_m1 ?_
      refine z_iast hC dX8_walker_50 ltM_1 layM_1 (fun h7 => ?_)
      refine z_let (fun σ8 _ => ?_)
      refine z_aload_n hC dX8_walker_51 rfl ?_
      refine z_dup hC dX8_walker_52 rfl ?_
      refine z_geti hC wf_X8_96 dX8_walker_53 ltM_0 layM_0 rfl ?_
      refine z_iconst hC dX8_walker_56 ki_1 ?_
      refine z_iadd hC dX8_walker_57 ?_
      refine z_puti hC wp_X8_96 dX8_walker_58 ltM_0 layM_0 rfl ?_
      refine z_let (fun σ9 _ => ?_)
      refine z_aload_n hC dX8_walker_61 rfl ?_
      refine z_aload_n hC dX8_walker_62 rfl ?_
      refine z_geti hC wf_X8_96 dX8_walker_63 ltM_0 layM_0 rfl ?_
      refine z_iconst hC dX8_walker_66 ki_1 ?_
      refine z_isub hC dX8_walker_67 ?_
      refine z_callVi hC [.int ((σ9 0 8) - 1)] (c_X8_changed ((σ9 0 8) - 1)) yy_X8_changed wl_X8_85 dX8_walker_68 ltM_0 layM_0 vcz_X8 rfl rfl rfl (Nat.le_of_ble_eq_true rfl) (by decide) (fun r10 σ11 _ => ?_)
      exact z_iret hC dX8_walker_71
    · refine z_bipush hC dX8_walker_22 kb_m5 ?_
      exact z_iret hC dX8_walker_24
  · refine z_bipush hC dX8_walker_11 kb_m2 ?_
    exact z_iret hC dX8_walker_13
theorem c_X8_walker (p1 : Int32) : zM layM nM yX8_walker cX8_walker 2 (some .int) (zRm 2 43) (fun ad => [.ref (ad 0), .int p1]) (f_X8_walker p1) := zM_of (own := RX8) (by decide) rfl (fun ad w hw => by simp only [List.mem_cons, List.not_mem_nil, or_false] at hw; (first | exact hw.elim | (rcases hw with rfl | rfl <;> rfl))) (fun ad => Nat.le_of_ble_eq_true rfl) (fun Γ ad hC σ => w_X8_walker hC p1 σ)
set_option maxRecDepth 100000 in
set_option maxHeartbeats 4000000 in
theorem w_X8_walks {Γ : zG} {ad : Nat → Nat} (hC : zX Γ layM nM ad cX8_walks RX8 3 (zRm 2 43) (some .int)) (p1 : Int32) (p2 : Int32) (σ : zS) : zK Γ layM nM ad 3 (some .int) 0 [some (.ref (ad 0)), some (.int p1), some (.int p2)] [] σ (f_X8_walks p1 p2 σ) some := by
  unfold f_X8_walks
  refine z_iload_n hC dX8_walks_0 rfl ?_
  refine z_aload_n hC dX8_walks_1 rfl ?_
  refine z_geti hC wf_X8_96 dX8_walks_2 ltM_0 layM_0 rfl ?_
  refine z_callSi hC [.int p1, .int (σ 0 8)] (c_X8_isOf p1 (σ 0 8)) yy_X8_isOf wl_X8_89 dX8_walks_5 rfl rfl rfl (Nat.le_of_ble_eq_true rfl) (by decide) (fun r1 σ2 _ => ?_)
  refine z_if_ne hC 14 dX8_walks_8 (by decide) (fun h3 => ?_) (fun h3 => ?_)
  · refine z_iload_n hC dX8_walks_14 rfl ?_
    refine z_if_ne hC 30 dX8_walks_15 (by decide) (fun h4 => ?_) (fun h4 => ?_)
    · refine z_iload_n hC dX8_walks_30 rfl ?_
      refine z_iconst hC dX8_walks_31 ki_1 ?_
      refine z_icmp_ne hC 47 dX8_walks_32 (by decide) (fun h5 => ?_) (fun h5 => ?_)
      · refine z_bipush hC dX8_walks_47 kb_m3 ?_
        exact z_iret hC dX8_walks_49
      · refine z_aload_n hC dX8_walks_35 rfl ?_
        refine z_getr hC wf_X8_7 dX8_walks_36 ltM_0 layM_0 rfl ?_
        refine z_bipush hC dX8_walks_39 kb_31 ?_
        refine z_iload_n hC dX8_walks_41 rfl ?_
        refine z_iadd hC dX8_walks_42 ?_
        refine z_iald hC dX8_walks_43 ltM_1 layM_1 (fun h6 => ?_)
        refine z_goto hC 49 dX8_walks_44 (by decide) ?_
        exact z_iret hC dX8_walks_49
    · refine z_aload_n hC dX8_walks_18 rfl ?_
      refine z_getr hC wf_X8_7 dX8_walks_19 ltM_0 layM_0 rfl ?_
      refine z_bipush hC dX8_walks_22 kb_27 ?_
      refine z_iload_n hC dX8_walks_24 rfl ?_
      refine z_iadd hC dX8_walks_25 ?_
      refine z_iald hC dX8_walks_26 ltM_1 layM_1 (fun h7 => ?_)
      refine z_goto hC 49 dX8_walks_27 (by decide) ?_
      exact z_iret hC dX8_walks_49
  · refine z_bipush hC dX8_walks_11 kb_m2 ?_
    exact z_iret hC dX8_walks_13
theorem c_X8_walks (p1 : Int32) (p2 : Int32) : zM layM nM yX8_walks cX8_walks 3 (some .int) (zRm 2 43) (fun ad => [.ref (ad 0), .int p1, .int p2]) (f_X8_walks p1 p2) := zM_of (own := RX8) (by decide) rfl (fun ad w hw => by simp only [List.mem_cons, List.not_mem_nil, or_false] at hw; (first | exact hw.elim | (rcases hw with rfl | rfl | rfl <;> rfl))) (fun ad => Nat.le_of_ble_eq_true rfl) (fun Γ ad hC σ => w_X8_walks hC p1 p2 σ)
set_option maxRecDepth 100000 in
set_option maxHeartbeats 4000000 in
theorem w_X8_way {Γ : zG} {ad : Nat → Nat} (hC : zX Γ layM nM ad cX8_way RX8 3 (zRm 2 45) (some .int)) (p1 : Int32) (p2 : Int32) (σ : zS) : zK Γ layM nM ad 3 (some .int) 0 [some (.ref (ad 0)), some (.int p1), some (.int p2)] [] σ (f_X8_way p1 p2 σ) some := by
  unfold f_X8_way
  refine z_iload_n hC dX8_way_0 rfl ?_
  refine z_aload_n hC dX8_way_1 rfl ?_
  refine z_geti hC wf_X8_82 dX8_way_2 ltM_0 layM_0 rfl ?_
  refine z_callSi hC [.int p1, .int (σ 0 4)] (c_X8_isOf p1 (σ 0 4)) yy_X8_isOf wl_X8_89 dX8_way_5 rfl rfl rfl (Nat.le_of_ble_eq_true rfl) (by decide) (fun r1 σ2 _ => ?_)
  refine z_if_eq hC 22 dX8_way_8 (by decide) (fun h3 => ?_) (fun h3 => ?_)
  · refine z_bipush hC dX8_way_22 kb_m2 ?_
    exact z_iret hC dX8_way_24
  · refine z_iload_n hC dX8_way_11 rfl ?_
    refine z_aload_n hC dX8_way_12 rfl ?_
    refine z_geti hC wf_X8_82 dX8_way_13 ltM_0 layM_0 rfl ?_
    refine z_callSi hC [.int p2, .int (σ2 0 4)] (c_X8_isOf p2 (σ2 0 4)) yy_X8_isOf wl_X8_89 dX8_way_16 rfl rfl rfl (Nat.le_of_ble_eq_true rfl) (by decide) (fun r4 σ5 _ => ?_)
    refine z_if_ne hC 25 dX8_way_19 (by decide) (fun h6 => ?_) (fun h6 => ?_)
    · refine z_aload_n hC dX8_way_25 rfl ?_
      refine z_iload_n hC dX8_way_26 rfl ?_
      refine z_callVv hC [.int p2] (c_X8_findWays p2) yy_X8_findWays wl_X8_140 dX8_way_27 ltM_0 layM_0 vcz_X8 rfl rfl rfl (Nat.le_of_ble_eq_true rfl) (by decide) (fun r7 σ8 _ => ?_)
      refine z_aload_n hC dX8_way_30 rfl ?_
      refine z_getr hC wf_X8_72 dX8_way_31 ltM_0 layM_0 rfl ?_
      refine z_iload_n hC dX8_way_34 rfl ?_
      refine z_iald hC dX8_way_35 ltM_20 layM_20 (fun h9 => ?_)
      exact z_iret hC dX8_way_36
    · refine z_bipush hC dX8_way_22 kb_m2 ?_
      exact z_iret hC dX8_way_24
theorem c_X8_way (p1 : Int32) (p2 : Int32) : zM layM nM yX8_way cX8_way 3 (some .int) (zRm 2 45) (fun ad => [.ref (ad 0), .int p1, .int p2]) (f_X8_way p1 p2) := zM_of (own := RX8) (by decide) rfl (fun ad w hw => by simp only [List.mem_cons, List.not_mem_nil, or_false] at hw; (first | exact hw.elim | (rcases hw with rfl | rfl | rfl <;> rfl))) (fun ad => Nat.le_of_ble_eq_true rfl) (fun Γ ad hC σ => w_X8_way hC p1 p2 σ)
end
