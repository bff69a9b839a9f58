section
-- ===== PART A: goes FIRST, ahead of the names: the tables' words, and 'selects' of the private methods out of them =====
/-- a private method of a class that the tables say can be made, by its rows of tables_1 -/
def lw_okq (q : MethodName × Nat) : Prop := (q.1.cls ≠ "java/lang/invoke/MethodHandle" ∧ q.1.cls ≠ "java/lang/invoke/VarHandle") ∧ Cond.instantiable q.1.cls q.2 ∈ tables_1 ∧ Cond.privateMethod q.1 ∈ tables_1 ∧ Cond.instanceMethod q.1 ∈ tables_1
theorem lw_p0 : lw_okq (⟨"TurnClock", "closePast", "(I)I"⟩, 9) := ⟨⟨by decide +kernel, by decide +kernel⟩, List.mem_of_getElem? (i := 13) (by decide +kernel), List.mem_of_getElem? (i := 275) (by decide +kernel), List.mem_of_getElem? (i := 276) (by decide +kernel)⟩
theorem lw_p1 : lw_okq (⟨"TurnClock", "doDeed", "(I)Z"⟩, 9) := ⟨⟨by decide +kernel, by decide +kernel⟩, List.mem_of_getElem? (i := 13) (by decide +kernel), List.mem_of_getElem? (i := 347) (by decide +kernel), List.mem_of_getElem? (i := 348) (by decide +kernel)⟩
theorem lw_p2 : lw_okq (⟨"TurnClock", "carryOut", "(III)V"⟩, 9) := ⟨⟨by decide +kernel, by decide +kernel⟩, List.mem_of_getElem? (i := 13) (by decide +kernel), List.mem_of_getElem? (i := 351) (by decide +kernel), List.mem_of_getElem? (i := 352) (by decide +kernel)⟩
theorem lw_p3 : lw_okq (⟨"TurnClock", "startTimer", "(I)V"⟩, 9) := ⟨⟨by decide +kernel, by decide +kernel⟩, List.mem_of_getElem? (i := 13) (by decide +kernel), List.mem_of_getElem? (i := 366) (by decide +kernel), List.mem_of_getElem? (i := 367) (by decide +kernel)⟩
theorem lw_p4 : lw_okq (⟨"TurnClock", "stopTimer", "(I)V"⟩, 9) := ⟨⟨by decide +kernel, by decide +kernel⟩, List.mem_of_getElem? (i := 13) (by decide +kernel), List.mem_of_getElem? (i := 370) (by decide +kernel), List.mem_of_getElem? (i := 371) (by decide +kernel)⟩
theorem lw_p5 : lw_okq (⟨"TurnClock", "switchDaemon", "(IZ)V"⟩, 9) := ⟨⟨by decide +kernel, by decide +kernel⟩, List.mem_of_getElem? (i := 13) (by decide +kernel), List.mem_of_getElem? (i := 374) (by decide +kernel), List.mem_of_getElem? (i := 375) (by decide +kernel)⟩
theorem lw_p6 : lw_okq (⟨"TurnClock", "turnDoor", "(I)V"⟩, 9) := ⟨⟨by decide +kernel, by decide +kernel⟩, List.mem_of_getElem? (i := 13) (by decide +kernel), List.mem_of_getElem? (i := 378) (by decide +kernel), List.mem_of_getElem? (i := 379) (by decide +kernel)⟩
theorem lw_p7 : lw_okq (⟨"TurnClock", "giveGoal", "(II)V"⟩, 9) := ⟨⟨by decide +kernel, by decide +kernel⟩, List.mem_of_getElem? (i := 13) (by decide +kernel), List.mem_of_getElem? (i := 382) (by decide +kernel), List.mem_of_getElem? (i := 383) (by decide +kernel)⟩
theorem lw_p8 : lw_okq (⟨"TurnClock$Past", "dropOldest", "()V"⟩, 2) := ⟨⟨by decide +kernel, by decide +kernel⟩, List.mem_of_getElem? (i := 222) (by decide +kernel), List.mem_of_getElem? (i := 399) (by decide +kernel), List.mem_of_getElem? (i := 400) (by decide +kernel)⟩
theorem lw_p9 : lw_okq (⟨"TurnClock", "bringEvents", "()V"⟩, 9) := ⟨⟨by decide +kernel, by decide +kernel⟩, List.mem_of_getElem? (i := 13) (by decide +kernel), List.mem_of_getElem? (i := 413) (by decide +kernel), List.mem_of_getElem? (i := 414) (by decide +kernel)⟩
theorem lw_p10 : lw_okq (⟨"TurnClock", "lineUpEvents", "(I)I"⟩, 9) := ⟨⟨by decide +kernel, by decide +kernel⟩, List.mem_of_getElem? (i := 13) (by decide +kernel), List.mem_of_getElem? (i := 417) (by decide +kernel), List.mem_of_getElem? (i := 418) (by decide +kernel)⟩
theorem lw_p11 : lw_okq (⟨"TurnClock", "minutesUntil", "(I)I"⟩, 9) := ⟨⟨by decide +kernel, by decide +kernel⟩, List.mem_of_getElem? (i := 13) (by decide +kernel), List.mem_of_getElem? (i := 421) (by decide +kernel), List.mem_of_getElem? (i := 422) (by decide +kernel)⟩
theorem lw_p12 : lw_okq (⟨"TurnClock", "bringEvent", "(I)V"⟩, 9) := ⟨⟨by decide +kernel, by decide +kernel⟩, List.mem_of_getElem? (i := 13) (by decide +kernel), List.mem_of_getElem? (i := 433) (by decide +kernel), List.mem_of_getElem? (i := 434) (by decide +kernel)⟩
theorem lw_p13 : lw_okq (⟨"TurnClock", "runTimers", "()V"⟩, 9) := ⟨⟨by decide +kernel, by decide +kernel⟩, List.mem_of_getElem? (i := 13) (by decide +kernel), List.mem_of_getElem? (i := 441) (by decide +kernel), List.mem_of_getElem? (i := 442) (by decide +kernel)⟩
theorem lw_p14 : lw_okq (⟨"TurnClock", "runTimer", "(I)V"⟩, 9) := ⟨⟨by decide +kernel, by decide +kernel⟩, List.mem_of_getElem? (i := 13) (by decide +kernel), List.mem_of_getElem? (i := 445) (by decide +kernel), List.mem_of_getElem? (i := 446) (by decide +kernel)⟩
theorem lw_p15 : lw_okq (⟨"TurnClock", "runDaemons", "()V"⟩, 9) := ⟨⟨by decide +kernel, by decide +kernel⟩, List.mem_of_getElem? (i := 13) (by decide +kernel), List.mem_of_getElem? (i := 449) (by decide +kernel), List.mem_of_getElem? (i := 450) (by decide +kernel)⟩
def lw_privs_1 : List (MethodName × Nat) := [(⟨"TurnClock", "closePast", "(I)I"⟩, 9), (⟨"TurnClock", "doDeed", "(I)Z"⟩, 9), (⟨"TurnClock", "carryOut", "(III)V"⟩, 9), (⟨"TurnClock", "startTimer", "(I)V"⟩, 9), (⟨"TurnClock", "stopTimer", "(I)V"⟩, 9), (⟨"TurnClock", "switchDaemon", "(IZ)V"⟩, 9), (⟨"TurnClock", "turnDoor", "(I)V"⟩, 9), (⟨"TurnClock", "giveGoal", "(II)V"⟩, 9), (⟨"TurnClock$Past", "dropOldest", "()V"⟩, 2), (⟨"TurnClock", "bringEvents", "()V"⟩, 9), (⟨"TurnClock", "lineUpEvents", "(I)I"⟩, 9), (⟨"TurnClock", "minutesUntil", "(I)I"⟩, 9), (⟨"TurnClock", "bringEvent", "(I)V"⟩, 9), (⟨"TurnClock", "runTimers", "()V"⟩, 9), (⟨"TurnClock", "runTimer", "(I)V"⟩, 9), (⟨"TurnClock", "runDaemons", "()V"⟩, 9)]
theorem lw_r1 : ∀ q ∈ lw_privs_1, lw_okq q := List.forall_mem_cons.mpr ⟨lw_p0, List.forall_mem_cons.mpr ⟨lw_p1, List.forall_mem_cons.mpr ⟨lw_p2, List.forall_mem_cons.mpr ⟨lw_p3, List.forall_mem_cons.mpr ⟨lw_p4, List.forall_mem_cons.mpr ⟨lw_p5, List.forall_mem_cons.mpr ⟨lw_p6, List.forall_mem_cons.mpr ⟨lw_p7, List.forall_mem_cons.mpr ⟨lw_p8, List.forall_mem_cons.mpr ⟨lw_p9, List.forall_mem_cons.mpr ⟨lw_p10, List.forall_mem_cons.mpr ⟨lw_p11, List.forall_mem_cons.mpr ⟨lw_p12, List.forall_mem_cons.mpr ⟨lw_p13, List.forall_mem_cons.mpr ⟨lw_p14, List.forall_mem_cons.mpr ⟨lw_p15, fun _ h => absurd h List.not_mem_nil⟩⟩⟩⟩⟩⟩⟩⟩⟩⟩⟩⟩⟩⟩⟩⟩
theorem lw_p16 : lw_okq (⟨"TurnClock", "runDaemonsOf", "(I)V"⟩, 9) := ⟨⟨by decide +kernel, by decide +kernel⟩, List.mem_of_getElem? (i := 13) (by decide +kernel), List.mem_of_getElem? (i := 453) (by decide +kernel), List.mem_of_getElem? (i := 454) (by decide +kernel)⟩
theorem lw_p17 : lw_okq (⟨"TurnClock", "moveWalkers", "()V"⟩, 9) := ⟨⟨by decide +kernel, by decide +kernel⟩, List.mem_of_getElem? (i := 13) (by decide +kernel), List.mem_of_getElem? (i := 457) (by decide +kernel), List.mem_of_getElem? (i := 458) (by decide +kernel)⟩
theorem lw_p18 : lw_okq (⟨"TurnClock", "moveWalker", "(I)V"⟩, 9) := ⟨⟨by decide +kernel, by decide +kernel⟩, List.mem_of_getElem? (i := 13) (by decide +kernel), List.mem_of_getElem? (i := 461) (by decide +kernel), List.mem_of_getElem? (i := 462) (by decide +kernel)⟩
theorem lw_p19 : lw_okq (⟨"TurnClock$House", "spread", "(III)V"⟩, 6) := ⟨⟨by decide +kernel, by decide +kernel⟩, List.mem_of_getElem? (i := 21) (by decide +kernel), List.mem_of_getElem? (i := 473) (by decide +kernel), List.mem_of_getElem? (i := 474) (by decide +kernel)⟩
theorem lw_p20 : lw_okq (⟨"TurnClock$House", "beyondDoor", "(II)I"⟩, 6) := ⟨⟨by decide +kernel, by decide +kernel⟩, List.mem_of_getElem? (i := 21) (by decide +kernel), List.mem_of_getElem? (i := 477) (by decide +kernel), List.mem_of_getElem? (i := 478) (by decide +kernel)⟩
theorem lw_p21 : lw_okq (⟨"TurnClock$House", "isNearer", "(II)Z"⟩, 6) := ⟨⟨by decide +kernel, by decide +kernel⟩, List.mem_of_getElem? (i := 21) (by decide +kernel), List.mem_of_getElem? (i := 481) (by decide +kernel), List.mem_of_getElem? (i := 482) (by decide +kernel)⟩
theorem lw_p22 : lw_okq (⟨"TurnClockModel", "changed", "(I)I"⟩, 32) := ⟨⟨by decide +kernel, by decide +kernel⟩, List.mem_of_getElem? (i := 533) (by decide +kernel), List.mem_of_getElem? (i := 640) (by decide +kernel), List.mem_of_getElem? (i := 641) (by decide +kernel)⟩
theorem lw_p23 : lw_okq (⟨"TurnClockModel", "holds", "(I)Z"⟩, 32) := ⟨⟨by decide +kernel, by decide +kernel⟩, List.mem_of_getElem? (i := 533) (by decide +kernel), List.mem_of_getElem? (i := 682) (by decide +kernel), List.mem_of_getElem? (i := 683) (by decide +kernel)⟩
theorem lw_p24 : lw_okq (⟨"TurnClockModel", "perform", "(I)V"⟩, 32) := ⟨⟨by decide +kernel, by decide +kernel⟩, List.mem_of_getElem? (i := 533) (by decide +kernel), List.mem_of_getElem? (i := 686) (by decide +kernel), List.mem_of_getElem? (i := 687) (by decide +kernel)⟩
theorem lw_p25 : lw_okq (⟨"TurnClockModel", "goTime", "()V"⟩, 32) := ⟨⟨by decide +kernel, by decide +kernel⟩, List.mem_of_getElem? (i := 533) (by decide +kernel), List.mem_of_getElem? (i := 701) (by decide +kernel), List.mem_of_getElem? (i := 702) (by decide +kernel)⟩
theorem lw_p26 : lw_okq (⟨"TurnClockModel", "tell", "(II)V"⟩, 32) := ⟨⟨by decide +kernel, by decide +kernel⟩, List.mem_of_getElem? (i := 533) (by decide +kernel), List.mem_of_getElem? (i := 705) (by decide +kernel), List.mem_of_getElem? (i := 706) (by decide +kernel)⟩
theorem lw_p27 : lw_okq (⟨"TurnClockModel", "goTimers", "()V"⟩, 32) := ⟨⟨by decide +kernel, by decide +kernel⟩, List.mem_of_getElem? (i := 533) (by decide +kernel), List.mem_of_getElem? (i := 709) (by decide +kernel), List.mem_of_getElem? (i := 710) (by decide +kernel)⟩
theorem lw_p28 : lw_okq (⟨"TurnClockModel", "goDaemons", "()V"⟩, 32) := ⟨⟨by decide +kernel, by decide +kernel⟩, List.mem_of_getElem? (i := 533) (by decide +kernel), List.mem_of_getElem? (i := 713) (by decide +kernel), List.mem_of_getElem? (i := 714) (by decide +kernel)⟩
theorem lw_p29 : lw_okq (⟨"TurnClockModel", "goWalkers", "()V"⟩, 32) := ⟨⟨by decide +kernel, by decide +kernel⟩, List.mem_of_getElem? (i := 533) (by decide +kernel), List.mem_of_getElem? (i := 717) (by decide +kernel), List.mem_of_getElem? (i := 718) (by decide +kernel)⟩
theorem lw_p30 : lw_okq (⟨"TurnClockModel", "findWays", "(I)V"⟩, 32) := ⟨⟨by decide +kernel, by decide +kernel⟩, List.mem_of_getElem? (i := 533) (by decide +kernel), List.mem_of_getElem? (i := 721) (by decide +kernel), List.mem_of_getElem? (i := 722) (by decide +kernel)⟩
theorem lw_p31 : lw_okq (⟨"TurnClockModel", "step", "(II)V"⟩, 32) := ⟨⟨by decide +kernel, by decide +kernel⟩, List.mem_of_getElem? (i := 533) (by decide +kernel), List.mem_of_getElem? (i := 725) (by decide +kernel), List.mem_of_getElem? (i := 726) (by decide +kernel)⟩
def lw_privs_2 : List (MethodName × Nat) := [(⟨"TurnClock", "runDaemonsOf", "(I)V"⟩, 9), (⟨"TurnClock", "moveWalkers", "()V"⟩, 9), (⟨"TurnClock", "moveWalker", "(I)V"⟩, 9), (⟨"TurnClock$House", "spread", "(III)V"⟩, 6), (⟨"TurnClock$House", "beyondDoor", "(II)I"⟩, 6), (⟨"TurnClock$House", "isNearer", "(II)Z"⟩, 6), (⟨"TurnClockModel", "changed", "(I)I"⟩, 32), (⟨"TurnClockModel", "holds", "(I)Z"⟩, 32), (⟨"TurnClockModel", "perform", "(I)V"⟩, 32), (⟨"TurnClockModel", "goTime", "()V"⟩, 32), (⟨"TurnClockModel", "tell", "(II)V"⟩, 32), (⟨"TurnClockModel", "goTimers", "()V"⟩, 32), (⟨"TurnClockModel", "goDaemons", "()V"⟩, 32), (⟨"TurnClockModel", "goWalkers", "()V"⟩, 32), (⟨"TurnClockModel", "findWays", "(I)V"⟩, 32), (⟨"TurnClockModel", "step", "(II)V"⟩, 32)]
theorem lw_r2 : ∀ q ∈ lw_privs_2, lw_okq q := List.forall_mem_cons.mpr ⟨lw_p16, List.forall_mem_cons.mpr ⟨lw_p17, List.forall_mem_cons.mpr ⟨lw_p18, List.forall_mem_cons.mpr ⟨lw_p19, List.forall_mem_cons.mpr ⟨lw_p20, List.forall_mem_cons.mpr ⟨lw_p21, List.forall_mem_cons.mpr ⟨lw_p22, List.forall_mem_cons.mpr ⟨lw_p23, List.forall_mem_cons.mpr ⟨lw_p24, List.forall_mem_cons.mpr ⟨lw_p25, List.forall_mem_cons.mpr ⟨lw_p26, List.forall_mem_cons.mpr ⟨lw_p27, List.forall_mem_cons.mpr ⟨lw_p28, List.forall_mem_cons.mpr ⟨lw_p29, List.forall_mem_cons.mpr ⟨lw_p30, List.forall_mem_cons.mpr ⟨lw_p31, fun _ h => absurd h List.not_mem_nil⟩⟩⟩⟩⟩⟩⟩⟩⟩⟩⟩⟩⟩⟩⟩⟩
theorem lw_p32 : lw_okq (⟨"TurnClockModel", "isJoined", "(II)Z"⟩, 32) := ⟨⟨by decide +kernel, by decide +kernel⟩, List.mem_of_getElem? (i := 533) (by decide +kernel), List.mem_of_getElem? (i := 729) (by decide +kernel), List.mem_of_getElem? (i := 730) (by decide +kernel)⟩
def lw_privs_3 : List (MethodName × Nat) := [(⟨"TurnClockModel", "isJoined", "(II)Z"⟩, 32)]
theorem lw_r3 : ∀ q ∈ lw_privs_3, lw_okq q := List.forall_mem_cons.mpr ⟨lw_p32, fun _ h => absurd h List.not_mem_nil⟩
def lw_privs : List (MethodName × Nat) := lw_privs_1 ++ (lw_privs_2 ++ (lw_privs_3))
def lw_tbl : List Cond := k2_sels lw_privs ++ tables_1
theorem lw_privs_ok : ∀ q ∈ lw_privs, lw_okq q := by
  show ∀ q ∈ lw_privs_1 ++ (lw_privs_2 ++ (lw_privs_3)), lw_okq q
  exact List.forall_mem_append.mpr ⟨lw_r1, List.forall_mem_append.mpr ⟨lw_r2, lw_r3⟩⟩
end
section
/-! ===== BEGIN words of one list among another's, by their places ===== -/
theorem goodIn_r {big : List Cond} (ws : List Cond) (ps : List Nat) (hp : ws = ps.filterMap (fun i => big[i]?)) (h : ws.all goodWord = true) : GoodIn big ws := by
  intro w hw
  have h1 := List.all_eq_true.mp h w hw
  rw [hp] at hw
  obtain ⟨i, -, hi⟩ := List.mem_filterMap.mp hw
  have hm : w ∈ big := by first | exact List.mem_of_getElem? hi | exact List.getElem?_mem hi
  exact ⟨hm, good_of_word h1⟩
theorem goodIn_app {big a b : List Cond} (ha : GoodIn big a) (hb : GoodIn big b) : GoodIn big (a ++ b) := fun w h => (List.mem_append.mp h).elim (ha w) (hb w)
theorem goodIn_ca {big a b : List Cond} {c : Cond} (ha : GoodIn big (c :: a)) (hb : GoodIn big b) : GoodIn big (c :: (a ++ b)) := fun w h => (List.mem_cons.mp h).elim (fun e => ha w (List.mem_cons.mpr (Or.inl e))) (fun h => (List.mem_append.mp h).elim (fun h => ha w (List.mem_cons.mpr (Or.inr h))) (hb w))
theorem goodIn_sub {big ws : List Cond} (hm : ∀ w ∈ ws, w ∈ big) (h : ws.all goodWord = true) : GoodIn big ws := fun w hw => ⟨hm w hw, good_of_word (List.all_eq_true.mp h w hw)⟩
/-! ===== END ===== -/

/-! ===== BEGIN printed: names, fields, word lists, decode rows ===== -/
def RX0 : String := "TurnClock$Daemons"
def TX0 : u_T := fun k => match k with
  | 0 => ("TurnClock$Daemons", "size", "I", false)
  | 1 => ("TurnClock$Daemons", "deed", "[I", true)
  | _ => ("TurnClock$Daemons", "priority", "[I", true)
def tyX0 : Nat → FieldType := fun k => match k with
  | 0 => .int
  | 1 => .array .int
  | _ => .array .int
abbrev wsX00 : List Cond := u_ws RX0 TX0 3
theorem nmX0 : ∀ a, a < 3 → ∀ b, b < 3 → a ≠ b → (TX0 a).2.1 ≠ (TX0 b).2.1 := by decide +kernel
theorem tyX0_ok : ∀ k, k < 3 → parseFieldDescriptor (TX0 k).2.2.1 = some (tyX0 k) := by decide +kernel
abbrev cX0_init : ByteArray := prog_2_method_1_code
def yX0_init : MethodName := ⟨RX0, "<init>", "()V"⟩
abbrev cX0_addDaemon : ByteArray := prog_2_method_2_code
def yX0_addDaemon : MethodName := ⟨RX0, "addDaemon", "(II)I"⟩
def RX1 : String := "TurnClock$Deeds"
def TX1 : u_T := fun k => match k with
  | 0 => ("TurnClock$Deeds", "size", "I", false)
  | 1 => ("TurnClock$Deeds", "sort", "[I", true)
  | 2 => ("TurnClock$Deeds", "x", "[I", true)
  | 3 => ("TurnClock$Deeds", "y", "[I", true)
  | 4 => ("TurnClock$Deeds", "counter", "[I", true)
  | _ => ("TurnClock$Deeds", "least", "[I", true)
def tyX1 : Nat → FieldType := fun k => match k with
  | 0 => .int
  | 1 => .array .int
  | 2 => .array .int
  | 3 => .array .int
  | 4 => .array .int
  | _ => .array .int
abbrev wsX10 : List Cond := u_ws RX1 TX1 6
theorem nmX1 : ∀ a, a < 6 → ∀ b, b < 6 → a ≠ b → (TX1 a).2.1 ≠ (TX1 b).2.1 := by decide +kernel
theorem tyX1_ok : ∀ k, k < 6 → parseFieldDescriptor (TX1 k).2.2.1 = some (tyX1 k) := by decide +kernel
abbrev cX1_init : ByteArray := prog_3_method_1_code
def yX1_init : MethodName := ⟨RX1, "<init>", "()V"⟩
abbrev cX1_addDeed : ByteArray := prog_3_method_2_code
def yX1_addDeed : MethodName := ⟨RX1, "addDeed", "(III)I"⟩
def RX2 : String := "TurnClock$Events"
def TX2 : u_T := fun k => match k with
  | 0 => ("TurnClock$Events", "size", "I", false)
  | 1 => ("TurnClock$Events", "deed", "[I", true)
  | 2 => ("TurnClock$Events", "minute", "[I", true)
  | 3 => ("TurnClock$Events", "daily", "[Z", true)
  | 4 => ("TurnClock$Events", "due", "[I", true)
  | _ => ("TurnClock$Events", "dueWait", "[I", true)
def tyX2 : Nat → FieldType := fun k => match k with
  | 0 => .int
  | 1 => .array .int
  | 2 => .array .int
  | 3 => .array .boolean
  | 4 => .array .int
  | _ => .array .int
abbrev wsX20 : List Cond := u_ws RX2 TX2 6
theorem nmX2 : ∀ a, a < 6 → ∀ b, b < 6 → a ≠ b → (TX2 a).2.1 ≠ (TX2 b).2.1 := by decide +kernel
theorem tyX2_ok : ∀ k, k < 6 → parseFieldDescriptor (TX2 k).2.2.1 = some (tyX2 k) := by decide +kernel
abbrev cX2_init : ByteArray := prog_4_method_1_code
def yX2_init : MethodName := ⟨RX2, "<init>", "()V"⟩
abbrev cX2_addEvent : ByteArray := prog_4_method_2_code
def yX2_addEvent : MethodName := ⟨RX2, "addEvent", "(IIZ)I"⟩
abbrev cX2_putInOrder : ByteArray := prog_4_method_3_code
def yX2_putInOrder : MethodName := ⟨RX2, "putInOrder", "(III)V"⟩
def RX3 : String := "TurnClock$House"
def TX3 : u_T := fun k => match k with
  | 0 => ("TurnClock$House", "rooms", "I", false)
  | 1 => ("TurnClock$House", "doors", "I", false)
  | 2 => ("TurnClock$House", "walkers", "I", false)
  | 3 => ("TurnClock$House", "oneSide", "[I", true)
  | 4 => ("TurnClock$House", "otherSide", "[I", true)
  | _ => ("TurnClock$House", "distance", "[I", true)
def tyX3 : Nat → FieldType := fun k => match k with
  | 0 => .int
  | 1 => .int
  | 2 => .int
  | 3 => .array .int
  | 4 => .array .int
  | _ => .array .int
abbrev wsX30 : List Cond := u_ws RX3 TX3 6
theorem nmX3 : ∀ a, a < 6 → ∀ b, b < 6 → a ≠ b → (TX3 a).2.1 ≠ (TX3 b).2.1 := by decide +kernel
theorem tyX3_ok : ∀ k, k < 6 → parseFieldDescriptor (TX3 k).2.2.1 = some (tyX3 k) := by decide +kernel
abbrev cX3_init : ByteArray := prog_5_method_1_code
def yX3_init : MethodName := ⟨RX3, "<init>", "()V"⟩
abbrev cX3_addRoom : ByteArray := prog_5_method_2_code
def yX3_addRoom : MethodName := ⟨RX3, "addRoom", "()I"⟩
abbrev cX3_addDoor : ByteArray := prog_5_method_3_code
def yX3_addDoor : MethodName := ⟨RX3, "addDoor", "(II)I"⟩
abbrev cX3_addWalker : ByteArray := prog_5_method_4_code
def yX3_addWalker : MethodName := ⟨RX3, "addWalker", "()I"⟩
abbrev cX3_nextRoom : ByteArray := prog_5_method_5_code
def yX3_nextRoom : MethodName := ⟨RX3, "nextRoom", "(II[Z)I"⟩
abbrev cX3_beyondDoor : ByteArray := prog_5_method_6_code
def yX3_beyondDoor : MethodName := ⟨RX3, "beyondDoor", "(II)I"⟩
abbrev cX3_isNearer : ByteArray := prog_5_method_7_code
def yX3_isNearer : MethodName := ⟨RX3, "isNearer", "(II)Z"⟩
abbrev cX3_measureTo : ByteArray := prog_5_method_8_code
def yX3_measureTo : MethodName := ⟨RX3, "measureTo", "(I[Z)V"⟩
abbrev cX3_spread : ByteArray := prog_5_method_9_code
def yX3_spread : MethodName := ⟨RX3, "spread", "(III)V"⟩
def RX4 : String := "TurnClock$Moment"
def TX4 : u_T := fun k => match k with
  | 0 => ("TurnClock$Moment", "time", "I", false)
  | 1 => ("TurnClock$Moment", "day", "I", false)
  | 2 => ("TurnClock$Moment", "turns", "I", false)
  | 3 => ("TurnClock$Moment", "pace", "I", false)
  | 4 => ("TurnClock$Moment", "skip", "I", false)
  | 5 => ("TurnClock$Moment", "rows", "I", false)
  | 6 => ("TurnClock$Moment", "rowKind", "[I", true)
  | 7 => ("TurnClock$Moment", "rowNumber", "[I", true)
  | 8 => ("TurnClock$Moment", "counters", "[I", true)
  | 9 => ("TurnClock$Moment", "shut", "[Z", true)
  | 10 => ("TurnClock$Moment", "place", "[I", true)
  | 11 => ("TurnClock$Moment", "goal", "[I", true)
  | 12 => ("TurnClock$Moment", "turnsLeft", "[I", true)
  | 13 => ("TurnClock$Moment", "on", "[Z", true)
  | _ => ("TurnClock$Moment", "gone", "[Z", true)
def tyX4 : Nat → FieldType := fun k => match k with
  | 0 => .int
  | 1 => .int
  | 2 => .int
  | 3 => .int
  | 4 => .int
  | 5 => .int
  | 6 => .array .int
  | 7 => .array .int
  | 8 => .array .int
  | 9 => .array .boolean
  | 10 => .array .int
  | 11 => .array .int
  | 12 => .array .int
  | 13 => .array .boolean
  | _ => .array .boolean
abbrev wsX40 : List Cond := u_ws RX4 TX4 15
theorem nmX4 : ∀ a, a < 15 → ∀ b, b < 15 → a ≠ b → (TX4 a).2.1 ≠ (TX4 b).2.1 := by decide +kernel
theorem tyX4_ok : ∀ k, k < 15 → parseFieldDescriptor (TX4 k).2.2.1 = some (tyX4 k) := by decide +kernel
abbrev cX4_init : ByteArray := prog_6_method_1_code
def yX4_init : MethodName := ⟨RX4, "<init>", "()V"⟩
abbrev cX4_goOn : ByteArray := prog_6_method_2_code
def yX4_goOn : MethodName := ⟨RX4, "goOn", "(I)V"⟩
abbrev cX4_growCounter : ByteArray := prog_6_method_3_code
def yX4_growCounter : MethodName := ⟨RX4, "growCounter", "(II)V"⟩
abbrev cX4_addRow : ByteArray := prog_6_method_4_code
def yX4_addRow : MethodName := ⟨RX4, "addRow", "(II)V"⟩
abbrev cX4_copyFrom : ByteArray := prog_6_method_5_code
def yX4_copyFrom : MethodName := ⟨RX4, "copyFrom", "(LTurnClock$Moment;)V"⟩
abbrev cX4_copyFlags : ByteArray := prog_6_method_6_code
def yX4_copyFlags : MethodName := ⟨RX4, "copyFlags", "([Z[Z)V"⟩
def RX5 : String := "TurnClock$Past"
def TX5 : u_T := fun k => match k with
  | 0 => ("TurnClock$Past", "size", "I", false)
  | _ => ("TurnClock$Past", "kept", "[LTurnClock$Moment;", true)
def tyX5 : Nat → FieldType := fun k => match k with
  | 0 => .int
  | _ => .array (.object "TurnClock$Moment")
abbrev wsX50 : List Cond := u_ws RX5 TX5 2
theorem nmX5 : ∀ a, a < 2 → ∀ b, b < 2 → a ≠ b → (TX5 a).2.1 ≠ (TX5 b).2.1 := by decide +kernel
theorem tyX5_ok : ∀ k, k < 2 → parseFieldDescriptor (TX5 k).2.2.1 = some (tyX5 k) := by decide +kernel
abbrev cX5_init : ByteArray := prog_7_method_1_code
def yX5_init : MethodName := ⟨RX5, "<init>", "()V"⟩
abbrev cX5_keep : ByteArray := prog_7_method_2_code
def yX5_keep : MethodName := ⟨RX5, "keep", "(LTurnClock$Moment;)V"⟩
abbrev cX5_dropOldest : ByteArray := prog_7_method_3_code
def yX5_dropOldest : MethodName := ⟨RX5, "dropOldest", "()V"⟩
abbrev cX5_giveBack : ByteArray := prog_7_method_4_code
def yX5_giveBack : MethodName := ⟨RX5, "giveBack", "(LTurnClock$Moment;)V"⟩
def RX6 : String := "TurnClock$Timers"
def TX6 : u_T := fun k => match k with
  | 0 => ("TurnClock$Timers", "size", "I", false)
  | 1 => ("TurnClock$Timers", "deed", "[I", true)
  | 2 => ("TurnClock$Timers", "length", "[I", true)
  | _ => ("TurnClock$Timers", "repeated", "[Z", true)
def tyX6 : Nat → FieldType := fun k => match k with
  | 0 => .int
  | 1 => .array .int
  | 2 => .array .int
  | _ => .array .boolean
abbrev wsX60 : List Cond := u_ws RX6 TX6 4
theorem nmX6 : ∀ a, a < 4 → ∀ b, b < 4 → a ≠ b → (TX6 a).2.1 ≠ (TX6 b).2.1 := by decide +kernel
theorem tyX6_ok : ∀ k, k < 4 → parseFieldDescriptor (TX6 k).2.2.1 = some (tyX6 k) := by decide +kernel
abbrev cX6_init : ByteArray := prog_8_method_1_code
def yX6_init : MethodName := ⟨RX6, "<init>", "()V"⟩
abbrev cX6_addTimer : ByteArray := prog_8_method_2_code
def yX6_addTimer : MethodName := ⟨RX6, "addTimer", "(IIZ)I"⟩
def RX7 : String := "TurnClock"
def TX7 : u_T := fun k => match k with
  | 0 => ("TurnClock", "house", "LTurnClock$House;", true)
  | 1 => ("TurnClock", "deeds", "LTurnClock$Deeds;", true)
  | 2 => ("TurnClock", "events", "LTurnClock$Events;", true)
  | 3 => ("TurnClock", "timers", "LTurnClock$Timers;", true)
  | 4 => ("TurnClock", "daemons", "LTurnClock$Daemons;", true)
  | 5 => ("TurnClock", "now", "LTurnClock$Moment;", true)
  | 6 => ("TurnClock", "past", "LTurnClock$Past;", true)
  | 7 => ("TurnClock", "startedSince", "[Z", true)
  | _ => ("TurnClock", "ended", "Z", false)
def tyX7 : Nat → FieldType := fun k => match k with
  | 0 => .object "TurnClock$House"
  | 1 => .object "TurnClock$Deeds"
  | 2 => .object "TurnClock$Events"
  | 3 => .object "TurnClock$Timers"
  | 4 => .object "TurnClock$Daemons"
  | 5 => .object "TurnClock$Moment"
  | 6 => .object "TurnClock$Past"
  | 7 => .array .boolean
  | _ => .boolean
abbrev wsX70 : List Cond := u_ws RX7 TX7 9
theorem nmX7 : ∀ a, a < 9 → ∀ b, b < 9 → a ≠ b → (TX7 a).2.1 ≠ (TX7 b).2.1 := by decide +kernel
theorem tyX7_ok : ∀ k, k < 9 → parseFieldDescriptor (TX7 k).2.2.1 = some (tyX7 k) := by decide +kernel
abbrev cX7_init : ByteArray := prog_1_method_1_code
def yX7_init : MethodName := ⟨RX7, "<init>", "()V"⟩
abbrev cX7_room : ByteArray := prog_1_method_2_code
def yX7_room : MethodName := ⟨RX7, "room", "()I"⟩
abbrev cX7_door : ByteArray := prog_1_method_3_code
def yX7_door : MethodName := ⟨RX7, "door", "(II)I"⟩
abbrev cX7_walker : ByteArray := prog_1_method_4_code
def yX7_walker : MethodName := ⟨RX7, "walker", "(I)I"⟩
abbrev cX7_deed : ByteArray := prog_1_method_5_code
def yX7_deed : MethodName := ⟨RX7, "deed", "(III)I"⟩
abbrev cX7_condition : ByteArray := prog_1_method_6_code
def yX7_condition : MethodName := ⟨RX7, "condition", "(III)I"⟩
abbrev cX7_event : ByteArray := prog_1_method_7_code
def yX7_event : MethodName := ⟨RX7, "event", "(IIZ)I"⟩
abbrev cX7_timer : ByteArray := prog_1_method_8_code
def yX7_timer : MethodName := ⟨RX7, "timer", "(IIZ)I"⟩
abbrev cX7_daemon : ByteArray := prog_1_method_9_code
def yX7_daemon : MethodName := ⟨RX7, "daemon", "(II)I"⟩
abbrev cX7_act : ByteArray := prog_1_method_10_code
def yX7_act : MethodName := ⟨RX7, "act", "(I)I"⟩
abbrev cX7_pace : ByteArray := prog_1_method_11_code
def yX7_pace : MethodName := ⟨RX7, "pace", "(I)I"⟩
abbrev cX7_turn : ByteArray := prog_1_method_12_code
def yX7_turn : MethodName := ⟨RX7, "turn", "()I"⟩
abbrev cX7_back : ByteArray := prog_1_method_13_code
def yX7_back : MethodName := ⟨RX7, "back", "()I"⟩
abbrev cX7_told : ByteArray := prog_1_method_14_code
def yX7_told : MethodName := ⟨RX7, "told", "(I)I"⟩
abbrev cX7_count : ByteArray := prog_1_method_15_code
def yX7_count : MethodName := ⟨RX7, "count", "(I)I"⟩
abbrev cX7_counter : ByteArray := prog_1_method_16_code
def yX7_counter : MethodName := ⟨RX7, "counter", "(I)I"⟩
abbrev cX7_left : ByteArray := prog_1_method_17_code
def yX7_left : MethodName := ⟨RX7, "left", "(I)I"⟩
abbrev cX7_is : ByteArray := prog_1_method_18_code
def yX7_is : MethodName := ⟨RX7, "is", "(II)I"⟩
abbrev cX7_walks : ByteArray := prog_1_method_19_code
def yX7_walks : MethodName := ⟨RX7, "walks", "(II)I"⟩
abbrev cX7_way : ByteArray := prog_1_method_20_code
def yX7_way : MethodName := ⟨RX7, "way", "(II)I"⟩
abbrev cX7_row : ByteArray := prog_1_method_21_code
def yX7_row : MethodName := ⟨RX7, "row", "(II)I"⟩
abbrev cX7_minutes : ByteArray := prog_1_method_22_code
def yX7_minutes : MethodName := ⟨RX7, "minutes", "(I)I"⟩
abbrev cX7_isThere : ByteArray := prog_1_method_23_code
def yX7_isThere : MethodName := ⟨RX7, "isThere", "(II)Z"⟩
abbrev cX7_isWithin : ByteArray := prog_1_method_24_code
def yX7_isWithin : MethodName := ⟨RX7, "isWithin", "(III)Z"⟩
abbrev cX7_isCounter : ByteArray := prog_1_method_25_code
def yX7_isCounter : MethodName := ⟨RX7, "isCounter", "(I)Z"⟩
abbrev cX7_isCounterValue : ByteArray := prog_1_method_26_code
def yX7_isCounterValue : MethodName := ⟨RX7, "isCounterValue", "(I)Z"⟩
abbrev cX7_asNumber : ByteArray := prog_1_method_27_code
def yX7_asNumber : MethodName := ⟨RX7, "asNumber", "(Z)I"⟩
abbrev cX7_closePast : ByteArray := prog_1_method_28_code
def yX7_closePast : MethodName := ⟨RX7, "closePast", "(I)I"⟩
abbrev cX7_minutesUntil : ByteArray := prog_1_method_29_code
def yX7_minutesUntil : MethodName := ⟨RX7, "minutesUntil", "(I)I"⟩
abbrev cX7_bringEvents : ByteArray := prog_1_method_30_code
def yX7_bringEvents : MethodName := ⟨RX7, "bringEvents", "()V"⟩
abbrev cX7_lineUpEvents : ByteArray := prog_1_method_31_code
def yX7_lineUpEvents : MethodName := ⟨RX7, "lineUpEvents", "(I)I"⟩
abbrev cX7_bringEvent : ByteArray := prog_1_method_32_code
def yX7_bringEvent : MethodName := ⟨RX7, "bringEvent", "(I)V"⟩
abbrev cX7_runTimers : ByteArray := prog_1_method_33_code
def yX7_runTimers : MethodName := ⟨RX7, "runTimers", "()V"⟩
abbrev cX7_runTimer : ByteArray := prog_1_method_34_code
def yX7_runTimer : MethodName := ⟨RX7, "runTimer", "(I)V"⟩
abbrev cX7_runDaemons : ByteArray := prog_1_method_35_code
def yX7_runDaemons : MethodName := ⟨RX7, "runDaemons", "()V"⟩
abbrev cX7_runDaemonsOf : ByteArray := prog_1_method_36_code
def yX7_runDaemonsOf : MethodName := ⟨RX7, "runDaemonsOf", "(I)V"⟩
abbrev cX7_moveWalkers : ByteArray := prog_1_method_37_code
def yX7_moveWalkers : MethodName := ⟨RX7, "moveWalkers", "()V"⟩
abbrev cX7_moveWalker : ByteArray := prog_1_method_38_code
def yX7_moveWalker : MethodName := ⟨RX7, "moveWalker", "(I)V"⟩
abbrev cX7_doDeed : ByteArray := prog_1_method_39_code
def yX7_doDeed : MethodName := ⟨RX7, "doDeed", "(I)Z"⟩
abbrev cX7_carryOut : ByteArray := prog_1_method_40_code
def yX7_carryOut : MethodName := ⟨RX7, "carryOut", "(III)V"⟩
abbrev cX7_startTimer : ByteArray := prog_1_method_41_code
def yX7_startTimer : MethodName := ⟨RX7, "startTimer", "(I)V"⟩
abbrev cX7_stopTimer : ByteArray := prog_1_method_42_code
def yX7_stopTimer : MethodName := ⟨RX7, "stopTimer", "(I)V"⟩
abbrev cX7_switchDaemon : ByteArray := prog_1_method_43_code
def yX7_switchDaemon : MethodName := ⟨RX7, "switchDaemon", "(IZ)V"⟩
abbrev cX7_turnDoor : ByteArray := prog_1_method_44_code
def yX7_turnDoor : MethodName := ⟨RX7, "turnDoor", "(I)V"⟩
abbrev cX7_giveGoal : ByteArray := prog_1_method_45_code
def yX7_giveGoal : MethodName := ⟨RX7, "giveGoal", "(II)V"⟩
def RX8 : String := "TurnClockModel"
def TX8 : u_T := fun k => match k with
  | 0 => ("TurnClockModel", "now", "[I", true)
  | 1 => ("TurnClockModel", "before", "[I", true)
  | 2 => ("TurnClockModel", "many", "I", false)
  | 3 => ("TurnClockModel", "pace", "I", false)
  | 4 => ("TurnClockModel", "rooms", "I", false)
  | 5 => ("TurnClockModel", "doors", "I", false)
  | 6 => ("TurnClockModel", "doorFrom", "[I", true)
  | 7 => ("TurnClockModel", "doorTo", "[I", true)
  | 8 => ("TurnClockModel", "walkers", "I", false)
  | 9 => ("TurnClockModel", "deeds", "I", false)
  | 10 => ("TurnClockModel", "sorts", "[I", true)
  | 11 => ("TurnClockModel", "xs", "[I", true)
  | 12 => ("TurnClockModel", "ys", "[I", true)
  | 13 => ("TurnClockModel", "conditions", "[I", true)
  | 14 => ("TurnClockModel", "least", "[I", true)
  | 15 => ("TurnClockModel", "events", "I", false)
  | 16 => ("TurnClockModel", "eventDeeds", "[I", true)
  | 17 => ("TurnClockModel", "eventMinutes", "[I", true)
  | 18 => ("TurnClockModel", "eventDaily", "[Z", true)
  | 19 => ("TurnClockModel", "timers", "I", false)
  | 20 => ("TurnClockModel", "timerDeeds", "[I", true)
  | 21 => ("TurnClockModel", "timerLengths", "[I", true)
  | 22 => ("TurnClockModel", "timerAgain", "[Z", true)
  | 23 => ("TurnClockModel", "daemons", "I", false)
  | 24 => ("TurnClockModel", "daemonDeeds", "[I", true)
  | 25 => ("TurnClockModel", "priorities", "[I", true)
  | 26 => ("TurnClockModel", "isTurn", "Z", false)
  | 27 => ("TurnClockModel", "ended", "Z", false)
  | 28 => ("TurnClockModel", "done", "I", false)
  | 29 => ("TurnClockModel", "started", "[Z", true)
  | 30 => ("TurnClockModel", "runs", "[Z", true)
  | _ => ("TurnClockModel", "far", "[I", true)
def tyX8 : Nat → FieldType := fun k => match k with
  | 0 => .array .int
  | 1 => .array .int
  | 2 => .int
  | 3 => .int
  | 4 => .int
  | 5 => .int
  | 6 => .array .int
  | 7 => .array .int
  | 8 => .int
  | 9 => .int
  | 10 => .array .int
  | 11 => .array .int
  | 12 => .array .int
  | 13 => .array .int
  | 14 => .array .int
  | 15 => .int
  | 16 => .array .int
  | 17 => .array .int
  | 18 => .array .boolean
  | 19 => .int
  | 20 => .array .int
  | 21 => .array .int
  | 22 => .array .boolean
  | 23 => .int
  | 24 => .array .int
  | 25 => .array .int
  | 26 => .boolean
  | 27 => .boolean
  | 28 => .int
  | 29 => .array .boolean
  | 30 => .array .boolean
  | _ => .array .int
abbrev wsX80 : List Cond := u_ws RX8 TX8 32
theorem nmX8 : ∀ a, a < 32 → ∀ b, b < 32 → a ≠ b → (TX8 a).2.1 ≠ (TX8 b).2.1 := by decide +kernel
theorem tyX8_ok : ∀ k, k < 32 → parseFieldDescriptor (TX8 k).2.2.1 = some (tyX8 k) := by decide +kernel
abbrev cX8_init : ByteArray := prog_10_method_1_code
def yX8_init : MethodName := ⟨RX8, "<init>", "()V"⟩
abbrev cX8_in : ByteArray := prog_10_method_3_code
def yX8_in : MethodName := ⟨RX8, "in", "(III)Z"⟩
abbrev cX8_isOf : ByteArray := prog_10_method_4_code
def yX8_isOf : MethodName := ⟨RX8, "isOf", "(II)Z"⟩
abbrev cX8_changed : ByteArray := prog_10_method_5_code
def yX8_changed : MethodName := ⟨RX8, "changed", "(I)I"⟩
abbrev cX8_room : ByteArray := prog_10_method_6_code
def yX8_room : MethodName := ⟨RX8, "room", "()I"⟩
abbrev cX8_door : ByteArray := prog_10_method_7_code
def yX8_door : MethodName := ⟨RX8, "door", "(II)I"⟩
abbrev cX8_walker : ByteArray := prog_10_method_8_code
def yX8_walker : MethodName := ⟨RX8, "walker", "(I)I"⟩
abbrev cX8_deed : ByteArray := prog_10_method_9_code
def yX8_deed : MethodName := ⟨RX8, "deed", "(III)I"⟩
abbrev cX8_condition : ByteArray := prog_10_method_10_code
def yX8_condition : MethodName := ⟨RX8, "condition", "(III)I"⟩
abbrev cX8_event : ByteArray := prog_10_method_11_code
def yX8_event : MethodName := ⟨RX8, "event", "(IIZ)I"⟩
abbrev cX8_timer : ByteArray := prog_10_method_12_code
def yX8_timer : MethodName := ⟨RX8, "timer", "(IIZ)I"⟩
abbrev cX8_daemon : ByteArray := prog_10_method_13_code
def yX8_daemon : MethodName := ⟨RX8, "daemon", "(II)I"⟩
abbrev cX8_bound : ByteArray := prog_10_method_14_code
def yX8_bound : MethodName := ⟨RX8, "bound", "(III)I"⟩
abbrev cX8_holds : ByteArray := prog_10_method_15_code
def yX8_holds : MethodName := ⟨RX8, "holds", "(I)Z"⟩
abbrev cX8_perform : ByteArray := prog_10_method_16_code
def yX8_perform : MethodName := ⟨RX8, "perform", "(I)V"⟩
abbrev cX8_act : ByteArray := prog_10_method_17_code
def yX8_act : MethodName := ⟨RX8, "act", "(I)I"⟩
abbrev cX8_pace : ByteArray := prog_10_method_18_code
def yX8_pace : MethodName := ⟨RX8, "pace", "(I)I"⟩
abbrev cX8_tell : ByteArray := prog_10_method_19_code
def yX8_tell : MethodName := ⟨RX8, "tell", "(II)V"⟩
abbrev cX8_goTime : ByteArray := prog_10_method_20_code
def yX8_goTime : MethodName := ⟨RX8, "goTime", "()V"⟩
abbrev cX8_goTimers : ByteArray := prog_10_method_21_code
def yX8_goTimers : MethodName := ⟨RX8, "goTimers", "()V"⟩
abbrev cX8_goDaemons : ByteArray := prog_10_method_22_code
def yX8_goDaemons : MethodName := ⟨RX8, "goDaemons", "()V"⟩
abbrev cX8_findWays : ByteArray := prog_10_method_23_code
def yX8_findWays : MethodName := ⟨RX8, "findWays", "(I)V"⟩
abbrev cX8_step : ByteArray := prog_10_method_24_code
def yX8_step : MethodName := ⟨RX8, "step", "(II)V"⟩
abbrev cX8_isJoined : ByteArray := prog_10_method_25_code
def yX8_isJoined : MethodName := ⟨RX8, "isJoined", "(II)Z"⟩
abbrev cX8_goWalkers : ByteArray := prog_10_method_26_code
def yX8_goWalkers : MethodName := ⟨RX8, "goWalkers", "()V"⟩
abbrev cX8_turn : ByteArray := prog_10_method_27_code
def yX8_turn : MethodName := ⟨RX8, "turn", "()I"⟩
abbrev cX8_back : ByteArray := prog_10_method_28_code
def yX8_back : MethodName := ⟨RX8, "back", "()I"⟩
abbrev cX8_told : ByteArray := prog_10_method_29_code
def yX8_told : MethodName := ⟨RX8, "told", "(I)I"⟩
abbrev cX8_count : ByteArray := prog_10_method_30_code
def yX8_count : MethodName := ⟨RX8, "count", "(I)I"⟩
abbrev cX8_counter : ByteArray := prog_10_method_31_code
def yX8_counter : MethodName := ⟨RX8, "counter", "(I)I"⟩
abbrev cX8_left : ByteArray := prog_10_method_32_code
def yX8_left : MethodName := ⟨RX8, "left", "(I)I"⟩
abbrev cX8_is : ByteArray := prog_10_method_33_code
def yX8_is : MethodName := ⟨RX8, "is", "(II)I"⟩
abbrev cX8_walks : ByteArray := prog_10_method_34_code
def yX8_walks : MethodName := ⟨RX8, "walks", "(II)I"⟩
abbrev cX8_way : ByteArray := prog_10_method_35_code
def yX8_way : MethodName := ⟨RX8, "way", "(II)I"⟩
abbrev cX8_row : ByteArray := prog_10_method_36_code
def yX8_row : MethodName := ⟨RX8, "row", "(II)I"⟩
abbrev cX8_minutes : ByteArray := prog_10_method_37_code
def yX8_minutes : MethodName := ⟨RX8, "minutes", "(I)I"⟩
def RJ9 : String := "java/lang/Math"
def TJ9 : u_T := fun k => match k with
  | _ => ("", "", "", false)
def tyJ9 : Nat → FieldType := fun k => match k with
  | _ => .int
abbrev wsJ90 : List Cond := u_ws RJ9 TJ9 0
theorem nmJ9 : ∀ a, a < 0 → ∀ b, b < 0 → a ≠ b → (TJ9 a).2.1 ≠ (TJ9 b).2.1 := by decide +kernel
theorem tyJ9_ok : ∀ k, k < 0 → parseFieldDescriptor (TJ9 k).2.2.1 = some (tyJ9 k) := by decide +kernel
abbrev cJ9_max_7cf53 : ByteArray := prog_11_method_65_code
def yJ9_max_7cf53 : MethodName := ⟨RJ9, "max", "(II)I"⟩
abbrev cJ9_min_7cf53 : ByteArray := prog_11_method_69_code
def yJ9_min_7cf53 : MethodName := ⟨RJ9, "min", "(II)I"⟩
def RJ10 : String := "java/lang/System"
def TJ10 : u_T := fun k => match k with
  | _ => ("", "", "", false)
def tyJ10 : Nat → FieldType := fun k => match k with
  | _ => .int
abbrev wsJ100 : List Cond := u_ws RJ10 TJ10 0
theorem nmJ10 : ∀ a, a < 0 → ∀ b, b < 0 → a ≠ b → (TJ10 a).2.1 ≠ (TJ10 b).2.1 := by decide +kernel
theorem tyJ10_ok : ∀ k, k < 0 → parseFieldDescriptor (TJ10 k).2.2.1 = some (tyJ10 k) := by decide +kernel
def RL : String := "TurnClockLaw"
abbrev cL_law : ByteArray := code
def yL_law : MethodName := ⟨RL, "law", "([I)Z"⟩
abbrev vwCl : List vw_C := [(RX0, TX0, 3), (RX1, TX1, 6), (RX2, TX2, 6), (RX3, TX3, 6), (RX4, TX4, 15), (RX5, TX5, 2), (RX6, TX6, 4), (RX7, TX7, 9), (RX8, TX8, 32)]
end
section
/-! ===== a world of fixed shape: its cells are numbered, its numbers are one function; a walk is tied to a pure function step by step ===== -/
def z_TB : List Cond := lw_tbl.filter goodWord
abbrev zS : Type := Nat → Nat → Int32
abbrev zL : Type := (Nat × Nat) ⊕ (Nat × List (Option Nat))
def zs (σ : zS) (k j : Nat) (v : Int32) : zS := va_up σ k (upd (σ k) j v)
def z_mo (x : Nat) : Nat := 27 + 10 * x
def z_fs (ad : Nat → Nat) (f : Nat → Int32) : Nat → List (Option Nat) → List Value
  | _, [] => []
  | j, none :: l => .int (f j) :: z_fs ad f (j + 1) l
  | j, some c :: l => .ref (ad c) :: z_fs ad f (j + 1) l
def z_en (ad : Nat → Nat) (cA : Nat → ClassId) (y : zL) (f : Nat → Int32) : va_E := match y with
  | .inl (2, n) => .inl (cA 2, n, .inr (.inr (.inr (.inr (fun j => some (ad (z_mo (f j).toNatClampNeg)))))))
  | .inl (t, n) => .inl (cA t, n, .inl f)
  | .inr (ci, fl) => .inr (ci, z_fs ad f 0 fl)
def z_wd (lay : Nat → zL) (n : Nat) (ad : Nat → Nat) (cA : Nat → ClassId) (σ : zS) : va_W := (List.range n).map (fun k => (ad k, z_en ad cA (lay k) (σ k)))
theorem z_fs_get (ad : Nat → Nat) (f : Nat → Int32) : ∀ (fl : List (Option Nat)) (j k : Nat), (z_fs ad f j fl)[k]? = (fl[k]?).map (fun o => match o with | none => .int (f (j + k)) | some c => .ref (ad c))
  | [], j, k => by simp [z_fs]
  | none :: l, j, 0 => by simp [z_fs]
  | some c :: l, j, 0 => by simp [z_fs]
  | none :: l, j, k + 1 => by
    simp only [z_fs, List.getElem?_cons_succ]
    rw [z_fs_get ad f l (j + 1) k]
    simp only [Nat.add_assoc, Nat.add_comm 1 k]
  | some c :: l, j, k + 1 => by
    simp only [z_fs, List.getElem?_cons_succ]
    rw [z_fs_get ad f l (j + 1) k]
    simp only [Nat.add_assoc, Nat.add_comm 1 k]
theorem z_fs_len (ad : Nat → Nat) (f : Nat → Int32) : ∀ (fl : List (Option Nat)) (j : Nat), (z_fs ad f j fl).length = fl.length
  | [], _ => rfl
  | none :: l, j => by simp [z_fs, z_fs_len ad f l (j + 1)]
  | some c :: l, j => by simp [z_fs, z_fs_len ad f l (j + 1)]
theorem z_fs_set (ad : Nat → Nat) (f : Nat → Int32) (fl : List (Option Nat)) (k : Nat) (x : Int32) (h : fl[k]? = some none) : (z_fs ad f 0 fl).set k (.int x) = z_fs ad (upd f k x) 0 fl := by
  apply List.ext_getElem?
  intro i
  by_cases hi : i = k
  · subst hi
    have hl := (List.getElem?_eq_some_iff.mp h).1
    rw [List.getElem?_set_self (by rw [z_fs_len]; exact hl), z_fs_get, h]
    simp [upd]
  · rw [List.getElem?_set_ne (fun q => hi q.symm), z_fs_get, z_fs_get]
    cases fl[i]? with
    | none => rfl
    | some o =>
      cases o with
      | none => simp [upd, hi]
      | some c => rfl
theorem z_wd_len {lay : Nat → zL} {n : Nat} {ad : Nat → Nat} {cA : Nat → ClassId} {σ : zS} : (z_wd lay n ad cA σ).length = n := by simp [z_wd]
theorem z_wd_get {lay : Nat → zL} {n : Nat} {ad : Nat → Nat} {cA : Nat → ClassId} {σ : zS} {W0 : va_W} {k : Nat} (h : k < n) : (z_wd lay n ad cA σ ++ W0)[k]? = some (ad k, z_en ad cA (lay k) (σ k)) := by
  rw [List.getElem?_append_left (by rw [z_wd_len]; exact h)]
  simp [z_wd, h]
theorem z_wd_set {lay : Nat → zL} {n : Nat} {ad : Nat → Nat} {cA : Nat → ClassId} {σ : zS} {W0 : va_W} {k : Nat} (h : k < n) {f : Nat → Int32} : (z_wd lay n ad cA σ ++ W0).set k (ad k, z_en ad cA (lay k) f) = z_wd lay n ad cA (va_up σ k f) ++ W0 := by
  apply List.ext_getElem?
  intro i
  by_cases hi : i = k
  · subst hi
    rw [List.getElem?_set_self (by rw [List.length_append, z_wd_len]; omega), z_wd_get h, va_up_self]
  · rw [List.getElem?_set_ne (fun q => hi q.symm)]
    by_cases hn : i < n
    · rw [z_wd_get hn, z_wd_get hn, va_up_ne _ _ hi]
    · rw [List.getElem?_append_right (by rw [z_wd_len]; omega), List.getElem?_append_right (by rw [z_wd_len]; omega), z_wd_len, z_wd_len]
/-- the locals, by their places -/
def z_h (ls : Array Slot) (nL : Nat) (lv : List (Option Value)) : Prop := ls.size = nL ∧ lv_wf ls ∧ ∀ (i : Nat) (v : Value), lv[i]? = some (some v) → ls[i]? = some (.val v) ∧ v.category = 1
def z_pr (lv : List (Option Value)) : List (Nat × Value) := (List.range lv.length).filterMap (fun i => (lv[i]?).bind (fun o => o.map (fun v => (i, v))))
theorem z_pr_mem {lv : List (Option Value)} {i : Nat} {v : Value} : (i, v) ∈ z_pr lv ↔ lv[i]? = some (some v) := by
  constructor
  · intro h
    obtain ⟨k, -, hk⟩ := List.mem_filterMap.mp h
    cases ho : lv[k]? with
    | none => rw [ho] at hk; cases hk
    | some o =>
      cases o with
      | none => rw [ho] at hk; cases hk
      | some w =>
        rw [ho] at hk
        cases hk
        exact ho
  · intro h
    refine List.mem_filterMap.mpr ⟨i, List.mem_range.mpr (List.getElem?_eq_some_iff.mp h).1, ?_⟩
    rw [h]
    rfl
theorem z_h_has {ls : Array Slot} {nL : Nat} {lv : List (Option Value)} (h : z_h ls nL lv) : lv_has ls nL (z_pr lv) := ⟨h.1, h.2.1, fun q hq => (h.2.2 q.1 q.2 (z_pr_mem.mp hq)).1⟩
theorem z_h_set {ls' : Array Slot} {nL i : Nat} {lv : List (Option Value)} {v : Value} {ls : Array Slot} (h0 : z_h ls nL lv) (hc : v.category = 1) (h : lv_has ls' nL ((i, v) :: (z_pr lv).filter (fun q => !(q.1 == i) && !(q.1 + 1 == i && q.2.category == 2)))) : z_h ls' nL (lv.set i (some v)) := by
  refine ⟨h.1, h.2.1, fun j w hj => ?_⟩
  by_cases hji : j = i
  · subst hji
    have hl : j < lv.length := by
      have := (List.getElem?_eq_some_iff.mp hj).1
      rwa [List.length_set] at this
    rw [List.getElem?_set_self hl] at hj
    have e : v = w := Option.some.inj (Option.some.inj hj)
    subst e
    exact ⟨h.2.2 (j, v) List.mem_cons_self, hc⟩
  · rw [List.getElem?_set_ne (fun q => hji q.symm)] at hj
    have hw := (h0.2.2 j w hj).2
    refine ⟨h.2.2 (j, w) (List.mem_cons_of_mem _ (List.mem_filter.mpr ⟨z_pr_mem.mpr hj, ?_⟩)), hw⟩
    simp [hji, hw]
def z_keep (ks : List Nat) (lv : List (Option Value)) : List (Option Value) := ks.foldl (fun l k => l.set k none) lv
theorem z_h_none {ls : Array Slot} {nL : Nat} {lv : List (Option Value)} (h : z_h ls nL lv) (k : Nat) : z_h ls nL (lv.set k none) := by
  refine ⟨h.1, h.2.1, fun i v hi => ?_⟩
  by_cases hik : i = k
  · subst hik
    have hl : i < lv.length := by
      have := (List.getElem?_eq_some_iff.mp hi).1
      rwa [List.length_set] at this
    rw [List.getElem?_set_self hl] at hi
    cases hi
  · rw [List.getElem?_set_ne (fun q => hik q.symm)] at hi
    exact h.2.2 i v hi
theorem z_h_keep {ls : Array Slot} {nL : Nat} : ∀ (ks : List Nat) {lv : List (Option Value)}, z_h ls nL lv → z_h ls nL (z_keep ks lv)
  | [], _, h => h
  | k :: ks, lv, h => z_h_keep ks (lv := lv.set k none) (z_h_none h k)
/-- the state of a walk that doesn't change -/
abbrev zG : Type := Program × Launch × Env × Room × State × MethodId × Array Value × List Frame × Method × Code × (Nat → ClassId) × va_G × va_W × Nat
def z_ty (cA : Nat → ClassId) : List (ClassId × FieldType) := [(cA 0, .int), (cA 1, .boolean), (cA 2, .object "TurnClock$Moment")]
def z_nest : List (String × Nat × MethodName × String) := [("TurnClock$Moment", 50, ⟨"TurnClock", "isCounter", "(I)Z"⟩, "TurnClock")]
def z_N (U : State) : Prop := ∀ q ∈ z_nest, va_Nw (.methodLinkNest q.1 q.2.1 q.2.2.1 q.2.2.2) U
theorem z_N_warm {s U : State} (hW : s.WarmedH U.vm) (h : z_N s) : z_N U := fun q hq => (h q hq).warmM hW
def z_B (lay : Nat → zL) (n : Nat) (ad : Nat → Nat) (cA : Nat → ClassId) (D : va_G) (W0 : va_W) (lo : Nat) (σ : zS) (U : State) : Prop := va_P D vwCl (z_wd lay n ad cA σ ++ W0) U.heap ∧ va_K D vwCl (z_ty cA) U ∧ z_N U ∧ ∀ σ', va_D (fun q => lo ≤ q) (z_wd lay n ad cA σ' ++ W0)
def z_Qc (ret : Option FieldType) (lay : Nat → zL) (n : Nat) (ad : Nat → Nat) (cA : Nat → ClassId) (D : va_G) (W0 : va_W) (lo : Nat) (out : Int32 × zS) : Array Value → State → Outcome → State → Prop := match ret with
  | none => va_Qv (fun u => u = out.2) (z_B lay n ad cA D W0 lo) (fun q => lo ≤ q)
  | some _ => va_Qi (fun r u => (r, u) = out) (z_B lay n ad cA D W0 lo) (fun q => lo ≤ q)
def zX (Γ : zG) (lay : Nat → zL) (n : Nat) (ad : Nat → Nat) (cc : ByteArray) (own : String) (nL : Nat) (rm : Room) (ret : Option FieldType) : Prop := match Γ with
  | (p, l, e, R, s, m, args, below, meth, c, cA, D, W0, lo) => p.tables.exec = Jvm.exec ∧ c.code = cc ∧ c.maxLocals = nL ∧ s.vm.findClass own = some m.cls ∧ (∀ w ∈ z_TB, w.before args s = true) ∧ va_K D vwCl (z_ty cA) s ∧ z_N s ∧ (∀ σ', va_D (fun q => lo ≤ q) (z_wd lay n ad cA σ' ++ W0)) ∧ R = rm ∧ meth.sig.returnType = ret ∧ meth.locks = false
def zZ (Γ : zG) (lay : Nat → zL) (n : Nat) (ad : Nat → Nat) (nL : Nat) (ret : Option FieldType) (pc : Nat) (lv : List (Option Value)) (st : List Value) (σ : zS) (o : Option (Int32 × zS)) : Prop := match Γ with
  | (p, l, e, R, s, m, args, below, meth, c, cA, D, W0, lo) => ∀ out, o = some out → ∀ (ls : Array Slot) (H : Heap) (locs : List Loc), z_h ls nL lv → va_P D vwCl (z_wd lay n ad cA σ ++ W0) H → va_S (fun q => lo ≤ q) s.heap H locs →
    W p l e R s m args below meth c H locs 0 0 (MQ below (z_Qc ret lay n ad cA D W0 lo out) args s 0 0 (fun q => lo ≤ q)) (F0 m pc ls st)
def zK (Γ : zG) (lay : Nat → zL) (n : Nat) (ad : Nat → Nat) (nL : Nat) (ret : Option FieldType) (pc : Nat) (lv : List (Option Value)) (st : List Value) (σ : zS) {α : Type} (e : Option α) (K : α → Option (Int32 × zS)) : Prop := zZ Γ lay n ad nL ret pc lv st σ (e.bind K)
/-- a method's contract, for every place of its world, beside any other cells -/
def zM (lay : Nat → zL) (n : Nat) (y : MethodName) (cd : ByteArray) (mL : Nat) (ret : Option FieldType) (rm : Room) (av : (Nat → Nat) → List Value) (f : zS → Option (Int32 × zS)) : Prop :=
  ∀ (l : Launch) (ad : Nat → Nat) (cA : Nat → ClassId) (D : va_G) (W0 : va_W) (lo : Nat) (σ : zS) (out : Int32 × zS), f σ = some out →
    Met l y (.code y cd mL ret :: z_TB) rm (va_Pc (av ad) (z_B lay n ad cA D W0 lo σ)) (z_Qc ret lay n ad cA D W0 lo out) 0 0 (fun q => lo ≤ q)
def z_lv (vs : List Value) (mL : Nat) : List (Option Value) := vs.map some ++ List.replicate (mL - vs.length) none
end
section
theorem z_TB_in {w : Cond} (h : w ∈ z_TB) : w ∈ lw_tbl := (List.mem_filter.mp h).1
theorem z_TB_good {w : Cond} (h : w ∈ z_TB) : goodWord w = true := (List.mem_filter.mp h).2
theorem z_good {y : Cond} (h : y ∈ z_TB) : GoodIn z_TB (y :: z_TB) := fun w hw => by
  rcases List.mem_cons.mp hw with rfl | hw
  · exact ⟨h, good_of_word (z_TB_good h)⟩
  · exact ⟨hw, good_of_word (z_TB_good hw)⟩
theorem z_args_mem : ∀ (vs : List Value) (i j : Nat) (v : Value), (∀ w ∈ vs, w.category = 1) → vs[j]? = some v → (i + j, v) ∈ lv_args i vs
  | [], i, j, v, _, h => by simp at h
  | w :: vs, i, 0, v, hc, h => by
    have e : w = v := by simpa using h
    subst e
    simp [lv_args]
  | w :: vs, i, j + 1, v, hc, h => by
    have hw : w.category = 1 := hc w List.mem_cons_self
    have h2 : ¬ w.category = 2 := by omega
    rw [List.getElem?_cons_succ] at h
    have := z_args_mem vs (i + 1) j v (fun x hx => hc x (List.mem_cons_of_mem _ hx)) h
    simp only [lv_args, h2, if_false]
    exact List.mem_cons_of_mem _ (by rw [show i + (j + 1) = i + 1 + j by omega]; exact this)
theorem z_sl_len : ∀ (vs : List Value), (∀ w ∈ vs, w.category = 1) → (lg_sl vs).length = vs.length
  | [], _ => rfl
  | w :: vs, hc => by
    have hw : w.category = 1 := hc w List.mem_cons_self
    have := z_sl_len vs (fun x hx => hc x (List.mem_cons_of_mem _ hx))
    simp [lg_sl] at this ⊢
    simp [hw, this]
    omega
theorem z_h_entry {vs : List Value} {mL : Nat} (hc : ∀ w ∈ vs, w.category = 1) (hl : vs.length ≤ mL) : z_h ((lg_sl vs ++ List.replicate (mL - (lg_sl vs).length) Slot.unset).toArray) mL (z_lv vs mL) := by
  have h := lv_entry vs (n := mL) (by rw [z_sl_len vs hc]; exact hl)
  refine ⟨h.1, h.2.1, fun i v hi => ?_⟩
  have hi2 : vs[i]? = some v := by
    unfold z_lv at hi
    by_cases hlt : i < vs.length
    · rw [List.getElem?_append_left (by rw [List.length_map]; exact hlt), List.getElem?_map] at hi
      cases hv : vs[i]? with
      | none => rw [hv] at hi; cases hi
      | some w => rw [hv] at hi; exact congrArg some (Option.some.inj (Option.some.inj hi))
    · rw [List.getElem?_append_right (by rw [List.length_map]; omega), List.getElem?_replicate] at hi
      split at hi <;> cases hi
  refine ⟨?_, hc v (List.mem_of_getElem? hi2)⟩
  have := h.2.2 (0 + i, v) (z_args_mem vs 0 i v hc hi2)
  simpa using this
/-- a contract out of a walk -/
theorem zM_of {lay : Nat → zL} {n : Nat} {y : MethodName} {cd : ByteArray} {mL : Nat} {ret : Option FieldType} {rm : Room} {av : (Nat → Nat) → List Value} {f : zS → Option (Int32 × zS)} {own : String} (hy : plainName y.cls = true) (hcls : y.cls = own) (hc : ∀ ad, ∀ w ∈ av ad, w.category = 1) (hl : ∀ ad, (av ad).length ≤ mL)
    (walk : ∀ (Γ : zG) (ad : Nat → Nat), zX Γ lay n ad cd own mL rm ret → ∀ σ, zK Γ lay n ad mL ret 0 (z_lv (av ad) mL) [] σ (f σ) some) : zM lay n y cd mL ret rm av f := by
  intro l ad cA D W0 lo σ out ho
  refine Met.ofW (cc := cd) (maxL := mL) (ret := ret) hy rfl ?_
  intro p e s m args below meth c s₁ B hml hv
  obtain ⟨rfl, hP, hK, hN, hD⟩ := hv
  have hts := atoms_spec (ws := .code y cd mL ret :: z_TB) B.pre
  have hown : s.vm.findClass own = some m.cls := hcls ▸ findClass_of_methodNamed B.named
  rw [lg_entry_eq]
  exact walk (p, l, e, rm, s, m, (av ad).toArray, below, meth, c, cA, D, W0, lo) ad ⟨B.exec, B.bytes, hml, hown, fun w hw => hts w (List.mem_cons_of_mem _ hw), hK, hN, hD, rfl, B.returns, B.notSynchronized⟩ σ out (by rw [ho]; rfl) _ s.heap [] (z_h_entry (hc ad) (hl ad)) hP va_S.rf
section ZR
variable {Γ : zG} {lay : Nat → zL} {n : Nat} {ad : Nat → Nat} {cc : ByteArray} {own : String} {nL : Nat} {rm : Room} {ret : Option FieldType} {pc : Nat} {lv : List (Option Value)} {st : List Value} {σ : zS} {α : Type} {e : Option α} {K : α → Option (Int32 × zS)}
/-- pure steps -/
theorem z_ite {c : Prop} {d : Decidable c} {e1 e2 : Option α} (k1 : c → zK Γ lay n ad nL ret pc lv st σ e1 K) (k2 : ¬ c → zK Γ lay n ad nL ret pc lv st σ e2 K) : zK Γ lay n ad nL ret pc lv st σ (if c then e1 else e2) K := by
  by_cases h : c
  · rw [if_pos h]; exact k1 h
  · rw [if_neg h]; exact k2 h
theorem z_chk {c : Prop} {d : Decidable c} {e1 : Option α} (k1 : c → zK Γ lay n ad nL ret pc lv st σ e1 K) : zK Γ lay n ad nL ret pc lv st σ (if c then e1 else none) K := by
  by_cases h : c
  · rw [if_pos h]; exact k1 h
  · rw [if_neg h]
    obtain ⟨p, l, en, R, s, m, args, below, meth, c, cA, D, W0, lo⟩ := Γ
    intro out ho
    cases ho
theorem z_none : zK Γ lay n ad nL ret pc lv st σ (none : Option α) K := by
  obtain ⟨p, l, en, R, s, m, args, below, meth, c, cA, D, W0, lo⟩ := Γ
  intro out ho
  cases ho
theorem z_bind {β : Type} {f : Option β} {g : β → Option α} (k : ∀ b, f = some b → zK Γ lay n ad nL ret pc lv st σ (g b) K) : zK Γ lay n ad nL ret pc lv st σ (f.bind g) K := by
  cases f with
  | none => exact z_none (α := α) (K := K)
  | some b => exact k b rfl
theorem z_forget (ks : List Nat) {lv' : List (Option Value)} (h : z_keep ks lv = lv') (k : zK Γ lay n ad nL ret pc lv' st σ e K) : zK Γ lay n ad nL ret pc lv st σ e K := by
  subst h
  obtain ⟨p, l, en, R, s, m, args, below, meth, c, cA, D, W0, lo⟩ := Γ
  intro out ho ls H locs hl hP hS
  exact k out ho ls H locs (z_h_keep ks hl) hP hS
/-- constants -/
theorem z_iconst (hC : zX Γ lay n ad cc own nL rm ret) {k : Int} {v : Int32} (hd : decode cc pc = .ok (.iconst k, 1)) (hv : Int32.ofInt k = v) (kk : zK Γ lay n ad nL ret (pc + 1) lv (.int v :: st) σ e K) : zK Γ lay n ad nL ret pc lv st σ e K := by
  obtain ⟨p, l, en, R, s, m, args, below, meth, c, cA, D, W0, lo⟩ := Γ
  obtain ⟨hx, hb, hml, hown, hts, hK, hN, hD, hR, hr, hlk⟩ := hC
  intro out ho ls H locs hl hP hS
  exact lv_iconst hx hb hd hv (kk out ho ls H locs hl hP hS)
theorem z_bipush (hC : zX Γ lay n ad cc own nL rm ret) {k : Int} {v : Int32} (hd : decode cc pc = .ok (.bipush k, 2)) (hv : (Int8.ofInt k).toInt32 = v) (kk : zK Γ lay n ad nL ret (pc + 2) lv (.int v :: st) σ e K) : zK Γ lay n ad nL ret pc lv st σ e K := by
  obtain ⟨p, l, en, R, s, m, args, below, meth, c, cA, D, W0, lo⟩ := Γ
  obtain ⟨hx, hb, hml, hown, hts, hK, hN, hD, hR, hr, hlk⟩ := hC
  intro out ho ls H locs hl hP hS
  exact lv_bipush hx hb hd hv (kk out ho ls H locs hl hP hS)
theorem z_sipush (hC : zX Γ lay n ad cc own nL rm ret) {k : Int} {v : Int32} (hd : decode cc pc = .ok (.sipush k, 3)) (hv : (Int16.ofInt k).toInt32 = v) (kk : zK Γ lay n ad nL ret (pc + 3) lv (.int v :: st) σ e K) : zK Γ lay n ad nL ret pc lv st σ e K := by
  obtain ⟨p, l, en, R, s, m, args, below, meth, c, cA, D, W0, lo⟩ := Γ
  obtain ⟨hx, hb, hml, hown, hts, hK, hN, hD, hR, hr, hlk⟩ := hC
  intro out ho ls H locs hl hP hS
  exact lv_sipush hx hb hd hv (kk out ho ls H locs hl hP hS)
/-- locals -/
theorem z_iload_n (hC : zX Γ lay n ad cc own nL rm ret) {k : Fin 4} {x : Int32} (hd : decode cc pc = .ok (.iload_n k, 1)) (hv : lv[(k : Nat)]? = some (some (.int x))) (kk : zK Γ lay n ad nL ret (pc + 1) lv (.int x :: st) σ e K) : zK Γ lay n ad nL ret pc lv st σ e K := by
  obtain ⟨p, l, en, R, s, m, args, below, meth, c, cA, D, W0, lo⟩ := Γ
  obtain ⟨hx, hb, hml, hown, hts, hK, hN, hD, hR, hr, hlk⟩ := hC
  intro out ho ls H locs hl hP hS
  exact lv_iload_n hx hb hd rfl (hl.2.2 _ _ hv).1 (kk out ho ls H locs hl hP hS)
theorem z_iload (hC : zX Γ lay n ad cc own nL rm ret) {k : Nat} {x : Int32} (hd : decode cc pc = .ok (.iload k, 2)) (hv : lv[k]? = some (some (.int x))) (kk : zK Γ lay n ad nL ret (pc + 2) lv (.int x :: st) σ e K) : zK Γ lay n ad nL ret pc lv st σ e K := by
  obtain ⟨p, l, en, R, s, m, args, below, meth, c, cA, D, W0, lo⟩ := Γ
  obtain ⟨hx, hb, hml, hown, hts, hK, hN, hD, hR, hr, hlk⟩ := hC
  intro out ho ls H locs hl hP hS
  exact lv_iload hx hb hd (hl.2.2 _ _ hv).1 (kk out ho ls H locs hl hP hS)
theorem z_aload_n (hC : zX Γ lay n ad cc own nL rm ret) {k : Fin 4} {x : Nat} (hd : decode cc pc = .ok (.aload_n k, 1)) (hv : lv[(k : Nat)]? = some (some (.ref x))) (kk : zK Γ lay n ad nL ret (pc + 1) lv (.ref x :: st) σ e K) : zK Γ lay n ad nL ret pc lv st σ e K := by
  obtain ⟨p, l, en, R, s, m, args, below, meth, c, cA, D, W0, lo⟩ := Γ
  obtain ⟨hx, hb, hml, hown, hts, hK, hN, hD, hR, hr, hlk⟩ := hC
  intro out ho ls H locs hl hP hS
  exact lv_aload_n hx hb hd rfl (hl.2.2 _ _ hv).1 (kk out ho ls H locs hl hP hS)
theorem z_istore_n (hC : zX Γ lay n ad cc own nL rm ret) {k : Fin 4} {x : Int32} (hd : decode cc pc = .ok (.istore_n k, 1)) {lv' : List (Option Value)} (hk : (k : Nat) < nL) (hv : lv.set (k : Nat) (some (.int x)) = lv') (kk : zK Γ lay n ad nL ret (pc + 1) lv' st σ e K) : zK Γ lay n ad nL ret pc lv (.int x :: st) σ e K := by
  subst hv
  obtain ⟨p, l, en, R, s, m, args, below, meth, c, cA, D, W0, lo⟩ := Γ
  obtain ⟨hx, hb, hml, hown, hts, hK, hN, hD, hR, hr, hlk⟩ := hC
  intro out ho ls H locs hl hP hS
  exact lv_istore_n hx hb hd rfl (z_h_has hl) hk rfl (fun ls' h' => kk out ho ls' H locs (z_h_set hl rfl h') hP hS)
theorem z_istore (hC : zX Γ lay n ad cc own nL rm ret) {k : Nat} {x : Int32} (hd : decode cc pc = .ok (.istore k, 2)) {lv' : List (Option Value)} (hk : k < nL) (hv : lv.set k (some (.int x)) = lv') (kk : zK Γ lay n ad nL ret (pc + 2) lv' st σ e K) : zK Γ lay n ad nL ret pc lv (.int x :: st) σ e K := by
  subst hv
  obtain ⟨p, l, en, R, s, m, args, below, meth, c, cA, D, W0, lo⟩ := Γ
  obtain ⟨hx, hb, hml, hown, hts, hK, hN, hD, hR, hr, hlk⟩ := hC
  intro out ho ls H locs hl hP hS
  exact lv_istore hx hb hd (z_h_has hl) hk rfl (fun ls' h' => kk out ho ls' H locs (z_h_set hl rfl h') hP hS)
theorem z_astore_n (hC : zX Γ lay n ad cc own nL rm ret) {k : Fin 4} {x : Nat} (hd : decode cc pc = .ok (.astore_n k, 1)) {lv' : List (Option Value)} (hk : (k : Nat) < nL) (hv : lv.set (k : Nat) (some (.ref x)) = lv') (kk : zK Γ lay n ad nL ret (pc + 1) lv' st σ e K) : zK Γ lay n ad nL ret pc lv (.ref x :: st) σ e K := by
  subst hv
  obtain ⟨p, l, en, R, s, m, args, below, meth, c, cA, D, W0, lo⟩ := Γ
  obtain ⟨hx, hb, hml, hown, hts, hK, hN, hD, hR, hr, hlk⟩ := hC
  intro out ho ls H locs hl hP hS
  exact lv_astore_n hx hb hd rfl (z_h_has hl) hk rfl (fun ls' h' => kk out ho ls' H locs (z_h_set hl rfl h') hP hS)
theorem z_iinc (hC : zX Γ lay n ad cc own nL rm ret) {k : Nat} {d : Int} {x v : Int32} (hd : decode cc pc = .ok (.iinc k d, 3)) {lv' : List (Option Value)} (hg : lv[k]? = some (some (.int x))) (hk : k < nL) (hx : Int32.ofInt d = v) (hv : lv.set k (some (.int (x + v))) = lv') (kk : zK Γ lay n ad nL ret (pc + 3) lv' st σ e K) : zK Γ lay n ad nL ret pc lv st σ e K := by
  subst hv
  subst hx
  obtain ⟨p, l, en, R, s, m, args, below, meth, c, cA, D, W0, lo⟩ := Γ
  obtain ⟨hx, hb, hml, hown, hts, hK, hN, hD, hR, hr, hlk⟩ := hC
  intro out ho ls H locs hl hP hS
  obtain ⟨j, hj⟩ := List.getElem?_of_mem (z_pr_mem.mpr hg)
  exact lv_iinc hx hb hd (z_h_has hl) hj rfl hk rfl (fun ls' h' => kk out ho ls' H locs (z_h_set hl rfl h') hP hS)
/-- arithmetic, stack -/
theorem z_iadd (hC : zX Γ lay n ad cc own nL rm ret) {x y : Int32} (hd : decode cc pc = .ok (.iadd, 1)) (kk : zK Γ lay n ad nL ret (pc + 1) lv (.int (x + y) :: st) σ e K) : zK Γ lay n ad nL ret pc lv (.int y :: .int x :: st) σ e K := by
  obtain ⟨p, l, en, R, s, m, args, below, meth, c, cA, D, W0, lo⟩ := Γ
  obtain ⟨hx, hb, hml, hown, hts, hK, hN, hD, hR, hr, hlk⟩ := hC
  intro out ho ls H locs hl hP hS
  exact lv_iadd hx hb hd (kk out ho ls H locs hl hP hS)
theorem z_isub (hC : zX Γ lay n ad cc own nL rm ret) {x y : Int32} (hd : decode cc pc = .ok (.isub, 1)) (kk : zK Γ lay n ad nL ret (pc + 1) lv (.int (x - y) :: st) σ e K) : zK Γ lay n ad nL ret pc lv (.int y :: .int x :: st) σ e K := by
  obtain ⟨p, l, en, R, s, m, args, below, meth, c, cA, D, W0, lo⟩ := Γ
  obtain ⟨hx, hb, hml, hown, hts, hK, hN, hD, hR, hr, hlk⟩ := hC
  intro out ho ls H locs hl hP hS
  exact lv_isub hx hb hd (kk out ho ls H locs hl hP hS)
theorem z_imul (hC : zX Γ lay n ad cc own nL rm ret) {x y : Int32} (hd : decode cc pc = .ok (.imul, 1)) (kk : zK Γ lay n ad nL ret (pc + 1) lv (.int (x * y) :: st) σ e K) : zK Γ lay n ad nL ret pc lv (.int y :: .int x :: st) σ e K := by
  obtain ⟨p, l, en, R, s, m, args, below, meth, c, cA, D, W0, lo⟩ := Γ
  obtain ⟨hx, hb, hml, hown, hts, hK, hN, hD, hR, hr, hlk⟩ := hC
  intro out ho ls H locs hl hP hS
  exact lv_imul hx hb hd (kk out ho ls H locs hl hP hS)
theorem z_idiv (hC : zX Γ lay n ad cc own nL rm ret) {x y : Int32} (hd : decode cc pc = .ok (.idiv, 1)) (hne : ¬ y = 0) (kk : zK Γ lay n ad nL ret (pc + 1) lv (.int (x / y) :: st) σ e K) : zK Γ lay n ad nL ret pc lv (.int y :: .int x :: st) σ e K := by
  obtain ⟨p, l, en, R, s, m, args, below, meth, c, cA, D, W0, lo⟩ := Γ
  obtain ⟨hx, hb, hml, hown, hts, hK, hN, hD, hR, hr, hlk⟩ := hC
  intro out ho ls H locs hl hP hS
  exact lv_idiv hx hb hd hne (kk out ho ls H locs hl hP hS)
theorem z_irem (hC : zX Γ lay n ad cc own nL rm ret) {x y : Int32} (hd : decode cc pc = .ok (.irem, 1)) (hne : ¬ y = 0) (kk : zK Γ lay n ad nL ret (pc + 1) lv (.int (x - x / y * y) :: st) σ e K) : zK Γ lay n ad nL ret pc lv (.int y :: .int x :: st) σ e K := by
  obtain ⟨p, l, en, R, s, m, args, below, meth, c, cA, D, W0, lo⟩ := Γ
  obtain ⟨hx, hb, hml, hown, hts, hK, hN, hD, hR, hr, hlk⟩ := hC
  intro out ho ls H locs hl hP hS
  exact lv_irem hx hb hd hne (kk out ho ls H locs hl hP hS)
theorem z_dup (hC : zX Γ lay n ad cc own nL rm ret) {v : Value} (hd : decode cc pc = .ok (.dup, 1)) (hv : v.category = 1) (kk : zK Γ lay n ad nL ret (pc + 1) lv (v :: v :: st) σ e K) : zK Γ lay n ad nL ret pc lv (v :: st) σ e K := by
  obtain ⟨p, l, en, R, s, m, args, below, meth, c, cA, D, W0, lo⟩ := Γ
  obtain ⟨hx, hb, hml, hown, hts, hK, hN, hD, hR, hr, hlk⟩ := hC
  intro out ho ls H locs hl hP hS
  exact lv_dup hx hb hd hv (kk out ho ls H locs hl hP hS)
theorem z_dup2 (hC : zX Γ lay n ad cc own nL rm ret) {v w : Value} (hd : decode cc pc = .ok (.dup2, 1)) (hv : v.category = 1) (hw : w.category = 1) (kk : zK Γ lay n ad nL ret (pc + 1) lv (v :: w :: v :: w :: st) σ e K) : zK Γ lay n ad nL ret pc lv (v :: w :: st) σ e K := by
  obtain ⟨p, l, en, R, s, m, args, below, meth, c, cA, D, W0, lo⟩ := Γ
  obtain ⟨hx, hb, hml, hown, hts, hK, hN, hD, hR, hr, hlk⟩ := hC
  intro out ho ls H locs hl hP hS
  exact lv_dup2_11 hx hb hd hv hw (kk out ho ls H locs hl hP hS)
theorem z_pop (hC : zX Γ lay n ad cc own nL rm ret) {v : Value} (hd : decode cc pc = .ok (.pop, 1)) (hv : v.category = 1) (kk : zK Γ lay n ad nL ret (pc + 1) lv st σ e K) : zK Γ lay n ad nL ret pc lv (v :: st) σ e K := by
  obtain ⟨p, l, en, R, s, m, args, below, meth, c, cA, D, W0, lo⟩ := Γ
  obtain ⟨hx, hb, hml, hown, hts, hK, hN, hD, hR, hr, hlk⟩ := hC
  intro out ho ls H locs hl hP hS
  exact lv_pop hx hb hd hv (kk out ho ls H locs hl hP hS)
theorem z_goto (hC : zX Γ lay n ad cc own nL rm ret) {off : Int} (tgt : Nat) (hd : decode cc pc = .ok (.goto off, 3)) (ht : (pc : Int) + off = (tgt : Int)) (kk : zK Γ lay n ad nL ret tgt lv st σ e K) : zK Γ lay n ad nL ret pc lv st σ e K := by
  obtain ⟨p, l, en, R, s, m, args, below, meth, c, cA, D, W0, lo⟩ := Γ
  obtain ⟨hx, hb, hml, hown, hts, hK, hN, hD, hR, hr, hlk⟩ := hC
  intro out ho ls H locs hl hP hS
  exact lv_goto hx hb hd ht (kk out ho ls H locs hl hP hS)
theorem z_if_eq (hC : zX Γ lay n ad cc own nL rm ret) {x : Int32} {off : Int} (tgt : Nat) (hd : decode cc pc = .ok (.ifCond .eq off, 3)) (ht : (pc : Int) + off = (tgt : Int)) {d : Decidable (x = 0)} {e1 e2 : Option α} (k1 : x = 0 → zK Γ lay n ad nL ret tgt lv st σ e1 K) (k2 : ¬ x = 0 → zK Γ lay n ad nL ret (pc + 3) lv st σ e2 K) : zK Γ lay n ad nL ret pc lv (.int x :: st) σ (if x = 0 then e1 else e2) K := by
  obtain ⟨p, l, en, R, s, m, args, below, meth, c, cA, D, W0, lo⟩ := Γ
  obtain ⟨hx, hb, hml, hown, hts, hK, hN, hD, hR, hr, hlk⟩ := hC
  intro out ho ls H locs hl hP hS
  exact lv_if_eq hx hb hd ht (fun h => k1 h out (by rw [if_pos h] at ho; exact ho) ls H locs hl hP hS) (fun h => k2 h out (by rw [if_neg h] at ho; exact ho) ls H locs hl hP hS)
theorem z_if_ne (hC : zX Γ lay n ad cc own nL rm ret) {x : Int32} {off : Int} (tgt : Nat) (hd : decode cc pc = .ok (.ifCond .ne off, 3)) (ht : (pc : Int) + off = (tgt : Int)) {d : Decidable (x = 0)} {e1 e2 : Option α} (k1 : ¬ x = 0 → zK Γ lay n ad nL ret tgt lv st σ e1 K) (k2 : x = 0 → zK Γ lay n ad nL ret (pc + 3) lv st σ e2 K) : zK Γ lay n ad nL ret pc lv (.int x :: st) σ (if x = 0 then e2 else e1) K := by
  obtain ⟨p, l, en, R, s, m, args, below, meth, c, cA, D, W0, lo⟩ := Γ
  obtain ⟨hx, hb, hml, hown, hts, hK, hN, hD, hR, hr, hlk⟩ := hC
  intro out ho ls H locs hl hP hS
  exact lv_if_ne hx hb hd ht (fun h => k1 h out (by rw [if_neg h] at ho; exact ho) ls H locs hl hP hS) (fun h => k2 h out (by rw [if_pos h] at ho; exact ho) ls H locs hl hP hS)
theorem z_if_lt (hC : zX Γ lay n ad cc own nL rm ret) {x : Int32} {off : Int} (tgt : Nat) (hd : decode cc pc = .ok (.ifCond .lt off, 3)) (ht : (pc : Int) + off = (tgt : Int)) {d : Decidable (x < 0)} {e1 e2 : Option α} (k1 : x < 0 → zK Γ lay n ad nL ret tgt lv st σ e1 K) (k2 : ¬ x < 0 → zK Γ lay n ad nL ret (pc + 3) lv st σ e2 K) : zK Γ lay n ad nL ret pc lv (.int x :: st) σ (if x < 0 then e1 else e2) K := by
  obtain ⟨p, l, en, R, s, m, args, below, meth, c, cA, D, W0, lo⟩ := Γ
  obtain ⟨hx, hb, hml, hown, hts, hK, hN, hD, hR, hr, hlk⟩ := hC
  intro out ho ls H locs hl hP hS
  exact lv_if_lt hx hb hd ht (fun h => k1 h out (by rw [if_pos h] at ho; exact ho) ls H locs hl hP hS) (fun h => k2 h out (by rw [if_neg h] at ho; exact ho) ls H locs hl hP hS)
theorem z_if_ge (hC : zX Γ lay n ad cc own nL rm ret) {x : Int32} {off : Int} (tgt : Nat) (hd : decode cc pc = .ok (.ifCond .ge off, 3)) (ht : (pc : Int) + off = (tgt : Int)) {d : Decidable (0 ≤ x)} {e1 e2 : Option α} (k1 : 0 ≤ x → zK Γ lay n ad nL ret tgt lv st σ e1 K) (k2 : ¬ 0 ≤ x → zK Γ lay n ad nL ret (pc + 3) lv st σ e2 K) : zK Γ lay n ad nL ret pc lv (.int x :: st) σ (if 0 ≤ x then e1 else e2) K := by
  obtain ⟨p, l, en, R, s, m, args, below, meth, c, cA, D, W0, lo⟩ := Γ
  obtain ⟨hx, hb, hml, hown, hts, hK, hN, hD, hR, hr, hlk⟩ := hC
  intro out ho ls H locs hl hP hS
  exact lv_if_ge hx hb hd ht (fun h => k1 h out (by rw [if_pos h] at ho; exact ho) ls H locs hl hP hS) (fun h => k2 h out (by rw [if_neg h] at ho; exact ho) ls H locs hl hP hS)
theorem z_if_gt (hC : zX Γ lay n ad cc own nL rm ret) {x : Int32} {off : Int} (tgt : Nat) (hd : decode cc pc = .ok (.ifCond .gt off, 3)) (ht : (pc : Int) + off = (tgt : Int)) {d : Decidable (0 < x)} {e1 e2 : Option α} (k1 : 0 < x → zK Γ lay n ad nL ret tgt lv st σ e1 K) (k2 : ¬ 0 < x → zK Γ lay n ad nL ret (pc + 3) lv st σ e2 K) : zK Γ lay n ad nL ret pc lv (.int x :: st) σ (if 0 < x then e1 else e2) K := by
  obtain ⟨p, l, en, R, s, m, args, below, meth, c, cA, D, W0, lo⟩ := Γ
  obtain ⟨hx, hb, hml, hown, hts, hK, hN, hD, hR, hr, hlk⟩ := hC
  intro out ho ls H locs hl hP hS
  exact lv_if_gt hx hb hd ht (fun h => k1 h out (by rw [if_pos h] at ho; exact ho) ls H locs hl hP hS) (fun h => k2 h out (by rw [if_neg h] at ho; exact ho) ls H locs hl hP hS)
theorem z_if_le (hC : zX Γ lay n ad cc own nL rm ret) {x : Int32} {off : Int} (tgt : Nat) (hd : decode cc pc = .ok (.ifCond .le off, 3)) (ht : (pc : Int) + off = (tgt : Int)) {d : Decidable (x ≤ 0)} {e1 e2 : Option α} (k1 : x ≤ 0 → zK Γ lay n ad nL ret tgt lv st σ e1 K) (k2 : ¬ x ≤ 0 → zK Γ lay n ad nL ret (pc + 3) lv st σ e2 K) : zK Γ lay n ad nL ret pc lv (.int x :: st) σ (if x ≤ 0 then e1 else e2) K := by
  obtain ⟨p, l, en, R, s, m, args, below, meth, c, cA, D, W0, lo⟩ := Γ
  obtain ⟨hx, hb, hml, hown, hts, hK, hN, hD, hR, hr, hlk⟩ := hC
  intro out ho ls H locs hl hP hS
  exact lv_if_le hx hb hd ht (fun h => k1 h out (by rw [if_pos h] at ho; exact ho) ls H locs hl hP hS) (fun h => k2 h out (by rw [if_neg h] at ho; exact ho) ls H locs hl hP hS)
theorem z_icmp_eq (hC : zX Γ lay n ad cc own nL rm ret) {x y : Int32} {off : Int} (tgt : Nat) (hd : decode cc pc = .ok (.if_icmp .eq off, 3)) (ht : (pc : Int) + off = (tgt : Int)) {d : Decidable (x = y)} {e1 e2 : Option α} (k1 : x = y → zK Γ lay n ad nL ret tgt lv st σ e1 K) (k2 : ¬ x = y → zK Γ lay n ad nL ret (pc + 3) lv st σ e2 K) : zK Γ lay n ad nL ret pc lv (.int y :: .int x :: st) σ (if x = y then e1 else e2) K := by
  obtain ⟨p, l, en, R, s, m, args, below, meth, c, cA, D, W0, lo⟩ := Γ
  obtain ⟨hx, hb, hml, hown, hts, hK, hN, hD, hR, hr, hlk⟩ := hC
  intro out ho ls H locs hl hP hS
  exact lv_icmp_eq hx hb hd ht (fun h => k1 h out (by rw [if_pos h] at ho; exact ho) ls H locs hl hP hS) (fun h => k2 h out (by rw [if_neg h] at ho; exact ho) ls H locs hl hP hS)
theorem z_icmp_ne (hC : zX Γ lay n ad cc own nL rm ret) {x y : Int32} {off : Int} (tgt : Nat) (hd : decode cc pc = .ok (.if_icmp .ne off, 3)) (ht : (pc : Int) + off = (tgt : Int)) {d : Decidable (x = y)} {e1 e2 : Option α} (k1 : ¬ x = y → zK Γ lay n ad nL ret tgt lv st σ e1 K) (k2 : x = y → zK Γ lay n ad nL ret (pc + 3) lv st σ e2 K) : zK Γ lay n ad nL ret pc lv (.int y :: .int x :: st) σ (if x = y then e2 else e1) K := by
  obtain ⟨p, l, en, R, s, m, args, below, meth, c, cA, D, W0, lo⟩ := Γ
  obtain ⟨hx, hb, hml, hown, hts, hK, hN, hD, hR, hr, hlk⟩ := hC
  intro out ho ls H locs hl hP hS
  exact lv_icmp_ne hx hb hd ht (fun h => k1 h out (by rw [if_neg h] at ho; exact ho) ls H locs hl hP hS) (fun h => k2 h out (by rw [if_pos h] at ho; exact ho) ls H locs hl hP hS)
theorem z_icmp_lt (hC : zX Γ lay n ad cc own nL rm ret) {x y : Int32} {off : Int} (tgt : Nat) (hd : decode cc pc = .ok (.if_icmp .lt off, 3)) (ht : (pc : Int) + off = (tgt : Int)) {d : Decidable (x < y)} {e1 e2 : Option α} (k1 : x < y → zK Γ lay n ad nL ret tgt lv st σ e1 K) (k2 : ¬ x < y → zK Γ lay n ad nL ret (pc + 3) lv st σ e2 K) : zK Γ lay n ad nL ret pc lv (.int y :: .int x :: st) σ (if x < y then e1 else e2) K := by
  obtain ⟨p, l, en, R, s, m, args, below, meth, c, cA, D, W0, lo⟩ := Γ
  obtain ⟨hx, hb, hml, hown, hts, hK, hN, hD, hR, hr, hlk⟩ := hC
  intro out ho ls H locs hl hP hS
  exact lv_icmp_lt hx hb hd ht (fun h => k1 h out (by rw [if_pos h] at ho; exact ho) ls H locs hl hP hS) (fun h => k2 h out (by rw [if_neg h] at ho; exact ho) ls H locs hl hP hS)
theorem z_icmp_ge (hC : zX Γ lay n ad cc own nL rm ret) {x y : Int32} {off : Int} (tgt : Nat) (hd : decode cc pc = .ok (.if_icmp .ge off, 3)) (ht : (pc : Int) + off = (tgt : Int)) {d : Decidable (y ≤ x)} {e1 e2 : Option α} (k1 : y ≤ x → zK Γ lay n ad nL ret tgt lv st σ e1 K) (k2 : ¬ y ≤ x → zK Γ lay n ad nL ret (pc + 3) lv st σ e2 K) : zK Γ lay n ad nL ret pc lv (.int y :: .int x :: st) σ (if y ≤ x then e1 else e2) K := by
  obtain ⟨p, l, en, R, s, m, args, below, meth, c, cA, D, W0, lo⟩ := Γ
  obtain ⟨hx, hb, hml, hown, hts, hK, hN, hD, hR, hr, hlk⟩ := hC
  intro out ho ls H locs hl hP hS
  exact lv_icmp_ge hx hb hd ht (fun h => k1 h out (by rw [if_pos h] at ho; exact ho) ls H locs hl hP hS) (fun h => k2 h out (by rw [if_neg h] at ho; exact ho) ls H locs hl hP hS)
theorem z_icmp_gt (hC : zX Γ lay n ad cc own nL rm ret) {x y : Int32} {off : Int} (tgt : Nat) (hd : decode cc pc = .ok (.if_icmp .gt off, 3)) (ht : (pc : Int) + off = (tgt : Int)) {d : Decidable (y < x)} {e1 e2 : Option α} (k1 : y < x → zK Γ lay n ad nL ret tgt lv st σ e1 K) (k2 : ¬ y < x → zK Γ lay n ad nL ret (pc + 3) lv st σ e2 K) : zK Γ lay n ad nL ret pc lv (.int y :: .int x :: st) σ (if y < x then e1 else e2) K := by
  obtain ⟨p, l, en, R, s, m, args, below, meth, c, cA, D, W0, lo⟩ := Γ
  obtain ⟨hx, hb, hml, hown, hts, hK, hN, hD, hR, hr, hlk⟩ := hC
  intro out ho ls H locs hl hP hS
  exact lv_icmp_gt hx hb hd ht (fun h => k1 h out (by rw [if_pos h] at ho; exact ho) ls H locs hl hP hS) (fun h => k2 h out (by rw [if_neg h] at ho; exact ho) ls H locs hl hP hS)
theorem z_icmp_le (hC : zX Γ lay n ad cc own nL rm ret) {x y : Int32} {off : Int} (tgt : Nat) (hd : decode cc pc = .ok (.if_icmp .le off, 3)) (ht : (pc : Int) + off = (tgt : Int)) {d : Decidable (x ≤ y)} {e1 e2 : Option α} (k1 : x ≤ y → zK Γ lay n ad nL ret tgt lv st σ e1 K) (k2 : ¬ x ≤ y → zK Γ lay n ad nL ret (pc + 3) lv st σ e2 K) : zK Γ lay n ad nL ret pc lv (.int y :: .int x :: st) σ (if x ≤ y then e1 else e2) K := by
  obtain ⟨p, l, en, R, s, m, args, below, meth, c, cA, D, W0, lo⟩ := Γ
  obtain ⟨hx, hb, hml, hown, hts, hK, hN, hD, hR, hr, hlk⟩ := hC
  intro out ho ls H locs hl hP hS
  exact lv_icmp_le hx hb hd ht (fun h => k1 h out (by rw [if_pos h] at ho; exact ho) ls H locs hl hP hS) (fun h => k2 h out (by rw [if_neg h] at ho; exact ho) ls H locs hl hP hS)
end ZR
end
section
abbrev z_in (i : Int32) (len : Nat) : Prop := i.toNatClampNeg < len ∧ ¬ i < 0
theorem z_in_vp {i : Int32} {len : Nat} (h : z_in i len) : vp_in i len := fun q => q.elim (fun a => h.2 a) (fun a => absurd h.1 (by omega))
def zF (own : String) (idx ci k : Nat) (C : String) (T : u_T) (N : Nat) : Prop := Cond.fieldLink own idx (T k).1 (T k).2.1 (T k).2.2.1 ∈ z_TB ∧ vwCl[ci]? = some (C, T, N) ∧ k < N ∧ ∀ w ∈ u_ws C T N, w ∈ z_TB
def zP (own : String) (idx ci k : Nat) (C : String) (T : u_T) (N : Nat) (ty : FieldType) : Prop := zF own idx ci k C T N ∧ (∃ ty0 : Nat → FieldType, ∀ k, k < N → parseFieldDescriptor (T k).2.2.1 = some (ty0 k)) ∧ (∀ a, a < N → ∀ b, b < N → a ≠ b → (T a).2.1 ≠ (T b).2.1) ∧ (T k).2.2.2 = false ∧ parseFieldDescriptor (T k).2.2.1 = some ty
theorem z_N_vm {u U : State} (h : u.vm = U.vm) (hN : z_N u) : z_N U := fun q hq => va_Nw.same rfl h (hN q hq)
theorem z_nb {x : Int32} (h : x = 0 ∨ x = 1) : narrow .boolean (.int x) = .int x := by rcases h with rfl | rfl <;> rfl
theorem z_fb {x : Int32} (h : x = 0 ∨ x = 1) : fits .boolean (.int x) = true := by rcases h with rfl | rfl <;> decide
section ZH
variable {Γ : zG} {lay : Nat → zL} {n : Nat} {ad : Nat → Nat} {cc : ByteArray} {own : String} {nL : Nat} {rm : Room} {ret : Option FieldType} {pc : Nat} {lv : List (Option Value)} {st : List Value} {σ : zS} {α : Type} {e : Option α} {K : α → Option (Int32 × zS)}
theorem z_obj {cA : Nat → ClassId} {W0 : va_W} {b ci : Nat} {fl : List (Option Nat)} (hb : b < n) (hl : lay b = .inr (ci, fl)) : (z_wd lay n ad cA σ ++ W0)[b]? = some (ad b, .inr (ci, z_fs ad (σ b) 0 fl)) := by rw [z_wd_get hb, hl]; rfl
theorem z_arI {cA : Nat → ClassId} {W0 : va_W} {b k : Nat} (hb : b < n) (hl : lay b = .inl (0, k)) : (z_wd lay n ad cA σ ++ W0)[b]? = some (ad b, .inl (cA 0, k, .inl (σ b))) := by rw [z_wd_get hb, hl]; rfl
theorem z_arZ {cA : Nat → ClassId} {W0 : va_W} {b k : Nat} (hb : b < n) (hl : lay b = .inl (1, k)) : (z_wd lay n ad cA σ ++ W0)[b]? = some (ad b, .inl (cA 1, k, .inl (σ b))) := by rw [z_wd_get hb, hl]; rfl
theorem z_arM {cA : Nat → ClassId} {W0 : va_W} {b k : Nat} (hb : b < n) (hl : lay b = .inl (2, k)) : (z_wd lay n ad cA σ ++ W0)[b]? = some (ad b, .inl (cA 2, k, .inr (.inr (.inr (.inr (fun j => some (ad (z_mo (σ b j).toNatClampNeg)))))))) := by rw [z_wd_get hb, hl]; rfl
theorem z_geti (hC : zX Γ lay n ad cc own nL rm ret) {idx ci k N b : Nat} {C : String} {T : u_T} {fl : List (Option Nat)} (hf : zF own idx ci k C T N) (hd : decode cc pc = .ok (.getfield idx, 3)) (hbn : b < n) (hl : lay b = .inr (ci, fl)) (hv : fl[k]? = some none) (kk : zK Γ lay n ad nL ret (pc + 3) lv (.int (σ b k) :: st) σ e K) : zK Γ lay n ad nL ret pc lv (.ref (ad b) :: st) σ e K := by
  obtain ⟨p, l, en, R, s, m, args, below, meth, c, cA, D, W0, lo⟩ := Γ
  obtain ⟨hx, hb, hml, hown, hts, hK, hN, hD, hR, hr, hlk⟩ := hC
  intro out ho ls H locs hl1 hP hS
  exact va_get (D := D) hx hb hts hf.2.2.2 hown hK hP b (z_obj hbn hl) hf.2.1 k hf.2.2.1 (hts _ hf.1) (fun _ h => h) (v := .int (σ b k)) (by rw [z_fs_get, hv]; simp) hd (kk out ho ls H locs hl1 hP hS)
theorem z_getr (hC : zX Γ lay n ad cc own nL rm ret) {idx ci k N b r : Nat} {C : String} {T : u_T} {fl : List (Option Nat)} (hf : zF own idx ci k C T N) (hd : decode cc pc = .ok (.getfield idx, 3)) (hbn : b < n) (hl : lay b = .inr (ci, fl)) (hv : fl[k]? = some (some r)) (kk : zK Γ lay n ad nL ret (pc + 3) lv (.ref (ad r) :: st) σ e K) : zK Γ lay n ad nL ret pc lv (.ref (ad b) :: st) σ e K := by
  obtain ⟨p, l, en, R, s, m, args, below, meth, c, cA, D, W0, lo⟩ := Γ
  obtain ⟨hx, hb, hml, hown, hts, hK, hN, hD, hR, hr, hlk⟩ := hC
  intro out ho ls H locs hl1 hP hS
  exact va_get (D := D) hx hb hts hf.2.2.2 hown hK hP b (z_obj hbn hl) hf.2.1 k hf.2.2.1 (hts _ hf.1) (fun _ h => h) (v := .ref (ad r)) (by rw [z_fs_get, hv]; rfl) hd (kk out ho ls H locs hl1 hP hS)
theorem z_putx (hC : zX Γ lay n ad cc own nL rm ret) {idx ci k N b : Nat} {C : String} {T : u_T} {ty : FieldType} {fl : List (Option Nat)} {x : Int32} (hf : zP own idx ci k C T N ty) (hnar : narrow ty (.int x) = .int x) (hfit : fits ty (.int x) = true) (hd : decode cc pc = .ok (.putfield idx, 3)) (hbn : b < n) (hl : lay b = .inr (ci, fl)) (hv : fl[k]? = some none) (kk : zK Γ lay n ad nL ret (pc + 3) lv st (zs σ b k x) e K) : zK Γ lay n ad nL ret pc lv (.int x :: .ref (ad b) :: st) σ e K := by
  obtain ⟨p, l, en, R, s, m, args, below, meth, c, cA, D, W0, lo⟩ := Γ
  obtain ⟨hx, hb, hml, hown, hts, hK, hN, hD, hR, hr, hlk⟩ := hC
  obtain ⟨hF, ⟨ty0, hty⟩, hnm, hfin, hpd⟩ := hf
  intro out ho ls H locs hl1 hP hS
  have hlen : k < fl.length := (List.getElem?_eq_some_iff.mp hv).1
  refine va_put (D := D) hx hb hts hF.2.2.2 ty0 hty hnm hown hK hP (hD σ) hS b (z_obj hbn hl) hF.2.1 k hF.2.2.1 (hts _ hF.1) (fun _ h => h) hfin hpd hnar hfit (by rw [z_fs_len]; exact hlen) hd (fun H1 locs1 hP1 hD1 hS1 => kk out ho ls H1 locs1 hl1 ?_ hS1)
  rw [z_fs_set ad (σ b) fl k x hv] at hP1
  have h2 : (Sum.inr (ci, z_fs ad (upd (σ b) k x) 0 fl) : va_E) = z_en ad cA (lay b) (upd (σ b) k x) := by rw [hl]; rfl
  rw [h2, z_wd_set hbn] at hP1
  exact hP1
theorem z_puti (hC : zX Γ lay n ad cc own nL rm ret) {idx ci k N b : Nat} {C : String} {T : u_T} {fl : List (Option Nat)} {x : Int32} (hf : zP own idx ci k C T N .int) (hd : decode cc pc = .ok (.putfield idx, 3)) (hbn : b < n) (hl : lay b = .inr (ci, fl)) (hv : fl[k]? = some none) (kk : zK Γ lay n ad nL ret (pc + 3) lv st (zs σ b k x) e K) : zK Γ lay n ad nL ret pc lv (.int x :: .ref (ad b) :: st) σ e K := z_putx hC hf rfl rfl hd hbn hl hv kk
theorem z_putz (hC : zX Γ lay n ad cc own nL rm ret) {idx ci k N b : Nat} {C : String} {T : u_T} {fl : List (Option Nat)} {x : Int32} (hf : zP own idx ci k C T N .boolean) (hb01 : x = 0 ∨ x = 1) (hd : decode cc pc = .ok (.putfield idx, 3)) (hbn : b < n) (hl : lay b = .inr (ci, fl)) (hv : fl[k]? = some none) (kk : zK Γ lay n ad nL ret (pc + 3) lv st (zs σ b k x) e K) : zK Γ lay n ad nL ret pc lv (.int x :: .ref (ad b) :: st) σ e K := z_putx hC hf (z_nb hb01) (z_fb hb01) hd hbn hl hv kk
theorem z_iald (hC : zX Γ lay n ad cc own nL rm ret) {b k : Nat} {i : Int32} (hd : decode cc pc = .ok (.iaload, 1)) (hbn : b < n) (hl : lay b = .inl (0, k)) {d : Decidable (z_in i k)} (kk : z_in i k → zK Γ lay n ad nL ret (pc + 1) lv (.int (σ b i.toNatClampNeg) :: st) σ e K) : zK Γ lay n ad nL ret pc lv (.int i :: .ref (ad b) :: st) σ (if z_in i k then e else none) K := by
  refine z_chk (fun hi => ?_)
  have kk := kk hi
  obtain ⟨p, l, en, R, s, m, args, below, meth, c, cA, D, W0, lo⟩ := Γ
  obtain ⟨hx, hb, hml, hown, hts, hK, hN, hD, hR, hr, hlk⟩ := hC
  intro out ho ls H locs hl1 hP hS
  exact va_iald hx hb hK hP b 0 (z_arI hbn hl) rfl (z_in_vp hi) hd (kk out ho ls H locs hl1 hP hS)
theorem z_zald (hC : zX Γ lay n ad cc own nL rm ret) {b k : Nat} {i : Int32} (hd : decode cc pc = .ok (.baload, 1)) (hbn : b < n) (hl : lay b = .inl (1, k)) {d : Decidable (z_in i k)} (kk : z_in i k → zK Γ lay n ad nL ret (pc + 1) lv (.int (σ b i.toNatClampNeg) :: st) σ e K) : zK Γ lay n ad nL ret pc lv (.int i :: .ref (ad b) :: st) σ (if z_in i k then e else none) K := by
  refine z_chk (fun hi => ?_)
  have kk := kk hi
  obtain ⟨p, l, en, R, s, m, args, below, meth, c, cA, D, W0, lo⟩ := Γ
  obtain ⟨hx, hb, hml, hown, hts, hK, hN, hD, hR, hr, hlk⟩ := hC
  intro out ho ls H locs hl1 hP hS
  exact va_zald hx hb hK hP b 1 (z_arZ hbn hl) rfl (z_in_vp hi) hd (kk out ho ls H locs hl1 hP hS)
theorem z_aald (hC : zX Γ lay n ad cc own nL rm ret) {b k : Nat} {i : Int32} (hd : decode cc pc = .ok (.aaload, 1)) (hbn : b < n) (hl : lay b = .inl (2, k)) {d : Decidable (z_in i k)} (kk : z_in i k → zK Γ lay n ad nL ret (pc + 1) lv (.ref (ad (z_mo (σ b i.toNatClampNeg).toNatClampNeg)) :: st) σ e K) : zK Γ lay n ad nL ret pc lv (.int i :: .ref (ad b) :: st) σ (if z_in i k then e else none) K := by
  refine z_chk (fun hi => ?_)
  have kk := kk hi
  obtain ⟨p, l, en, R, s, m, args, below, meth, c, cA, D, W0, lo⟩ := Γ
  obtain ⟨hx, hb, hml, hown, hts, hK, hN, hD, hR, hr, hlk⟩ := hC
  intro out ho ls H locs hl1 hP hS
  exact va_aldq hx hb hK hP b 2 (z_arM hbn hl) rfl (z_in_vp hi) hd (kk out ho ls H locs hl1 hP hS)
theorem z_iast (hC : zX Γ lay n ad cc own nL rm ret) {b k : Nat} {i x : Int32} (hd : decode cc pc = .ok (.iastore, 1)) (hbn : b < n) (hl : lay b = .inl (0, k)) {d : Decidable (z_in i k)} (kk : z_in i k → zK Γ lay n ad nL ret (pc + 1) lv st (zs σ b i.toNatClampNeg x) e K) : zK Γ lay n ad nL ret pc lv (.int x :: .int i :: .ref (ad b) :: st) σ (if z_in i k then e else none) K := by
  refine z_chk (fun hi => ?_)
  have kk := kk hi
  obtain ⟨p, l, en, R, s, m, args, below, meth, c, cA, D, W0, lo⟩ := Γ
  obtain ⟨hx, hb, hml, hown, hts, hK, hN, hD, hR, hr, hlk⟩ := hC
  intro out ho ls H locs hl1 hP hS
  refine va_iast hx hb hK hP (hD σ) hS b 0 (z_arI hbn hl) rfl (z_in_vp hi) hd (fun H1 locs1 hP1 hD1 hS1 => kk out ho ls H1 locs1 hl1 ?_ hS1)
  have h2 : (Sum.inl (cA 0, k, .inl (upd (σ b) i.toNatClampNeg x)) : va_E) = z_en ad cA (lay b) (upd (σ b) i.toNatClampNeg x) := by rw [hl]; rfl
  rw [h2, z_wd_set hbn] at hP1
  exact hP1
theorem z_zast (hC : zX Γ lay n ad cc own nL rm ret) {b k : Nat} {i x : Int32} (hd : decode cc pc = .ok (.bastore, 1)) (hbn : b < n) (hl : lay b = .inl (1, k)) {d : Decidable (z_in i k)} (kk : z_in i k → zK Γ lay n ad nL ret (pc + 1) lv st (zs σ b i.toNatClampNeg (vp_nar .boolean x)) e K) : zK Γ lay n ad nL ret pc lv (.int x :: .int i :: .ref (ad b) :: st) σ (if z_in i k then e else none) K := by
  refine z_chk (fun hi => ?_)
  have kk := kk hi
  obtain ⟨p, l, en, R, s, m, args, below, meth, c, cA, D, W0, lo⟩ := Γ
  obtain ⟨hx, hb, hml, hown, hts, hK, hN, hD, hR, hr, hlk⟩ := hC
  intro out ho ls H locs hl1 hP hS
  refine va_zast hx hb hK hP (hD σ) hS b 1 (z_arZ hbn hl) rfl (z_in_vp hi) hd (fun H1 locs1 hP1 hD1 hS1 => kk out ho ls H1 locs1 hl1 ?_ hS1)
  have h2 : (Sum.inl (cA 1, k, .inl (upd (σ b) i.toNatClampNeg (vp_nar .boolean x))) : va_E) = z_en ad cA (lay b) (upd (σ b) i.toNatClampNeg (vp_nar .boolean x)) := by rw [hl]; rfl
  rw [h2, z_wd_set hbn] at hP1
  exact hP1
theorem z_aast (hC : zX Γ lay n ad cc own nL rm ret) {b k : Nat} {i x : Int32} {fl : List (Option Nat)} (hd : decode cc pc = .ok (.aastore, 1)) (hbn : b < n) (hl : lay b = .inl (2, k)) (hmn : z_mo x.toNatClampNeg < n) (hml0 : lay (z_mo x.toNatClampNeg) = .inr (4, fl)) {d : Decidable (z_in i k)} (kk : z_in i k → zK Γ lay n ad nL ret (pc + 1) lv st (zs σ b i.toNatClampNeg x) e K) : zK Γ lay n ad nL ret pc lv (.ref (ad (z_mo x.toNatClampNeg)) :: .int i :: .ref (ad b) :: st) σ (if z_in i k then e else none) K := by
  refine z_chk (fun hi => ?_)
  have kk := kk hi
  obtain ⟨p, l, en, R, s, m, args, below, meth, c, cA, D, W0, lo⟩ := Γ
  obtain ⟨hx, hb, hml, hown, hts, hK, hN, hD, hR, hr, hlk⟩ := hC
  intro out ho ls H locs hl1 hP hS
  refine va_astq hx hb hK hP (hD σ) hS b 2 (z_mo x.toNatClampNeg) 4 (r := (RX4, TX4, 15)) (z_arM hbn hl) rfl (z_obj hmn hml0) rfl (z_in_vp hi) hd (fun H1 locs1 hP1 hD1 hS1 => kk out ho ls H1 locs1 hl1 ?_ hS1)
  have h1 : (va_up (fun j => some (ad (z_mo (σ b j).toNatClampNeg))) i.toNatClampNeg (some (ad (z_mo x.toNatClampNeg)))) = (fun j => some (ad (z_mo (upd (σ b) i.toNatClampNeg x j).toNatClampNeg))) := by
    funext j
    by_cases hj : j = i.toNatClampNeg
    · simp [va_up, upd, hj]
    · simp [va_up, upd, hj]
  have h2 : (Sum.inl (cA 2, k, .inr (.inr (.inr (.inr (fun j => some (ad (z_mo (upd (σ b) i.toNatClampNeg x j).toNatClampNeg))))))) : va_E) = z_en ad cA (lay b) (upd (σ b) i.toNatClampNeg x) := by rw [hl]; rfl
  rw [h1, h2, z_wd_set hbn] at hP1
  exact hP1
theorem z_alenZ (hC : zX Γ lay n ad cc own nL rm ret) {b k : Nat} {v : Int32} (hd : decode cc pc = .ok (.arraylength, 1)) (hbn : b < n) (hl : lay b = .inl (1, k)) (hv : Int32.ofNat k = v) (kk : zK Γ lay n ad nL ret (pc + 1) lv (.int v :: st) σ e K) : zK Γ lay n ad nL ret pc lv (.ref (ad b) :: st) σ e K := by
  obtain ⟨p, l, en, R, s, m, args, below, meth, c, cA, D, W0, lo⟩ := Γ
  obtain ⟨hx, hb, hml, hown, hts, hK, hN, hD, hR, hr, hlk⟩ := hC
  intro out ho ls H locs hl1 hP hS
  exact va_alen hx hb hK hP b 1 (z_arZ hbn hl) (ty := .boolean) rfl hv hd (kk out ho ls H locs hl1 hP hS)
theorem z_copy (hC : zX Γ lay n ad cc own nL rm ret) {b0 b1 k0 k1 idx N : Nat} {x : Int32} (hw1 : Cond.methodLink own idx arraycopyName ∈ z_TB) (hw2 : Cond.native arraycopyName ∈ z_TB) (hw3 : Cond.static arraycopyName ∈ z_TB) (hw4 : Cond.initialized "java/lang/System" ∈ z_TB) (hd : decode cc pc = .ok (.invokestatic idx, 3)) (hb0 : b0 < n) (hb1 : b1 < n) (hl0 : lay b0 = .inl (0, k0)) (hl1 : lay b1 = .inl (0, k1)) (hx : x.toNatClampNeg = N ∧ ¬ x < 0 ∧ N ≤ k0 ∧ N ≤ k1) (hR : 1 ≤ rm.frames ∧ (st.map fun v => v.category).sum + (nativeFrameWords "java/lang/System" "arraycopy" 5 + 11) ≤ rm.locals)
    (kk : zK Γ lay n ad nL ret (pc + 3) lv st (va_up σ b1 (va_cpy (σ b0) (σ b1) 0 0 N)) e K) : zK Γ lay n ad nL ret pc lv (.int x :: .int 0 :: .ref (ad b1) :: .int 0 :: .ref (ad b0) :: st) σ e K := by
  obtain ⟨p, l, en, R, s, m, args, below, meth, c, cA, D, W0, lo⟩ := Γ
  obtain ⟨hex, hb, hml, hown, hts, hK, hN, hD, rfl, hr, hlk⟩ := hC
  obtain ⟨rfl, h3, h4, h5⟩ := hx
  intro out ho ls H locs hlL hP hS
  refine va_copyi hex hb (hml.trans hlL.1.symm) hown (hts _ hw1) (hts _ hw2) (hts _ hw3) (hts _ hw4) hK hP (hD σ) hS b0 b1 0 0 (ty := .int) (z_arI hb0 hl0) (z_arI hb1 hl1) rfl rfl rfl (by decide) (by decide) h3 (by simpa using h4) (by simpa using h5) (fun _ _ => rfl) hR.1 hR.2 hd (fun H1 locs1 hP1 hD1 hS1 => kk out ho ls H1 locs1 hlL ?_ hS1)
  have h2 : (Sum.inl (cA 0, k1, .inl (va_cpy (σ b0) (σ b1) (0 : Int32).toNatClampNeg (0 : Int32).toNatClampNeg x.toNatClampNeg)) : va_E) = z_en ad cA (lay b1) (va_cpy (σ b0) (σ b1) 0 0 x.toNatClampNeg) := by rw [hl1]; rfl
  rw [h2, z_wd_set hb1] at hP1
  exact hP1
theorem z_mmax (hC : zX Γ lay n ad cc own nL rm ret) {idx : Nat} {x y : Int32} (hw1 : Cond.methodLink own idx Lib.Math.max.name ∈ z_TB) (hw2 : Cond.static Lib.Math.max.name ∈ z_TB) (hw3 : Cond.initialized "java/lang/Math" ∈ z_TB) (hw4 : Cond.code Lib.Math.max.name Lib.Math.max.code 2 (some .int) ∈ z_TB) (hd : decode cc pc = .ok (.invokestatic idx, 3)) (hR : 1 ≤ rm.frames ∧ (st.map fun v => v.category).sum + 13 ≤ rm.locals) (kk : zK Γ lay n ad nL ret (pc + 3) lv (.int (if x < y then y else x) :: st) σ e K) : zK Γ lay n ad nL ret pc lv (.int y :: .int x :: st) σ e K := by
  obtain ⟨p, l, en, R, s, m, args, below, meth, c, cA, D, W0, lo⟩ := Γ
  obtain ⟨hex, hb, hml, hown, hts, hK, hN, hD, rfl, hr, hlk⟩ := hC
  intro out ho ls H locs hlL hP hS
  exact va_mmax hex hb (hml.trans hlL.1.symm) hown (hts _ hw1) (hts _ hw2) (hts _ hw3) (hts _ hw4) hR.1 hR.2 (Nat.zero_le _) (Nat.zero_le _) hd (kk out ho ls H locs hlL hP hS)
theorem z_mmin (hC : zX Γ lay n ad cc own nL rm ret) {idx : Nat} {x y : Int32} (hw1 : Cond.methodLink own idx Lib.Math.min.name ∈ z_TB) (hw2 : Cond.static Lib.Math.min.name ∈ z_TB) (hw3 : Cond.initialized "java/lang/Math" ∈ z_TB) (hw4 : Cond.code Lib.Math.min.name Lib.Math.min.code 2 (some .int) ∈ z_TB) (hd : decode cc pc = .ok (.invokestatic idx, 3)) (hR : 1 ≤ rm.frames ∧ (st.map fun v => v.category).sum + 13 ≤ rm.locals) (kk : zK Γ lay n ad nL ret (pc + 3) lv (.int (if y < x then y else x) :: st) σ e K) : zK Γ lay n ad nL ret pc lv (.int y :: .int x :: st) σ e K := by
  obtain ⟨p, l, en, R, s, m, args, below, meth, c, cA, D, W0, lo⟩ := Γ
  obtain ⟨hex, hb, hml, hown, hts, hK, hN, hD, rfl, hr, hlk⟩ := hC
  intro out ho ls H locs hlL hP hS
  exact va_mmin hex hb (hml.trans hlL.1.symm) hown (hts _ hw1) (hts _ hw2) (hts _ hw3) (hts _ hw4) hR.1 hR.2 (Nat.zero_le _) (Nat.zero_le _) hd (kk out ho ls H locs hlL hP hS)
/-- returns -/
theorem z_iret {v : Int32} (hC : zX Γ lay n ad cc own nL rm (some .int)) (hd : decode cc pc = .ok (.ireturn, 1)) : zK Γ lay n ad nL (some .int) pc lv [.int v] σ (some (v, σ)) some := by
  obtain ⟨p, l, en, R, s, m, args, below, meth, c, cA, D, W0, lo⟩ := Γ
  obtain ⟨hx, hb, hml, hown, hts, hK, hN, hD, hR, hr, hlk⟩ := hC
  intro out ho ls H locs hl1 hP hS
  have ho : (v, σ) = out := Option.some.inj ho
  subst ho
  exact W.iret (v := v) hx hb hr (fun t ht hW => ⟨⟨v, σ, rfl, rfl, by rw [ht]; exact hP, va_K.moved hW.alike hK, z_N_warm hW hN, hD⟩, hS.F ht⟩) hS.2.2 hd hlk
theorem z_zret {v : Int32} (hC : zX Γ lay n ad cc own nL rm (some .boolean)) (hv : v = 0 ∨ v = 1) (hd : decode cc pc = .ok (.ireturn, 1)) : zK Γ lay n ad nL (some .boolean) pc lv [.int v] σ (some (v, σ)) some := by
  obtain ⟨p, l, en, R, s, m, args, below, meth, c, cA, D, W0, lo⟩ := Γ
  obtain ⟨hx, hb, hml, hown, hts, hK, hN, hD, hR, hr, hlk⟩ := hC
  intro out ho ls H locs hl1 hP hS
  have ho : (v, σ) = out := Option.some.inj ho
  subst ho
  exact W.zret (v := v) hx hb hr (z_nb hv) (fun t ht hW => ⟨⟨v, σ, rfl, rfl, by rw [ht]; exact hP, va_K.moved hW.alike hK, z_N_warm hW hN, hD⟩, hS.F ht⟩) hS.2.2 hd hlk
theorem z_vret {r : Int32} (hC : zX Γ lay n ad cc own nL rm none) (hd : decode cc pc = .ok (.return_, 1)) : zK Γ lay n ad nL none pc lv [] σ (some (r, σ)) some := by
  obtain ⟨p, l, en, R, s, m, args, below, meth, c, cA, D, W0, lo⟩ := Γ
  obtain ⟨hx, hb, hml, hown, hts, hK, hN, hD, hR, hr, hlk⟩ := hC
  intro out ho ls H locs hl1 hP hS
  have ho : (r, σ) = out := Option.some.inj ho
  subst ho
  exact W.vret hx hb hr (fun t ht hW => ⟨⟨σ, rfl, rfl, by rw [ht]; exact hP, va_K.moved hW.alike hK, z_N_warm hW hN, hD⟩, hS.F ht⟩) hS.2.2 hd hlk
end ZH
end
section
def zY (y : MethodName) (cd : ByteArray) (mL : Nat) (ret : Option FieldType) (C : String) (na : Nat) : Prop := Cond.instanceMethod y ∈ z_TB ∧ Cond.selects C y y ∈ z_TB ∧ Cond.initialized C ∈ z_TB ∧ Cond.code y cd mL ret ∈ z_TB ∧ y.cls = C ∧ y.cls ≠ "java/lang/invoke/MethodHandle" ∧ y.cls ≠ "java/lang/invoke/VarHandle" ∧ (parseMethodDescriptor y.desc).map (fun d => d.parameters.length) = some na
def zYs (y : MethodName) (cd : ByteArray) (mL : Nat) (ret : Option FieldType) (na : Nat) : Prop := Cond.static y ∈ z_TB ∧ Cond.initialized y.cls ∈ z_TB ∧ Cond.code y cd mL ret ∈ z_TB ∧ y.cls ≠ "java/lang/invoke/MethodHandle" ∧ y.cls ≠ "java/lang/invoke/VarHandle" ∧ (parseMethodDescriptor y.desc).map (fun d => d.parameters.length) = some na
abbrev zR (rmc : Room) (mL : Nat) (rm : Room) : Prop := rmc.cells = 0 ∧ rmc.slots = 0 ∧ rmc.frames + 1 ≤ rm.frames ∧ 8 + (mL + 11) + rmc.locals ≤ rm.locals
theorem z_blind {lay : Nat → zL} {n : Nat} {ad : Nat → Nat} {cA : Nat → ClassId} {D : va_G} {W0 : va_W} {lo : Nat} {σ : zS} {av : List Value} : FrameBlind (va_Pc av (z_B lay n ad cA D W0 lo σ)) := fun a U g mk q => ⟨q.1, q.2.1, va_K.moved (u := U) (U := U.calling g mk a) (Vm.Alike.refl U.vm) q.2.2.1, z_N_vm rfl q.2.2.2.1, q.2.2.2.2⟩
section ZC
variable {Γ : zG} {lay : Nat → zL} {n : Nat} {ad : Nat → Nat} {cc : ByteArray} {own : String} {nL : Nat} {rm : Room} {ret : Option FieldType} {pc : Nat} {lv : List (Option Value)} {st : List Value} {σ : zS} {α : Type} {e : Option α} {K : α → Option (Int32 × zS)}
variable {y : MethodName} {cd : ByteArray} {mL na idx b ci N : Nat} {rt : FieldType} {rmc : Room} {av : (Nat → Nat) → List Value} {f : zS → Option (Int32 × zS)} {C : String} {T : u_T} {fl : List (Option Nat)} {rest : List Value} {g : Int32 × zS → Option α}
theorem z_callVi (hC : zX Γ lay n ad cc own nL rm ret) (As : List Value) (hM : zM lay n y cd mL (some rt) rmc av f) (hY : zY y cd mL (some rt) C na) (hL : Cond.methodLink own idx y ∈ z_TB) (hd : decode cc pc = .ok (.invokevirtual idx, 3)) (hbn : b < n) (hlay : lay b = .inr (ci, fl)) (hcl : vwCl[ci]? = some (C, T, N)) (hav : av ad = .ref (ad b) :: As) (hna : As.length = na) (hst : st = As.reverse ++ .ref (ad b) :: rest) (hW : (rest.map fun v => v.category).sum ≤ 8) (hR : zR rmc mL rm)
    (kk : ∀ r σ1, f σ = some (r, σ1) → zK Γ lay n ad nL ret (pc + 3) lv (.int r :: rest) σ1 (g (r, σ1)) K) : zK Γ lay n ad nL ret pc lv st σ ((f σ).bind g) K := by
  obtain ⟨p, l, en, R, s, m, args, below, meth, c, cA, D, W0, lo⟩ := Γ
  obtain ⟨hx, hb, hml, hown, hts, hK, hN, hD, rfl, hr, hlk⟩ := hC
  obtain ⟨y1, y2, y3, y4, y5, y6, y7, y8⟩ := hY
  obtain ⟨r1, r2, r3, r4⟩ := hR
  intro out ho ls H locs hl1 hP hS
  subst hst
  cases hf : f σ with
  | none => rw [hf] at ho; cases ho
  | some q =>
    obtain ⟨r0, σ1⟩ := q
    rw [hf] at ho
    have hM' : Met l y (.code y cd mL (some rt) :: z_TB) rmc (va_Pc (.ref (ad b) :: As) (z_B lay n ad cA D W0 lo σ)) (va_Qi (fun r u => (r, u) = (r0, σ1)) (z_B lay n ad cA D W0 lo) (fun q => lo ≤ q)) 0 0 (fun q => lo ≤ q) := hav ▸ hM l ad cA D W0 lo σ (r0, σ1) hf
    refine va_calli (va_runV (As := As) (rest := rest) (C := C) ⟨hx, hb, hml, hown, hts⟩ hM' ⟨callB_of na hts (z_good y4) rfl r1 r2 (y5 ▸ hts _ y3) (hts _ hL) ⟨y6, y7, y8⟩ ⟨r3, r4⟩, hts _ y1, hts _ y2⟩ ⟨z_blind, va_recv hK hP (ci := ci) (q0 := b) hcl (z_obj hbn hlay), fun U hU hWm => ⟨rfl, by rw [hU]; exact hP, va_K.moved hWm.alike hK, z_N_warm hWm hN, hD⟩⟩ rfl hna hl1.1 rfl (lv_room hW) hd ⟨Nat.zero_le _, Nat.zero_le _⟩) hS (fun q _ h => h) (fun q h => h) (fun r u t H1 locs1 ht hvm hw hB hz1 hk1 hS1 => ?_)
    obtain ⟨rfl, rfl⟩ := Prod.mk.inj hw
    exact kk _ _ hf out ho ls H1 locs1 hl1 (by rw [← ht]; exact hB.1) hS1
theorem z_callVv (hC : zX Γ lay n ad cc own nL rm ret) (As : List Value) (hM : zM lay n y cd mL none rmc av f) (hY : zY y cd mL none C na) (hL : Cond.methodLink own idx y ∈ z_TB) (hd : decode cc pc = .ok (.invokevirtual idx, 3)) (hbn : b < n) (hlay : lay b = .inr (ci, fl)) (hcl : vwCl[ci]? = some (C, T, N)) (hav : av ad = .ref (ad b) :: As) (hna : As.length = na) (hst : st = As.reverse ++ .ref (ad b) :: rest) (hW : (rest.map fun v => v.category).sum ≤ 8) (hR : zR rmc mL rm)
    (kk : ∀ r σ1, f σ = some (r, σ1) → zK Γ lay n ad nL ret (pc + 3) lv rest σ1 (g (r, σ1)) K) : zK Γ lay n ad nL ret pc lv st σ ((f σ).bind g) K := by
  obtain ⟨p, l, en, R, s, m, args, below, meth, c, cA, D, W0, lo⟩ := Γ
  obtain ⟨hx, hb, hml, hown, hts, hK, hN, hD, rfl, hr, hlk⟩ := hC
  obtain ⟨y1, y2, y3, y4, y5, y6, y7, y8⟩ := hY
  obtain ⟨r1, r2, r3, r4⟩ := hR
  intro out ho ls H locs hl1 hP hS
  subst hst
  cases hf : f σ with
  | none => rw [hf] at ho; cases ho
  | some q =>
    obtain ⟨r0, σ1⟩ := q
    rw [hf] at ho
    have hM' : Met l y (.code y cd mL none :: z_TB) rmc (va_Pc (.ref (ad b) :: As) (z_B lay n ad cA D W0 lo σ)) (va_Qv (fun u => u = σ1) (z_B lay n ad cA D W0 lo) (fun q => lo ≤ q)) 0 0 (fun q => lo ≤ q) := hav ▸ hM l ad cA D W0 lo σ (r0, σ1) hf
    refine va_callv (va_runV (As := As) (rest := rest) (C := C) ⟨hx, hb, hml, hown, hts⟩ hM' ⟨callB_of na hts (z_good y4) rfl r1 r2 (y5 ▸ hts _ y3) (hts _ hL) ⟨y6, y7, y8⟩ ⟨r3, r4⟩, hts _ y1, hts _ y2⟩ ⟨z_blind, va_recv hK hP (ci := ci) (q0 := b) hcl (z_obj hbn hlay), fun U hU hWm => ⟨rfl, by rw [hU]; exact hP, va_K.moved hWm.alike hK, z_N_warm hWm hN, hD⟩⟩ rfl hna hl1.1 rfl (lv_room hW) hd ⟨Nat.zero_le _, Nat.zero_le _⟩) hS (fun q _ h => h) (fun q h => h) (fun u t H1 locs1 ht hvm hw hB hz1 hk1 hS1 => ?_)
    subst hw
    exact kk _ _ hf out ho ls H1 locs1 hl1 (by rw [← ht]; exact hB.1) hS1
theorem z_callSi (hC : zX Γ lay n ad cc own nL rm ret) (As : List Value) (hM : zM lay n y cd mL (some rt) rmc av f) (hY : zYs y cd mL (some rt) na) (hL : Cond.methodLink own idx y ∈ z_TB) (hd : decode cc pc = .ok (.invokestatic idx, 3)) (hav : av ad = As) (hna : As.length = na) (hst : st = As.reverse ++ rest) (hW : (rest.map fun v => v.category).sum ≤ 8) (hR : zR rmc mL rm)
    (kk : ∀ r σ1, f σ = some (r, σ1) → zK Γ lay n ad nL ret (pc + 3) lv (.int r :: rest) σ1 (g (r, σ1)) K) : zK Γ lay n ad nL ret pc lv st σ ((f σ).bind g) K := by
  obtain ⟨p, l, en, R, s, m, args, below, meth, c, cA, D, W0, lo⟩ := Γ
  obtain ⟨hx, hb, hml, hown, hts, hK, hN, hD, rfl, hr, hlk⟩ := hC
  obtain ⟨y1, y3, y4, y6, y7, y8⟩ := hY
  obtain ⟨r1, r2, r3, r4⟩ := hR
  intro out ho ls H locs hl1 hP hS
  subst hst
  cases hf : f σ with
  | none => rw [hf] at ho; cases ho
  | some q =>
    obtain ⟨r0, σ1⟩ := q
    rw [hf] at ho
    have hM' : Met l y (.code y cd mL (some rt) :: z_TB) rmc (va_Pc As (z_B lay n ad cA D W0 lo σ)) (va_Qi (fun r u => (r, u) = (r0, σ1)) (z_B lay n ad cA D W0 lo) (fun q => lo ≤ q)) 0 0 (fun q => lo ≤ q) := hav ▸ hM l ad cA D W0 lo σ (r0, σ1) hf
    refine va_calli (va_runS (As := As) (rest := rest) ⟨hx, hb, hml, hown, hts⟩ hM' ⟨callB_of na hts (z_good y4) rfl r1 r2 (hts _ y3) (hts _ hL) ⟨y6, y7, y8⟩ ⟨r3, r4⟩, hts _ y1⟩ ⟨z_blind, fun U hU hWm => ⟨rfl, by rw [hU]; exact hP, va_K.moved hWm.alike hK, z_N_warm hWm hN, hD⟩⟩ rfl hna hl1.1 rfl (lv_room hW) hd ⟨Nat.zero_le _, Nat.zero_le _⟩) hS (fun q _ h => h) (fun q h => h) (fun r u t H1 locs1 ht hvm hw hB hz1 hk1 hS1 => ?_)
    obtain ⟨rfl, rfl⟩ := Prod.mk.inj hw
    exact kk _ _ hf out ho ls H1 locs1 hl1 (by rw [← ht]; exact hB.1) hS1
theorem z_callSv (hC : zX Γ lay n ad cc own nL rm ret) (As : List Value) (hM : zM lay n y cd mL none rmc av f) (hY : zYs y cd mL none na) (hL : Cond.methodLink own idx y ∈ z_TB) (hd : decode cc pc = .ok (.invokestatic idx, 3)) (hav : av ad = As) (hna : As.length = na) (hst : st = As.reverse ++ rest) (hW : (rest.map fun v => v.category).sum ≤ 8) (hR : zR rmc mL rm)
    (kk : ∀ r σ1, f σ = some (r, σ1) → zK Γ lay n ad nL ret (pc + 3) lv rest σ1 (g (r, σ1)) K) : zK Γ lay n ad nL ret pc lv st σ ((f σ).bind g) K := by
  obtain ⟨p, l, en, R, s, m, args, below, meth, c, cA, D, W0, lo⟩ := Γ
  obtain ⟨hx, hb, hml, hown, hts, hK, hN, hD, rfl, hr, hlk⟩ := hC
  obtain ⟨y1, y3, y4, y6, y7, y8⟩ := hY
  obtain ⟨r1, r2, r3, r4⟩ := hR
  intro out ho ls H locs hl1 hP hS
  subst hst
  cases hf : f σ with
  | none => rw [hf] at ho; cases ho
  | some q =>
    obtain ⟨r0, σ1⟩ := q
    rw [hf] at ho
    have hM' : Met l y (.code y cd mL none :: z_TB) rmc (va_Pc As (z_B lay n ad cA D W0 lo σ)) (va_Qv (fun u => u = σ1) (z_B lay n ad cA D W0 lo) (fun q => lo ≤ q)) 0 0 (fun q => lo ≤ q) := hav ▸ hM l ad cA D W0 lo σ (r0, σ1) hf
    refine va_callv (va_runS (As := As) (rest := rest) ⟨hx, hb, hml, hown, hts⟩ hM' ⟨callB_of na hts (z_good y4) rfl r1 r2 (hts _ y3) (hts _ hL) ⟨y6, y7, y8⟩ ⟨r3, r4⟩, hts _ y1⟩ ⟨z_blind, fun U hU hWm => ⟨rfl, by rw [hU]; exact hP, va_K.moved hWm.alike hK, z_N_warm hWm hN, hD⟩⟩ rfl hna hl1.1 rfl (lv_room hW) hd ⟨Nat.zero_le _, Nat.zero_le _⟩) hS (fun q _ h => h) (fun q h => h) (fun u t H1 locs1 ht hvm hw hB hz1 hk1 hS1 => ?_)
    subst hw
    exact kk _ _ hf out ho ls H1 locs1 hl1 (by rw [← ht]; exact hB.1) hS1
/-- a private static method of a nest mate -/
theorem z_callSNi (hC : zX Γ lay n ad cc own nL rm ret) (As : List Value) {host : String} (hM : zM lay n y cd mL (some rt) rmc av f) (hY : zYs y cd mL (some rt) na) (hL : (own, idx, y, host) ∈ z_nest) (hd : decode cc pc = .ok (.invokestatic idx, 3)) (hav : av ad = As) (hna : As.length = na) (hst : st = As.reverse ++ rest) (hW : (rest.map fun v => v.category).sum ≤ 8) (hR : zR rmc mL rm)
    (kk : ∀ r σ1, f σ = some (r, σ1) → zK Γ lay n ad nL ret (pc + 3) lv (.int r :: rest) σ1 (g (r, σ1)) K) : zK Γ lay n ad nL ret pc lv st σ ((f σ).bind g) K := by
  obtain ⟨p, l, en, R, s, m, args, below, meth, c, cA, D, W0, lo⟩ := Γ
  obtain ⟨hx, hb, hml, hown, hts, hK, hN, hD, rfl, hr, hlk⟩ := hC
  obtain ⟨y1, y3, y4, y6, y7, y8⟩ := hY
  obtain ⟨r1, r2, r3, r4⟩ := hR
  intro out ho ls H locs hl1 hP hS
  subst hst
  cases hf : f σ with
  | none => rw [hf] at ho; cases ho
  | some q =>
    obtain ⟨r0, σ1⟩ := q
    rw [hf] at ho
    have hM' : Met l y (.code y cd mL (some rt) :: z_TB) rmc (va_Pc As (z_B lay n ad cA D W0 lo σ)) (va_Qi (fun r u => (r, u) = (r0, σ1)) (z_B lay n ad cA D W0 lo) (fun q => lo ≤ q)) 0 0 (fun q => lo ≤ q) := hav ▸ hM l ad cA D W0 lo σ (r0, σ1) hf
    refine va_calli (va_runSN (As := As) (rest := rest) (host := host) ⟨hx, hb, hml, hown, hts⟩ hM' ⟨va_cnB na hts (z_good y4) rfl r1 r2 (hN _ hL) (hts _ y3) ⟨y6, y7, y8⟩ ⟨r3, r4⟩, hts _ y1, trivial⟩ ⟨z_blind, fun U hU hWm => ⟨rfl, by rw [hU]; exact hP, va_K.moved hWm.alike hK, z_N_warm hWm hN, hD⟩⟩ rfl hna hl1.1 rfl (lv_room hW) hd ⟨Nat.zero_le _, Nat.zero_le _⟩) hS (fun q _ h => h) (fun q h => h) (fun r u t H1 locs1 ht hvm hw hB hz1 hk1 hS1 => ?_)
    obtain ⟨rfl, rfl⟩ := Prod.mk.inj hw
    exact kk _ _ hf out ho ls H1 locs1 hl1 (by rw [← ht]; exact hB.1) hS1
/-- switches -/
theorem z_tabIn (hC : zX Γ lay n ad cc own nL rm ret) {dflt lo hi off : Int} {offs : Array Int} {len : Nat} {x : Int32} (tgt : Nat) (hd : decode cc pc = .ok (.tableswitch dflt lo hi offs, len)) (v : Int32) (hxv : x = v) (h1 : ¬ v.toInt < lo) (h2 : ¬ hi < v.toInt) (ho1 : offs[(v.toInt - lo).toNat]? = some off) (ht : (pc : Int) + off = (tgt : Int)) (kk : zK Γ lay n ad nL ret tgt lv st σ e K) : zK Γ lay n ad nL ret pc lv (.int x :: st) σ e K := by
  subst hxv
  obtain ⟨p, l, en, R, s, m, args, below, meth, c, cA, D, W0, lo⟩ := Γ
  obtain ⟨hx, hb, hml, hown, hts, hK, hN, hD, hR, hr, hlk⟩ := hC
  intro out ho ls H locs hl1 hP hS
  exact lv_tableIn hx hb hd h1 h2 ho1 ht (kk out ho ls H locs hl1 hP hS)
theorem z_tabOut (hC : zX Γ lay n ad cc own nL rm ret) {dflt lo hi : Int} {offs : Array Int} {len : Nat} {x : Int32} (tgt : Nat) (hd : decode cc pc = .ok (.tableswitch dflt lo hi offs, len)) (h : x.toInt < lo ∨ hi < x.toInt) (ht : (pc : Int) + dflt = (tgt : Int)) (kk : zK Γ lay n ad nL ret tgt lv st σ e K) : zK Γ lay n ad nL ret pc lv (.int x :: st) σ e K := by
  obtain ⟨p, l, en, R, s, m, args, below, meth, c, cA, D, W0, lo⟩ := Γ
  obtain ⟨hx, hb, hml, hown, hts, hK, hN, hD, hR, hr, hlk⟩ := hC
  intro out ho ls H locs hl1 hP hS
  exact lv_tableOut hx hb hd h ht (kk out ho ls H locs hl1 hP hS)
theorem z_look (hC : zX Γ lay n ad cc own nL rm ret) {dflt off : Int} {ps : Array (Int × Int)} {len : Nat} {x : Int32} (tgt : Nat) (hd : decode cc pc = .ok (.lookupswitch dflt ps, len)) (hp : (ps.toList.zip (ps.toList.drop 1)).all (fun (a, next) => a.1 < next.1) = true) (hof : Op.lookupswitch.offset ps.toList dflt x.toInt = off) (ht : (pc : Int) + off = (tgt : Int)) (kk : zK Γ lay n ad nL ret tgt lv st σ e K) : zK Γ lay n ad nL ret pc lv (.int x :: st) σ e K := by
  obtain ⟨p, l, en, R, s, m, args, below, meth, c, cA, D, W0, lo⟩ := Γ
  obtain ⟨hx, hb, hml, hown, hts, hK, hN, hD, hR, hr, hlk⟩ := hC
  intro out ho ls H locs hl1 hP hS
  exact lv_lookup hx hb hd hp hof ht (kk out ho ls H locs hl1 hP hS)
end ZC
/-- loops: one turn answers whether it goes on -/
def z_loop {α : Type} (b : α → Option (Bool × α)) : Nat → α → Option α
  | 0, _ => none
  | k + 1, a => (b a).bind (fun q => if q.1 = true then z_loop b k q.2 else some q.2)
theorem z_lp {Γ : zG} {lay : Nat → zL} {n : Nat} {ad : Nat → Nat} {nL : Nat} {ret : Option FieldType} {α : Type} {b : α → Option (Bool × α)} {lvf : α → List (Option Value)} {sg : α → zS} {st : List Value} {pc x : Nat}
    (hbody : ∀ (a : α) (K' : Bool × α → Option (Int32 × zS)), (∀ a', zZ Γ lay n ad nL ret pc (lvf a') st (sg a') (K' (true, a'))) → (∀ a', zZ Γ lay n ad nL ret x (lvf a') st (sg a') (K' (false, a'))) → zK Γ lay n ad nL ret pc (lvf a) st (sg a) (b a) K') :
    ∀ (k : Nat) (a : α) (K : α → Option (Int32 × zS)), (∀ a', zZ Γ lay n ad nL ret x (lvf a') st (sg a') (K a')) → zK Γ lay n ad nL ret pc (lvf a) st (sg a) (z_loop b k a) K
  | 0, a, K, _ => z_none (α := α)
  | k + 1, a, K, hx => by
    have h := hbody a (fun q => (if q.1 = true then z_loop b k q.2 else some q.2).bind K) (fun a' => z_lp hbody k a' K hx) (fun a' => hx a')
    unfold zK at h ⊢
    rw [z_loop, Option.bind_assoc]
    exact h
theorem z_lpb {Γ : zG} {lay : Nat → zL} {n : Nat} {ad : Nat → Nat} {nL : Nat} {ret : Option FieldType} {α β : Type} {b : α → Option (Bool × α)} {lvf : α → List (Option Value)} {sg : α → zS} {st : List Value} {pc x : Nat} {σ : zS} {lv : List (Option Value)} {g : α → Option β} {K : β → Option (Int32 × zS)} (k : Nat) (a : α) (hlv : lv = lvf a) (hsg : σ = sg a)
    (hbody : ∀ (a : α) (K' : Bool × α → Option (Int32 × zS)), (∀ a', zZ Γ lay n ad nL ret pc (lvf a') st (sg a') (K' (true, a'))) → (∀ a', zZ Γ lay n ad nL ret x (lvf a') st (sg a') (K' (false, a'))) → zK Γ lay n ad nL ret pc (lvf a) st (sg a) (b a) K')
    (kk : ∀ a', zK Γ lay n ad nL ret x (lvf a') st (sg a') (g a') K) : zK Γ lay n ad nL ret pc lv st σ ((z_loop b k a).bind g) K := by
  subst hlv; subst hsg
  have h := z_lp hbody k a (fun q => (g q).bind K) (fun a' => kk a')
  unfold zK at h ⊢
  rw [Option.bind_assoc]
  exact h
end
