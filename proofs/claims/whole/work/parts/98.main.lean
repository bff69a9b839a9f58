theorem sm_all : ∃ R, SmAll R := ⟨RR, r0, sm_room, sm_door, sm_walker, sm_deed, sm_condition, fun a b c h => sm_event a b c h, fun a b c h => sm_timer a b c h, sm_daemon, sm_act, sm_pace, sm_turn, sm_back, sm_told, sm_count, sm_counter, sm_left, sm_is, sm_walks, sm_way, sm_row, sm_minutes⟩
/-- from the entry, for every script of at most 2048 ints, the law comes to its end with true -/
theorem whole_start {p : Program} {e : Env} {s : State} {m : MethodId} {below : List Frame} {meth : Method} {c : Code} (l : Launch) {b L : Nat} {xs : Nat → Int32} (hL : L ≤ 2048) (C0 : lw_At p s m meth c b L xs) : W p l e room_1 s m #[Value.ref b] below meth c s.heap [] 0 0 (lw_Z below #[Value.ref b] s) (entryFrame m ([Value.ref b] : List Value).toArray 4) := by
  obtain ⟨R0, hA⟩ := sm_all
  exact whole_of hA l hL C0
