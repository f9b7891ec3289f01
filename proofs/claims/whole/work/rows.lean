section
-- ===== PART A: goes FIRST, ahead of the names: the tables' words, and 'selects' of the private methods out of them =====
/-- a private method of a class that the tables say can be made, by its rows of tables_1 -/
def lw_okq (q : MethodName × Nat) : Prop := (q.1.cls ≠ "java/lang/invoke/MethodHandle" ∧ q.1.cls ≠ "java/lang/invoke/VarHandle") ∧ Cond.instantiable q.1.cls q.2 ∈ tables_1 ∧ Cond.privateMethod q.1 ∈ tables_1 ∧ Cond.instanceMethod q.1 ∈ tables_1
theorem lw_p0 : lw_okq (⟨"OverLine", "thingOf", "(I)LOverLine$Thing;"⟩, 6) := ⟨⟨by decide +kernel, by decide +kernel⟩, List.mem_of_getElem? (i := 10) (by decide +kernel), List.mem_of_getElem? (i := 131) (by decide +kernel), List.mem_of_getElem? (i := 132) (by decide +kernel)⟩
theorem lw_p1 : lw_okq (⟨"OverLine$Thing", "settle", "()V"⟩, 7) := ⟨⟨by decide +kernel, by decide +kernel⟩, List.mem_of_getElem? (i := 72) (by decide +kernel), List.mem_of_getElem? (i := 145) (by decide +kernel), List.mem_of_getElem? (i := 146) (by decide +kernel)⟩
theorem lw_p2 : lw_okq (⟨"OverLine$Thing", "canMove", "()Z"⟩, 7) := ⟨⟨by decide +kernel, by decide +kernel⟩, List.mem_of_getElem? (i := 72) (by decide +kernel), List.mem_of_getElem? (i := 173) (by decide +kernel), List.mem_of_getElem? (i := 174) (by decide +kernel)⟩
theorem lw_p3 : lw_okq (⟨"OverLine", "groundOf", "(I)LOverLine$Places;"⟩, 6) := ⟨⟨by decide +kernel, by decide +kernel⟩, List.mem_of_getElem? (i := 10) (by decide +kernel), List.mem_of_getElem? (i := 221) (by decide +kernel), List.mem_of_getElem? (i := 222) (by decide +kernel)⟩
theorem lw_p4 : lw_okq (⟨"OverLine$Places", "spread", "(I)V"⟩, 1) := ⟨⟨by decide +kernel, by decide +kernel⟩, List.mem_of_getElem? (i := 21) (by decide +kernel), List.mem_of_getElem? (i := 305) (by decide +kernel), List.mem_of_getElem? (i := 306) (by decide +kernel)⟩
theorem lw_p5 : lw_okq (⟨"OverLine$Tally", "advance", "(LOverLine$Thing;I)V"⟩, 3) := ⟨⟨by decide +kernel, by decide +kernel⟩, List.mem_of_getElem? (i := 32) (by decide +kernel), List.mem_of_getElem? (i := 321) (by decide +kernel), List.mem_of_getElem? (i := 322) (by decide +kernel)⟩
theorem lw_p6 : lw_okq (⟨"OverLine$Tally", "countTick", "(LOverLine$Places;)V"⟩, 3) := ⟨⟨by decide +kernel, by decide +kernel⟩, List.mem_of_getElem? (i := 32) (by decide +kernel), List.mem_of_getElem? (i := 328) (by decide +kernel), List.mem_of_getElem? (i := 329) (by decide +kernel)⟩
theorem lw_p7 : lw_okq (⟨"OverLine$Tally", "narrow", "(LOverLine$Box;)V"⟩, 3) := ⟨⟨by decide +kernel, by decide +kernel⟩, List.mem_of_getElem? (i := 32) (by decide +kernel), List.mem_of_getElem? (i := 337) (by decide +kernel), List.mem_of_getElem? (i := 338) (by decide +kernel)⟩
theorem lw_p8 : lw_okq (⟨"OverLine", "sightsOfAll", "()I"⟩, 6) := ⟨⟨by decide +kernel, by decide +kernel⟩, List.mem_of_getElem? (i := 10) (by decide +kernel), List.mem_of_getElem? (i := 368) (by decide +kernel), List.mem_of_getElem? (i := 369) (by decide +kernel)⟩
theorem lw_p9 : lw_okq (⟨"OverLineModel", "isThing", "(I)Z"⟩, 12) := ⟨⟨by decide +kernel, by decide +kernel⟩, List.mem_of_getElem? (i := 372) (by decide +kernel), List.mem_of_getElem? (i := 427) (by decide +kernel), List.mem_of_getElem? (i := 428) (by decide +kernel)⟩
theorem lw_p10 : lw_okq (⟨"OverLineModel", "low", "(IIZ)I"⟩, 12) := ⟨⟨by decide +kernel, by decide +kernel⟩, List.mem_of_getElem? (i := 372) (by decide +kernel), List.mem_of_getElem? (i := 434) (by decide +kernel), List.mem_of_getElem? (i := 435) (by decide +kernel)⟩
theorem lw_p11 : lw_okq (⟨"OverLineModel", "high", "(IIZ)I"⟩, 12) := ⟨⟨by decide +kernel, by decide +kernel⟩, List.mem_of_getElem? (i := 372) (by decide +kernel), List.mem_of_getElem? (i := 438) (by decide +kernel), List.mem_of_getElem? (i := 439) (by decide +kernel)⟩
theorem lw_p12 : lw_okq (⟨"OverLineModel", "isGround", "(I)Z"⟩, 12) := ⟨⟨by decide +kernel, by decide +kernel⟩, List.mem_of_getElem? (i := 372) (by decide +kernel), List.mem_of_getElem? (i := 462) (by decide +kernel), List.mem_of_getElem? (i := 463) (by decide +kernel)⟩
theorem lw_p13 : lw_okq (⟨"OverLineModel", "canAsk", "(IIII)Z"⟩, 12) := ⟨⟨by decide +kernel, by decide +kernel⟩, List.mem_of_getElem? (i := 372) (by decide +kernel), List.mem_of_getElem? (i := 478) (by decide +kernel), List.mem_of_getElem? (i := 479) (by decide +kernel)⟩
theorem lw_p14 : lw_okq (⟨"OverLineModel", "spreads", "(IZ)V"⟩, 12) := ⟨⟨by decide +kernel, by decide +kernel⟩, List.mem_of_getElem? (i := 372) (by decide +kernel), List.mem_of_getElem? (i := 482) (by decide +kernel), List.mem_of_getElem? (i := 483) (by decide +kernel)⟩
theorem lw_p15 : lw_okq (⟨"OverLineModel", "keeps", "(IIIIZ)V"⟩, 12) := ⟨⟨by decide +kernel, by decide +kernel⟩, List.mem_of_getElem? (i := 372) (by decide +kernel), List.mem_of_getElem? (i := 489) (by decide +kernel), List.mem_of_getElem? (i := 490) (by decide +kernel)⟩
def lw_privs_1 : List (MethodName × Nat) := [(⟨"OverLine", "thingOf", "(I)LOverLine$Thing;"⟩, 6), (⟨"OverLine$Thing", "settle", "()V"⟩, 7), (⟨"OverLine$Thing", "canMove", "()Z"⟩, 7), (⟨"OverLine", "groundOf", "(I)LOverLine$Places;"⟩, 6), (⟨"OverLine$Places", "spread", "(I)V"⟩, 1), (⟨"OverLine$Tally", "advance", "(LOverLine$Thing;I)V"⟩, 3), (⟨"OverLine$Tally", "countTick", "(LOverLine$Places;)V"⟩, 3), (⟨"OverLine$Tally", "narrow", "(LOverLine$Box;)V"⟩, 3), (⟨"OverLine", "sightsOfAll", "()I"⟩, 6), (⟨"OverLineModel", "isThing", "(I)Z"⟩, 12), (⟨"OverLineModel", "low", "(IIZ)I"⟩, 12), (⟨"OverLineModel", "high", "(IIZ)I"⟩, 12), (⟨"OverLineModel", "isGround", "(I)Z"⟩, 12), (⟨"OverLineModel", "canAsk", "(IIII)Z"⟩, 12), (⟨"OverLineModel", "spreads", "(IZ)V"⟩, 12), (⟨"OverLineModel", "keeps", "(IIIIZ)V"⟩, 12)]
theorem lw_r1 : ∀ q ∈ lw_privs_1, lw_okq q := List.forall_mem_cons.mpr ⟨lw_p0, List.forall_mem_cons.mpr ⟨lw_p1, List.forall_mem_cons.mpr ⟨lw_p2, List.forall_mem_cons.mpr ⟨lw_p3, List.forall_mem_cons.mpr ⟨lw_p4, List.forall_mem_cons.mpr ⟨lw_p5, List.forall_mem_cons.mpr ⟨lw_p6, List.forall_mem_cons.mpr ⟨lw_p7, List.forall_mem_cons.mpr ⟨lw_p8, List.forall_mem_cons.mpr ⟨lw_p9, List.forall_mem_cons.mpr ⟨lw_p10, List.forall_mem_cons.mpr ⟨lw_p11, List.forall_mem_cons.mpr ⟨lw_p12, List.forall_mem_cons.mpr ⟨lw_p13, List.forall_mem_cons.mpr ⟨lw_p14, List.forall_mem_cons.mpr ⟨lw_p15, fun _ h => absurd h List.not_mem_nil⟩⟩⟩⟩⟩⟩⟩⟩⟩⟩⟩⟩⟩⟩⟩⟩
def lw_privs : List (MethodName × Nat) := lw_privs_1
def lw_tbl : List Cond := k2_sels lw_privs ++ tables_1
theorem lw_privs_ok : ∀ q ∈ lw_privs, lw_okq q := lw_r1
end
section
/-! ===== BEGIN words of one list among another's, by their places ===== -/
theorem goodIn_r {big : List Cond} (ws : List Cond) (ps : List Nat) (hp : ws = ps.filterMap (fun i => big[i]?)) (h : ws.all goodWord = true) : GoodIn big ws := by
  intro w hw
  have h1 := List.all_eq_true.mp h w hw
  rw [hp] at hw
  obtain ⟨i, -, hi⟩ := List.mem_filterMap.mp hw
  have hm : w ∈ big := by first | exact List.mem_of_getElem? hi | exact List.getElem?_mem hi
  exact ⟨hm, good_of_word h1⟩
theorem goodIn_app {big a b : List Cond} (ha : GoodIn big a) (hb : GoodIn big b) : GoodIn big (a ++ b) := fun w h => (List.mem_append.mp h).elim (ha w) (hb w)
theorem goodIn_ca {big a b : List Cond} {c : Cond} (ha : GoodIn big (c :: a)) (hb : GoodIn big b) : GoodIn big (c :: (a ++ b)) := fun w h => (List.mem_cons.mp h).elim (fun e => ha w (List.mem_cons.mpr (Or.inl e))) (fun h => (List.mem_append.mp h).elim (fun h => ha w (List.mem_cons.mpr (Or.inr h))) (hb w))
theorem goodIn_sub {big ws : List Cond} (hm : ∀ w ∈ ws, w ∈ big) (h : ws.all goodWord = true) : GoodIn big ws := fun w hw => ⟨hm w hw, good_of_word (List.all_eq_true.mp h w hw)⟩
/-! ===== END ===== -/

/-! ===== BEGIN printed: names, fields, word lists, decode rows ===== -/
def RX0 : String := "OverLine$Box"
def TX0 : u_T := fun k => match k with
  | 0 => ("OverLine$Box", "lowX", "I", false)
  | 1 => ("OverLine$Box", "highX", "I", false)
  | 2 => ("OverLine$Box", "lowY", "I", false)
  | _ => ("OverLine$Box", "highY", "I", false)
def tyX0 : Nat → FieldType := fun k => match k with
  | 0 => .int
  | 1 => .int
  | 2 => .int
  | _ => .int
abbrev wsX00 : List Cond := u_ws RX0 TX0 4
theorem nmX0 : ∀ a, a < 4 → ∀ b, b < 4 → a ≠ b → (TX0 a).2.1 ≠ (TX0 b).2.1 := by decide +kernel
theorem tyX0_ok : ∀ k, k < 4 → parseFieldDescriptor (TX0 k).2.2.1 = some (tyX0 k) := by decide +kernel
abbrev cX0_init : ByteArray := prog_2_method_1_code
def yX0_init : MethodName := ⟨RX0, "<init>", "(IIII)V"⟩
abbrev cX0_setToField : ByteArray := prog_2_method_2_code
def yX0_setToField : MethodName := ⟨RX0, "setToField", "()V"⟩
abbrev cX0_keepAround : ByteArray := prog_2_method_3_code
def yX0_keepAround : MethodName := ⟨RX0, "keepAround", "(III)V"⟩
abbrev cX0_keepNear : ByteArray := prog_2_method_4_code
def yX0_keepNear : MethodName := ⟨RX0, "keepNear", "(LOverLine$Box;I)V"⟩
abbrev cX0_isEmpty : ByteArray := prog_2_method_5_code
def yX0_isEmpty : MethodName := ⟨RX0, "isEmpty", "()Z"⟩
abbrev cX0_size : ByteArray := prog_2_method_6_code
def yX0_size : MethodName := ⟨RX0, "size", "()I"⟩
abbrev cX0_rowBits : ByteArray := prog_2_method_7_code
def yX0_rowBits : MethodName := ⟨RX0, "rowBits", "()J"⟩
abbrev cX0_leastApart : ByteArray := prog_2_method_8_code
def yX0_leastApart : MethodName := ⟨RX0, "leastApart", "(LOverLine$Box;)I"⟩
abbrev cX0_mostApart : ByteArray := prog_2_method_9_code
def yX0_mostApart : MethodName := ⟨RX0, "mostApart", "(LOverLine$Box;)I"⟩
def RX1 : String := "OverLine$Places"
def TX1 : u_T := fun k => match k with
  | _ => ("OverLine$Places", "rows", "[J", true)
def tyX1 : Nat → FieldType := fun k => match k with
  | _ => .array .long
abbrev wsX10 : List Cond := u_ws RX1 TX1 1
theorem nmX1 : ∀ a, a < 1 → ∀ b, b < 1 → a ≠ b → (TX1 a).2.1 ≠ (TX1 b).2.1 := by decide +kernel
theorem tyX1_ok : ∀ k, k < 1 → parseFieldDescriptor (TX1 k).2.2.1 = some (tyX1 k) := by decide +kernel
abbrev cX1_init : ByteArray := prog_3_method_1_code
def yX1_init : MethodName := ⟨RX1, "<init>", "()V"⟩
abbrev cX1_holds : ByteArray := prog_3_method_2_code
def yX1_holds : MethodName := ⟨RX1, "holds", "(II)Z"⟩
abbrev cX1_size : ByteArray := prog_3_method_3_code
def yX1_size : MethodName := ⟨RX1, "size", "()I"⟩
abbrev cX1_isEmpty : ByteArray := prog_3_method_4_code
def yX1_isEmpty : MethodName := ⟨RX1, "isEmpty", "()Z"⟩
abbrev cX1_meets : ByteArray := prog_3_method_5_code
def yX1_meets : MethodName := ⟨RX1, "meets", "(LOverLine$Box;)Z"⟩
abbrev cX1_covers : ByteArray := prog_3_method_6_code
def yX1_covers : MethodName := ⟨RX1, "covers", "(LOverLine$Box;)Z"⟩
abbrev cX1_add : ByteArray := prog_3_method_7_code
def yX1_add : MethodName := ⟨RX1, "add", "(LOverLine$Box;)V"⟩
abbrev cX1_remove : ByteArray := prog_3_method_8_code
def yX1_remove : MethodName := ⟨RX1, "remove", "(LOverLine$Box;)V"⟩
abbrev cX1_keep : ByteArray := prog_3_method_9_code
def yX1_keep : MethodName := ⟨RX1, "keep", "(LOverLine$Box;)V"⟩
abbrev cX1_setTo : ByteArray := prog_3_method_10_code
def yX1_setTo : MethodName := ⟨RX1, "setTo", "(LOverLine$Box;)V"⟩
abbrev cX1_setToAllBut : ByteArray := prog_3_method_11_code
def yX1_setToAllBut : MethodName := ⟨RX1, "setToAllBut", "(LOverLine$Places;)V"⟩
abbrev cX1_drop : ByteArray := prog_3_method_12_code
def yX1_drop : MethodName := ⟨RX1, "drop", "(LOverLine$Places;)V"⟩
abbrev cX1_takeWithin : ByteArray := prog_3_method_13_code
def yX1_takeWithin : MethodName := ⟨RX1, "takeWithin", "(LOverLine$Places;LOverLine$Places;)V"⟩
abbrev cX1_widen : ByteArray := prog_3_method_14_code
def yX1_widen : MethodName := ⟨RX1, "widen", "(I)V"⟩
abbrev cX1_spread : ByteArray := prog_3_method_15_code
def yX1_spread : MethodName := ⟨RX1, "spread", "(I)V"⟩
def RX2 : String := "OverLine$Tally"
def TX2 : u_T := fun k => match k with
  | 0 => ("OverLine$Tally", "levels", "[LOverLine$Places;", true)
  | 1 => ("OverLine$Tally", "first", "I", false)
  | _ => ("OverLine$Tally", "full", "I", false)
def tyX2 : Nat → FieldType := fun k => match k with
  | 0 => .array (.object "OverLine$Places")
  | 1 => .int
  | _ => .int
abbrev wsX20 : List Cond := u_ws RX2 TX2 3
theorem nmX2 : ∀ a, a < 3 → ∀ b, b < 3 → a ≠ b → (TX2 a).2.1 ≠ (TX2 b).2.1 := by decide +kernel
theorem tyX2_ok : ∀ k, k < 3 → parseFieldDescriptor (TX2 k).2.2.1 = some (tyX2 k) := by decide +kernel
abbrev cX2_init : ByteArray := prog_4_method_1_code
def yX2_init : MethodName := ⟨RX2, "<init>", "()V"⟩
abbrev cX2_fewest : ByteArray := prog_4_method_2_code
def yX2_fewest : MethodName := ⟨RX2, "fewest", "(LOverLine$Thing;LOverLine$Places;II)I"⟩
abbrev cX2_advance : ByteArray := prog_4_method_3_code
def yX2_advance : MethodName := ⟨RX2, "advance", "(LOverLine$Thing;I)V"⟩
abbrev cX2_countTick : ByteArray := prog_4_method_4_code
def yX2_countTick : MethodName := ⟨RX2, "countTick", "(LOverLine$Places;)V"⟩
abbrev cX2_narrow : ByteArray := prog_4_method_5_code
def yX2_narrow : MethodName := ⟨RX2, "narrow", "(LOverLine$Box;)V"⟩
def RX3 : String := "OverLine$Thing"
def TX3 : u_T := fun k => match k with
  | 0 => ("OverLine$Thing", "speed", "I", true)
  | 1 => ("OverLine$Thing", "ticks", "[I", true)
  | 2 => ("OverLine$Thing", "wheres", "[I", true)
  | 3 => ("OverLine$Thing", "radii", "[I", true)
  | 4 => ("OverLine$Thing", "reach", "[LOverLine$Box;", true)
  | 5 => ("OverLine$Thing", "sightsKept", "I", false)
  | _ => ("OverLine$Thing", "sightsLeftOut", "I", false)
def tyX3 : Nat → FieldType := fun k => match k with
  | 0 => .int
  | 1 => .array .int
  | 2 => .array .int
  | 3 => .array .int
  | 4 => .array (.object "OverLine$Box")
  | 5 => .int
  | _ => .int
abbrev wsX30 : List Cond := u_ws RX3 TX3 7
theorem nmX3 : ∀ a, a < 7 → ∀ b, b < 7 → a ≠ b → (TX3 a).2.1 ≠ (TX3 b).2.1 := by decide +kernel
theorem tyX3_ok : ∀ k, k < 7 → parseFieldDescriptor (TX3 k).2.2.1 = some (tyX3 k) := by decide +kernel
abbrev cX3_init : ByteArray := prog_5_method_1_code
def yX3_init : MethodName := ⟨RX3, "<init>", "(I)V"⟩
abbrev cX3_sights : ByteArray := prog_5_method_2_code
def yX3_sights : MethodName := ⟨RX3, "sights", "()I"⟩
abbrev cX3_leftOut : ByteArray := prog_5_method_3_code
def yX3_leftOut : MethodName := ⟨RX3, "leftOut", "()I"⟩
abbrev cX3_reachAt : ByteArray := prog_5_method_4_code
def yX3_reachAt : MethodName := ⟨RX3, "reachAt", "(I)LOverLine$Box;"⟩
abbrev cX3_takeSight : ByteArray := prog_5_method_5_code
def yX3_takeSight : MethodName := ⟨RX3, "takeSight", "(III)Z"⟩
abbrev cX3_dropSight : ByteArray := prog_5_method_6_code
def yX3_dropSight : MethodName := ⟨RX3, "dropSight", "()Z"⟩
abbrev cX3_advance : ByteArray := prog_5_method_7_code
def yX3_advance : MethodName := ⟨RX3, "advance", "(LOverLine$Places;I)V"⟩
abbrev cX3_canMove : ByteArray := prog_5_method_8_code
def yX3_canMove : MethodName := ⟨RX3, "canMove", "()Z"⟩
abbrev cX3_settle : ByteArray := prog_5_method_9_code
def yX3_settle : MethodName := ⟨RX3, "settle", "()V"⟩
def RX4 : String := "OverLine"
def TX4 : u_T := fun k => match k with
  | 0 => ("OverLine", "things", "[LOverLine$Thing;", true)
  | 1 => ("OverLine", "grounds", "[LOverLine$Places;", true)
  | 2 => ("OverLine", "outside", "LOverLine$Places;", true)
  | 3 => ("OverLine", "tally", "LOverLine$Tally;", true)
  | 4 => ("OverLine", "thingsMade", "I", false)
  | _ => ("OverLine", "groundsMade", "I", false)
def tyX4 : Nat → FieldType := fun k => match k with
  | 0 => .array (.object "OverLine$Thing")
  | 1 => .array (.object "OverLine$Places")
  | 2 => .object "OverLine$Places"
  | 3 => .object "OverLine$Tally"
  | 4 => .int
  | _ => .int
abbrev wsX40 : List Cond := u_ws RX4 TX4 6
theorem nmX4 : ∀ a, a < 6 → ∀ b, b < 6 → a ≠ b → (TX4 a).2.1 ≠ (TX4 b).2.1 := by decide +kernel
theorem tyX4_ok : ∀ k, k < 6 → parseFieldDescriptor (TX4 k).2.2.1 = some (tyX4 k) := by decide +kernel
abbrev cX4_init : ByteArray := prog_1_method_1_code
def yX4_init : MethodName := ⟨RX4, "<init>", "()V"⟩
abbrev cX4_thing : ByteArray := prog_1_method_2_code
def yX4_thing : MethodName := ⟨RX4, "thing", "(I)I"⟩
abbrev cX4_see : ByteArray := prog_1_method_3_code
def yX4_see : MethodName := ⟨RX4, "see", "(IIII)I"⟩
abbrev cX4_back : ByteArray := prog_1_method_4_code
def yX4_back : MethodName := ⟨RX4, "back", "(I)Z"⟩
abbrev cX4_jumps : ByteArray := prog_1_method_5_code
def yX4_jumps : MethodName := ⟨RX4, "jumps", "(I)I"⟩
abbrev cX4_where : ByteArray := prog_1_method_6_code
def yX4_where : MethodName := ⟨RX4, "where", "(III)I"⟩
abbrev cX4_ground : ByteArray := prog_1_method_7_code
def yX4_ground : MethodName := ⟨RX4, "ground", "()I"⟩
abbrev cX4_draw : ByteArray := prog_1_method_8_code
def yX4_draw : MethodName := ⟨RX4, "draw", "(IIIZ)I"⟩
abbrev cX4_has : ByteArray := prog_1_method_9_code
def yX4_has : MethodName := ⟨RX4, "has", "(II)Z"⟩
abbrev cX4_state : ByteArray := prog_1_method_10_code
def yX4_state : MethodName := ⟨RX4, "state", "(III)I"⟩
abbrev cX4_entered : ByteArray := prog_1_method_11_code
def yX4_entered : MethodName := ⟨RX4, "entered", "(IIII)I"⟩
abbrev cX4_stay : ByteArray := prog_1_method_12_code
def yX4_stay : MethodName := ⟨RX4, "stay", "(IIIII)I"⟩
abbrev cX4_look : ByteArray := prog_1_method_13_code
def yX4_look : MethodName := ⟨RX4, "look", "(IIII)I"⟩
abbrev cX4_apart : ByteArray := prog_1_method_14_code
def yX4_apart : MethodName := ⟨RX4, "apart", "(IIII)I"⟩
abbrev cX4_count : ByteArray := prog_1_method_15_code
def yX4_count : MethodName := ⟨RX4, "count", "(I)I"⟩
abbrev cX4_sightsOfAll : ByteArray := prog_1_method_16_code
def yX4_sightsOfAll : MethodName := ⟨RX4, "sightsOfAll", "()I"⟩
abbrev cX4_thingOf : ByteArray := prog_1_method_17_code
def yX4_thingOf : MethodName := ⟨RX4, "thingOf", "(I)LOverLine$Thing;"⟩
abbrev cX4_groundOf : ByteArray := prog_1_method_18_code
def yX4_groundOf : MethodName := ⟨RX4, "groundOf", "(I)LOverLine$Places;"⟩
abbrev cX4_stateOf : ByteArray := prog_1_method_19_code
def yX4_stateOf : MethodName := ⟨RX4, "stateOf", "(LOverLine$Thing;LOverLine$Places;I)I"⟩
abbrev cX4_isTick : ByteArray := prog_1_method_20_code
def yX4_isTick : MethodName := ⟨RX4, "isTick", "(I)Z"⟩
abbrev cX4_isStretch : ByteArray := prog_1_method_21_code
def yX4_isStretch : MethodName := ⟨RX4, "isStretch", "(II)Z"⟩
abbrev cX4_isPlace : ByteArray := prog_1_method_22_code
def yX4_isPlace : MethodName := ⟨RX4, "isPlace", "(I)Z"⟩
abbrev cX4_xOf : ByteArray := prog_1_method_23_code
def yX4_xOf : MethodName := ⟨RX4, "xOf", "(I)I"⟩
abbrev cX4_yOf : ByteArray := prog_1_method_24_code
def yX4_yOf : MethodName := ⟨RX4, "yOf", "(I)I"⟩
def RX5 : String := "OverLineModel"
def TX5 : u_T := fun k => match k with
  | 0 => ("OverLineModel", "things", "I", false)
  | 1 => ("OverLineModel", "speed", "[I", true)
  | 2 => ("OverLineModel", "sights", "[I", true)
  | 3 => ("OverLineModel", "jumped", "[I", true)
  | 4 => ("OverLineModel", "seenAt", "[I", true)
  | 5 => ("OverLineModel", "seenX", "[I", true)
  | 6 => ("OverLineModel", "seenY", "[I", true)
  | 7 => ("OverLineModel", "radius", "[I", true)
  | 8 => ("OverLineModel", "grounds", "I", false)
  | 9 => ("OverLineModel", "isGround", "[Z", true)
  | 10 => ("OverLineModel", "value", "[I", true)
  | _ => ("OverLineModel", "across", "[I", true)
def tyX5 : Nat → FieldType := fun k => match k with
  | 0 => .int
  | 1 => .array .int
  | 2 => .array .int
  | 3 => .array .int
  | 4 => .array .int
  | 5 => .array .int
  | 6 => .array .int
  | 7 => .array .int
  | 8 => .int
  | 9 => .array .boolean
  | 10 => .array .int
  | _ => .array .int
abbrev wsX50 : List Cond := u_ws RX5 TX5 12
theorem nmX5 : ∀ a, a < 12 → ∀ b, b < 12 → a ≠ b → (TX5 a).2.1 ≠ (TX5 b).2.1 := by decide +kernel
theorem tyX5_ok : ∀ k, k < 12 → parseFieldDescriptor (TX5 k).2.2.1 = some (tyX5 k) := by decide +kernel
abbrev cX5_init : ByteArray := prog_7_method_1_code
def yX5_init : MethodName := ⟨RX5, "<init>", "()V"⟩
abbrev cX5_in : ByteArray := prog_7_method_2_code
def yX5_in : MethodName := ⟨RX5, "in", "(III)Z"⟩
abbrev cX5_isThing : ByteArray := prog_7_method_3_code
def yX5_isThing : MethodName := ⟨RX5, "isThing", "(I)Z"⟩
abbrev cX5_isGround : ByteArray := prog_7_method_4_code
def yX5_isGround : MethodName := ⟨RX5, "isGround", "(I)Z"⟩
abbrev cX5_isTick : ByteArray := prog_7_method_5_code
def yX5_isTick : MethodName := ⟨RX5, "isTick", "(I)Z"⟩
abbrev cX5_thing : ByteArray := prog_7_method_6_code
def yX5_thing : MethodName := ⟨RX5, "thing", "(I)I"⟩
abbrev cX5_low : ByteArray := prog_7_method_7_code
def yX5_low : MethodName := ⟨RX5, "low", "(IIZ)I"⟩
abbrev cX5_high : ByteArray := prog_7_method_8_code
def yX5_high : MethodName := ⟨RX5, "high", "(IIZ)I"⟩
abbrev cX5_see : ByteArray := prog_7_method_9_code
def yX5_see : MethodName := ⟨RX5, "see", "(IIII)I"⟩
abbrev cX5_back : ByteArray := prog_7_method_10_code
def yX5_back : MethodName := ⟨RX5, "back", "(I)Z"⟩
abbrev cX5_jumps : ByteArray := prog_7_method_11_code
def yX5_jumps : MethodName := ⟨RX5, "jumps", "(I)I"⟩
abbrev cX5_where : ByteArray := prog_7_method_12_code
def yX5_where : MethodName := ⟨RX5, "where", "(III)I"⟩
abbrev cX5_ground : ByteArray := prog_7_method_13_code
def yX5_ground : MethodName := ⟨RX5, "ground", "()I"⟩
abbrev cX5_draw : ByteArray := prog_7_method_14_code
def yX5_draw : MethodName := ⟨RX5, "draw", "(IIIZ)I"⟩
abbrev cX5_has : ByteArray := prog_7_method_15_code
def yX5_has : MethodName := ⟨RX5, "has", "(II)Z"⟩
abbrev cX5_state : ByteArray := prog_7_method_16_code
def yX5_state : MethodName := ⟨RX5, "state", "(III)I"⟩
abbrev cX5_better : ByteArray := prog_7_method_17_code
def yX5_better : MethodName := ⟨RX5, "better", "(IIZ)I"⟩
abbrev cX5_spreads : ByteArray := prog_7_method_18_code
def yX5_spreads : MethodName := ⟨RX5, "spreads", "(IZ)V"⟩
abbrev cX5_keeps : ByteArray := prog_7_method_19_code
def yX5_keeps : MethodName := ⟨RX5, "keeps", "(IIIIZ)V"⟩
abbrev cX5_canAsk : ByteArray := prog_7_method_20_code
def yX5_canAsk : MethodName := ⟨RX5, "canAsk", "(IIII)Z"⟩
abbrev cX5_entered : ByteArray := prog_7_method_21_code
def yX5_entered : MethodName := ⟨RX5, "entered", "(IIII)I"⟩
abbrev cX5_stay : ByteArray := prog_7_method_22_code
def yX5_stay : MethodName := ⟨RX5, "stay", "(IIIII)I"⟩
abbrev cX5_look : ByteArray := prog_7_method_23_code
def yX5_look : MethodName := ⟨RX5, "look", "(IIII)I"⟩
abbrev cX5_apart : ByteArray := prog_7_method_24_code
def yX5_apart : MethodName := ⟨RX5, "apart", "(IIII)I"⟩
abbrev cX5_count : ByteArray := prog_7_method_25_code
def yX5_count : MethodName := ⟨RX5, "count", "(I)I"⟩
def RJ13 : String := "java/lang/Long"
def TJ13 : u_T := fun k => match k with
  | _ => ("", "", "", false)
def tyJ13 : Nat → FieldType := fun k => match k with
  | _ => .int
abbrev wsJ130 : List Cond := u_ws RJ13 TJ13 0
theorem nmJ13 : ∀ a, a < 0 → ∀ b, b < 0 → a ≠ b → (TJ13 a).2.1 ≠ (TJ13 b).2.1 := by decide +kernel
theorem tyJ13_ok : ∀ k, k < 0 → parseFieldDescriptor (TJ13 k).2.2.1 = some (tyJ13 k) := by decide +kernel
abbrev cJ13_bitCount_95d88 : ByteArray := prog_8_method_50_code
def yJ13_bitCount_95d88 : MethodName := ⟨RJ13, "bitCount", "(J)I"⟩
def RJ9 : String := "java/lang/Math"
def TJ9 : u_T := fun k => match k with
  | _ => ("", "", "", false)
def tyJ9 : Nat → FieldType := fun k => match k with
  | _ => .int
abbrev wsJ90 : List Cond := u_ws RJ9 TJ9 0
theorem nmJ9 : ∀ a, a < 0 → ∀ b, b < 0 → a ≠ b → (TJ9 a).2.1 ≠ (TJ9 b).2.1 := by decide +kernel
theorem tyJ9_ok : ∀ k, k < 0 → parseFieldDescriptor (TJ9 k).2.2.1 = some (tyJ9 k) := by decide +kernel
abbrev cJ9_max_7cf53 : ByteArray := prog_9_method_65_code
def yJ9_max_7cf53 : MethodName := ⟨RJ9, "max", "(II)I"⟩
abbrev cJ9_min_7cf53 : ByteArray := prog_9_method_69_code
def yJ9_min_7cf53 : MethodName := ⟨RJ9, "min", "(II)I"⟩
def RL : String := "OverLineLaw"
abbrev cL_law : ByteArray := code
def yL_law : MethodName := ⟨RL, "law", "([I)Z"⟩
def wsX0_init : List Cond := .code yX0_init cX0_init 5 none :: ([.methodLink RX0 3 objectInit, .instanceMethod objectInit, .code objectInit ⟨#[0xb1]⟩ 1 none, .fieldLink RX0 9 "OverLine$Box" "lowX" "I", .fieldLink RX0 15 "OverLine$Box" "highX" "I", .fieldLink RX0 18 "OverLine$Box" "lowY" "I", .fieldLink RX0 21 "OverLine$Box" "highY" "I"] ++ wsX00)
def wsX0_setToField : List Cond := .code yX0_setToField cX0_setToField 1 none :: ([.fieldLink RX0 9 "OverLine$Box" "lowX" "I", .fieldLink RX0 15 "OverLine$Box" "highX" "I", .fieldLink RX0 18 "OverLine$Box" "lowY" "I", .fieldLink RX0 21 "OverLine$Box" "highY" "I"] ++ wsX00)
def wsX0_keepAround : List Cond := .code yX0_keepAround cX0_keepAround 4 none :: ([.fieldLink RX0 9 "OverLine$Box" "lowX" "I", .methodLink RX0 24 Lib.Math.max.name, .static Lib.Math.max.name, .initialized "java/lang/Math", .code Lib.Math.max.name Lib.Math.max.code 2 (some .int), .fieldLink RX0 15 "OverLine$Box" "highX" "I", .methodLink RX0 30 Lib.Math.min.name, .static Lib.Math.min.name, .code Lib.Math.min.name Lib.Math.min.code 2 (some .int), .fieldLink RX0 18 "OverLine$Box" "lowY" "I", .fieldLink RX0 21 "OverLine$Box" "highY" "I"] ++ wsX00)
def wsX0_keepNear : List Cond := .code yX0_keepNear cX0_keepNear 3 none :: ([.fieldLink RX0 9 "OverLine$Box" "lowX" "I", .methodLink RX0 24 Lib.Math.max.name, .static Lib.Math.max.name, .initialized "java/lang/Math", .code Lib.Math.max.name Lib.Math.max.code 2 (some .int), .fieldLink RX0 15 "OverLine$Box" "highX" "I", .methodLink RX0 30 Lib.Math.min.name, .static Lib.Math.min.name, .code Lib.Math.min.name Lib.Math.min.code 2 (some .int), .fieldLink RX0 18 "OverLine$Box" "lowY" "I", .fieldLink RX0 21 "OverLine$Box" "highY" "I"] ++ wsX00)
def wsX0_isEmpty : List Cond := .code yX0_isEmpty cX0_isEmpty 1 (some .boolean) :: ([.fieldLink RX0 9 "OverLine$Box" "lowX" "I", .fieldLink RX0 15 "OverLine$Box" "highX" "I", .fieldLink RX0 18 "OverLine$Box" "lowY" "I", .fieldLink RX0 21 "OverLine$Box" "highY" "I"] ++ wsX00)
def wsX0_size : List Cond := .code yX0_size cX0_size 1 (some .int) :: ([.fieldLink RX0 15 "OverLine$Box" "highX" "I", .fieldLink RX0 9 "OverLine$Box" "lowX" "I", .fieldLink RX0 21 "OverLine$Box" "highY" "I", .fieldLink RX0 18 "OverLine$Box" "lowY" "I"] ++ wsX00)
def wsX0_rowBits : List Cond := .code yX0_rowBits cX0_rowBits 1 (some .long) :: ([.constantLong RX0 33 (-1), .fieldLink RX0 21 "OverLine$Box" "highY" "I", .fieldLink RX0 18 "OverLine$Box" "lowY" "I"] ++ wsX00)
def wsX0_leastApart : List Cond := .code yX0_leastApart cX0_leastApart 4 (some .int) :: ([.fieldLink RX0 9 "OverLine$Box" "lowX" "I", .fieldLink RX0 15 "OverLine$Box" "highX" "I", .methodLink RX0 24 Lib.Math.max.name, .static Lib.Math.max.name, .initialized "java/lang/Math", .code Lib.Math.max.name Lib.Math.max.code 2 (some .int), .fieldLink RX0 18 "OverLine$Box" "lowY" "I", .fieldLink RX0 21 "OverLine$Box" "highY" "I"] ++ wsX00)
def wsX0_mostApart : List Cond := .code yX0_mostApart cX0_mostApart 4 (some .int) :: ([.fieldLink RX0 15 "OverLine$Box" "highX" "I", .fieldLink RX0 9 "OverLine$Box" "lowX" "I", .methodLink RX0 24 Lib.Math.max.name, .static Lib.Math.max.name, .initialized "java/lang/Math", .code Lib.Math.max.name Lib.Math.max.code 2 (some .int), .fieldLink RX0 21 "OverLine$Box" "highY" "I", .fieldLink RX0 18 "OverLine$Box" "lowY" "I"] ++ wsX00)
def wsX1_init : List Cond := .code yX1_init cX1_init 1 none :: ([.methodLink RX1 3 objectInit, .instanceMethod objectInit, .code objectInit ⟨#[0xb1]⟩ 1 none, .arrayClass .long, .fieldLink RX1 9 "OverLine$Places" "rows" "[J"] ++ wsX10)
def wsX1_holds : List Cond := .code yX1_holds cX1_holds 3 (some .boolean) :: ([.fieldLink RX1 9 "OverLine$Places" "rows" "[J"] ++ wsX10)
def wsJ13_bitCount_95d88 : List Cond := .code yJ13_bitCount_95d88 cJ13_bitCount_95d88 2 (some .int) :: ([.constantLong RJ13 314 (6148914691236517205), .constantLong RJ13 316 (3689348814741910323), .constantLong RJ13 318 (1085102592571150095)])
def wsX1_size : List Cond := .code yX1_size cX1_size 3 (some .int) :: ([.fieldLink RX1 9 "OverLine$Places" "rows" "[J", .methodLink RX1 15 yJ13_bitCount_95d88, .static yJ13_bitCount_95d88, .initialized RJ13, .code yJ13_bitCount_95d88 cJ13_bitCount_95d88 2 (some .int), .constantLong RJ13 314 (6148914691236517205), .constantLong RJ13 316 (3689348814741910323), .constantLong RJ13 318 (1085102592571150095)] ++ wsX10)
def wsX1_isEmpty : List Cond := .code yX1_isEmpty cX1_isEmpty 2 (some .boolean) :: ([.fieldLink RX1 9 "OverLine$Places" "rows" "[J"] ++ wsX10)
def wsX1_meets : List Cond := .code yX1_meets cX1_meets 5 (some .boolean) :: ([.fieldLink RX1 9 "OverLine$Places" "rows" "[J", .methodLink RX1 21 yX0_rowBits, .instanceMethod yX0_rowBits, .selects RX0 yX0_rowBits yX0_rowBits, .initialized RX0, .code yX0_rowBits cX0_rowBits 1 (some .long), .constantLong RX0 33 (-1), .fieldLink RX0 21 "OverLine$Box" "highY" "I", .fieldLink RX0 18 "OverLine$Box" "lowY" "I"] ++ wsX00 ++ wsX10)
def wsX1_covers : List Cond := .code yX1_covers cX1_covers 5 (some .boolean) :: ([.fieldLink RX1 9 "OverLine$Places" "rows" "[J", .methodLink RX1 21 yX0_rowBits, .instanceMethod yX0_rowBits, .selects RX0 yX0_rowBits yX0_rowBits, .initialized RX0, .code yX0_rowBits cX0_rowBits 1 (some .long), .constantLong RX0 33 (-1), .fieldLink RX0 21 "OverLine$Box" "highY" "I", .fieldLink RX0 18 "OverLine$Box" "lowY" "I"] ++ wsX00 ++ wsX10)
def wsX1_add : List Cond := .code yX1_add cX1_add 5 none :: ([.fieldLink RX1 9 "OverLine$Places" "rows" "[J", .methodLink RX1 21 yX0_rowBits, .instanceMethod yX0_rowBits, .selects RX0 yX0_rowBits yX0_rowBits, .initialized RX0, .code yX0_rowBits cX0_rowBits 1 (some .long), .constantLong RX0 33 (-1), .fieldLink RX0 21 "OverLine$Box" "highY" "I", .fieldLink RX0 18 "OverLine$Box" "lowY" "I"] ++ wsX00 ++ wsX10)
def wsX1_remove : List Cond := .code yX1_remove cX1_remove 5 none :: ([.fieldLink RX1 9 "OverLine$Places" "rows" "[J", .constantLong RX1 34 (-1), .methodLink RX1 21 yX0_rowBits, .instanceMethod yX0_rowBits, .selects RX0 yX0_rowBits yX0_rowBits, .initialized RX0, .code yX0_rowBits cX0_rowBits 1 (some .long), .constantLong RX0 33 (-1), .fieldLink RX0 21 "OverLine$Box" "highY" "I", .fieldLink RX0 18 "OverLine$Box" "lowY" "I"] ++ wsX00 ++ wsX10)
def wsX1_keep : List Cond := .code yX1_keep cX1_keep 5 none :: ([.fieldLink RX1 9 "OverLine$Places" "rows" "[J", .methodLink RX1 21 yX0_rowBits, .instanceMethod yX0_rowBits, .selects RX0 yX0_rowBits yX0_rowBits, .initialized RX0, .code yX0_rowBits cX0_rowBits 1 (some .long), .constantLong RX0 33 (-1), .fieldLink RX0 21 "OverLine$Box" "highY" "I", .fieldLink RX0 18 "OverLine$Box" "lowY" "I"] ++ wsX10 ++ wsX00)
def wsX1_setTo : List Cond := .code yX1_setTo cX1_setTo 5 none :: ([.fieldLink RX1 9 "OverLine$Places" "rows" "[J", .methodLink RX1 21 yX0_rowBits, .instanceMethod yX0_rowBits, .selects RX0 yX0_rowBits yX0_rowBits, .initialized RX0, .code yX0_rowBits cX0_rowBits 1 (some .long), .constantLong RX0 33 (-1), .fieldLink RX0 21 "OverLine$Box" "highY" "I", .fieldLink RX0 18 "OverLine$Box" "lowY" "I"] ++ wsX10 ++ wsX00)
def wsX1_setToAllBut : List Cond := .code yX1_setToAllBut cX1_setToAllBut 3 none :: ([.fieldLink RX1 9 "OverLine$Places" "rows" "[J", .constantLong RX1 34 (-1)] ++ wsX10)
def wsX1_drop : List Cond := .code yX1_drop cX1_drop 3 none :: ([.fieldLink RX1 9 "OverLine$Places" "rows" "[J", .constantLong RX1 34 (-1)] ++ wsX10)
def wsX1_takeWithin : List Cond := .code yX1_takeWithin cX1_takeWithin 6 none :: ([.fieldLink RX1 9 "OverLine$Places" "rows" "[J", .constantLong RX1 34 (-1)] ++ wsX10)
def wsX1_spread : List Cond := .code yX1_spread cX1_spread 3 none :: ([.fieldLink RX1 9 "OverLine$Places" "rows" "[J"] ++ wsX10)
def wsX1_widen : List Cond := .code yX1_widen cX1_widen 4 none :: ([.methodLink RX1 36 Lib.Math.min.name, .static Lib.Math.min.name, .initialized "java/lang/Math", .code Lib.Math.min.name Lib.Math.min.code 2 (some .int), .methodLink RX1 42 yX1_spread, .instanceMethod yX1_spread, .selects RX1 yX1_spread yX1_spread, .initialized RX1, .code yX1_spread cX1_spread 3 none, .fieldLink RX1 9 "OverLine$Places" "rows" "[J"] ++ wsX10)
def wsX2_init : List Cond := .code yX2_init cX2_init 2 none :: ([.methodLink RX2 3 objectInit, .instanceMethod objectInit, .code objectInit ⟨#[0xb1]⟩ 1 none, .classLink RX2 9 RX1, .fieldLink RX2 11 "OverLine$Tally" "levels" "[LOverLine$Places;", .instantiable RX1 1, .initialized RX1, .fieldLink RX2 18 "OverLine$Tally" "first" "I", .fieldLink RX2 22 "OverLine$Tally" "full" "I", .methodLink RX2 17 yX1_init, .instanceMethod yX1_init, .code yX1_init cX1_init 1 none, .methodLink RX1 3 objectInit, .arrayClass .long, .fieldLink RX1 9 "OverLine$Places" "rows" "[J"] ++ wsX20 ++ wsX10)
def wsX3_advance_r1 : List Cond := [Cond.fieldLink RX3 9 "OverLine$Thing" "speed" "I", Cond.fieldLink RX3 27 "OverLine$Thing" "reach" "[LOverLine$Box;", Cond.methodLink RX3 47 yX1_widen, Cond.instanceMethod yX1_widen, Cond.selects RX1 yX1_widen yX1_widen, Cond.initialized RX1, Cond.code yX1_widen cX1_widen 4 none, Cond.methodLink RX1 36 Lib.Math.min.name, Cond.static Lib.Math.min.name, Cond.initialized "java/lang/Math", Cond.code Lib.Math.min.name Lib.Math.min.code 2 (some .int), Cond.methodLink RX1 42 yX1_spread, Cond.instanceMethod yX1_spread, Cond.selects RX1 yX1_spread yX1_spread, Cond.code yX1_spread cX1_spread 3 none, Cond.fieldLink RX1 9 "OverLine$Places" "rows" "[J", Cond.methodLink RX3 53 yX1_keep, Cond.instanceMethod yX1_keep, Cond.selects RX1 yX1_keep yX1_keep, Cond.code yX1_keep cX1_keep 5 none, Cond.methodLink RX1 21 yX0_rowBits, Cond.instanceMethod yX0_rowBits, Cond.selects RX0 yX0_rowBits yX0_rowBits, Cond.initialized RX0]
def wsX3_advance_r2 : List Cond := [Cond.code yX0_rowBits cX0_rowBits 1 (some .long), Cond.constantLong RX0 33 (-1), Cond.fieldLink RX0 21 "OverLine$Box" "highY" "I", Cond.fieldLink RX0 18 "OverLine$Box" "lowY" "I"]
def wsX3_advance : List Cond := .code yX3_advance cX3_advance 3 none :: ((wsX3_advance_r1 ++ wsX3_advance_r2) ++ wsX30 ++ wsX10 ++ wsX00)
def wsX3_reachAt : List Cond := .code yX3_reachAt cX3_reachAt 2 (some (.object "OverLine$Box")) :: ([.fieldLink RX3 27 "OverLine$Thing" "reach" "[LOverLine$Box;"] ++ wsX30)
def wsX2_advance_r1 : List Cond := [Cond.fieldLink RX2 18 "OverLine$Tally" "first" "I", Cond.fieldLink RX2 22 "OverLine$Tally" "full" "I", Cond.fieldLink RX2 11 "OverLine$Tally" "levels" "[LOverLine$Places;", Cond.methodLink RX2 43 yX3_advance, Cond.instanceMethod yX3_advance, Cond.selects RX3 yX3_advance yX3_advance, Cond.initialized RX3, Cond.code yX3_advance cX3_advance 3 none, Cond.fieldLink RX3 9 "OverLine$Thing" "speed" "I", Cond.fieldLink RX3 27 "OverLine$Thing" "reach" "[LOverLine$Box;", Cond.methodLink RX3 47 yX1_widen, Cond.instanceMethod yX1_widen, Cond.selects RX1 yX1_widen yX1_widen, Cond.initialized RX1, Cond.code yX1_widen cX1_widen 4 none, Cond.methodLink RX1 36 Lib.Math.min.name, Cond.static Lib.Math.min.name, Cond.initialized "java/lang/Math", Cond.code Lib.Math.min.name Lib.Math.min.code 2 (some .int), Cond.methodLink RX1 42 yX1_spread, Cond.instanceMethod yX1_spread, Cond.selects RX1 yX1_spread yX1_spread, Cond.code yX1_spread cX1_spread 3 none, Cond.fieldLink RX1 9 "OverLine$Places" "rows" "[J"]
def wsX2_advance_r2 : List Cond := [Cond.methodLink RX3 53 yX1_keep, Cond.instanceMethod yX1_keep, Cond.selects RX1 yX1_keep yX1_keep, Cond.code yX1_keep cX1_keep 5 none, Cond.methodLink RX1 21 yX0_rowBits, Cond.instanceMethod yX0_rowBits, Cond.selects RX0 yX0_rowBits yX0_rowBits, Cond.initialized RX0, Cond.code yX0_rowBits cX0_rowBits 1 (some .long), Cond.constantLong RX0 33 (-1), Cond.fieldLink RX0 21 "OverLine$Box" "highY" "I", Cond.fieldLink RX0 18 "OverLine$Box" "lowY" "I", Cond.methodLink RX2 33 yX3_reachAt, Cond.instanceMethod yX3_reachAt, Cond.selects RX3 yX3_reachAt yX3_reachAt, Cond.code yX3_reachAt cX3_reachAt 2 (some (.object "OverLine$Box")), Cond.methodLink RX2 46 yX1_setTo, Cond.instanceMethod yX1_setTo, Cond.selects RX1 yX1_setTo yX1_setTo, Cond.code yX1_setTo cX1_setTo 5 none]
def wsX2_advance : List Cond := .code yX2_advance cX2_advance 4 none :: ((wsX2_advance_r1 ++ wsX2_advance_r2) ++ wsX20 ++ wsX30 ++ wsX10 ++ wsX00)
def wsX2_countTick : List Cond := .code yX2_countTick cX2_countTick 3 none :: ([.fieldLink RX2 22 "OverLine$Tally" "full" "I", .fieldLink RX2 18 "OverLine$Tally" "first" "I", .fieldLink RX2 11 "OverLine$Tally" "levels" "[LOverLine$Places;", .methodLink RX2 49 yX1_takeWithin, .instanceMethod yX1_takeWithin, .selects RX1 yX1_takeWithin yX1_takeWithin, .initialized RX1, .code yX1_takeWithin cX1_takeWithin 6 none, .fieldLink RX1 9 "OverLine$Places" "rows" "[J", .constantLong RX1 34 (-1), .methodLink RX2 53 yX1_drop, .instanceMethod yX1_drop, .selects RX1 yX1_drop yX1_drop, .code yX1_drop cX1_drop 3 none] ++ wsX20 ++ wsX10)
def wsX2_narrow : List Cond := .code yX2_narrow cX2_narrow 2 none :: ([.fieldLink RX2 18 "OverLine$Tally" "first" "I", .fieldLink RX2 22 "OverLine$Tally" "full" "I", .fieldLink RX2 11 "OverLine$Tally" "levels" "[LOverLine$Places;", .methodLink RX2 56 yX1_isEmpty, .instanceMethod yX1_isEmpty, .selects RX1 yX1_isEmpty yX1_isEmpty, .initialized RX1, .code yX1_isEmpty cX1_isEmpty 2 (some .boolean), .fieldLink RX1 9 "OverLine$Places" "rows" "[J", .methodLink RX2 60 yX1_covers, .instanceMethod yX1_covers, .selects RX1 yX1_covers yX1_covers, .code yX1_covers cX1_covers 5 (some .boolean), .methodLink RX1 21 yX0_rowBits, .instanceMethod yX0_rowBits, .selects RX0 yX0_rowBits yX0_rowBits, .initialized RX0, .code yX0_rowBits cX0_rowBits 1 (some .long), .constantLong RX0 33 (-1), .fieldLink RX0 21 "OverLine$Box" "highY" "I", .fieldLink RX0 18 "OverLine$Box" "lowY" "I"] ++ wsX20 ++ wsX10 ++ wsX00)
def wsX2_fewest_r1 : List Cond := [Cond.fieldLink RX2 18 "OverLine$Tally" "first" "I", Cond.fieldLink RX2 22 "OverLine$Tally" "full" "I", Cond.methodLink RX2 25 yX2_advance, Cond.instanceMethod yX2_advance, Cond.selects RX2 yX2_advance yX2_advance, Cond.initialized RX2, Cond.code yX2_advance cX2_advance 4 none, Cond.fieldLink RX2 11 "OverLine$Tally" "levels" "[LOverLine$Places;", Cond.methodLink RX2 43 yX3_advance, Cond.instanceMethod yX3_advance, Cond.selects RX3 yX3_advance yX3_advance, Cond.initialized RX3, Cond.code yX3_advance cX3_advance 3 none, Cond.fieldLink RX3 9 "OverLine$Thing" "speed" "I", Cond.fieldLink RX3 27 "OverLine$Thing" "reach" "[LOverLine$Box;", Cond.methodLink RX3 47 yX1_widen, Cond.instanceMethod yX1_widen, Cond.selects RX1 yX1_widen yX1_widen, Cond.initialized RX1, Cond.code yX1_widen cX1_widen 4 none, Cond.methodLink RX1 36 Lib.Math.min.name, Cond.static Lib.Math.min.name, Cond.initialized "java/lang/Math", Cond.code Lib.Math.min.name Lib.Math.min.code 2 (some .int)]
def wsX2_fewest_r2 : List Cond := [Cond.methodLink RX1 42 yX1_spread, Cond.instanceMethod yX1_spread, Cond.selects RX1 yX1_spread yX1_spread, Cond.code yX1_spread cX1_spread 3 none, Cond.fieldLink RX1 9 "OverLine$Places" "rows" "[J", Cond.methodLink RX3 53 yX1_keep, Cond.instanceMethod yX1_keep, Cond.selects RX1 yX1_keep yX1_keep, Cond.code yX1_keep cX1_keep 5 none, Cond.methodLink RX1 21 yX0_rowBits, Cond.instanceMethod yX0_rowBits, Cond.selects RX0 yX0_rowBits yX0_rowBits, Cond.initialized RX0, Cond.code yX0_rowBits cX0_rowBits 1 (some .long), Cond.constantLong RX0 33 (-1), Cond.fieldLink RX0 21 "OverLine$Box" "highY" "I", Cond.fieldLink RX0 18 "OverLine$Box" "lowY" "I", Cond.methodLink RX2 33 yX3_reachAt, Cond.instanceMethod yX3_reachAt, Cond.selects RX3 yX3_reachAt yX3_reachAt, Cond.code yX3_reachAt cX3_reachAt 2 (some (.object "OverLine$Box")), Cond.methodLink RX2 46 yX1_setTo, Cond.instanceMethod yX1_setTo, Cond.selects RX1 yX1_setTo yX1_setTo]
def wsX2_fewest_r3 : List Cond := [Cond.code yX1_setTo cX1_setTo 5 none, Cond.methodLink RX2 29 yX2_countTick, Cond.instanceMethod yX2_countTick, Cond.selects RX2 yX2_countTick yX2_countTick, Cond.code yX2_countTick cX2_countTick 3 none, Cond.methodLink RX2 49 yX1_takeWithin, Cond.instanceMethod yX1_takeWithin, Cond.selects RX1 yX1_takeWithin yX1_takeWithin, Cond.code yX1_takeWithin cX1_takeWithin 6 none, Cond.constantLong RX1 34 (-1), Cond.methodLink RX2 53 yX1_drop, Cond.instanceMethod yX1_drop, Cond.selects RX1 yX1_drop yX1_drop, Cond.code yX1_drop cX1_drop 3 none, Cond.methodLink RX2 39 yX2_narrow, Cond.instanceMethod yX2_narrow, Cond.selects RX2 yX2_narrow yX2_narrow, Cond.code yX2_narrow cX2_narrow 2 none, Cond.methodLink RX2 56 yX1_isEmpty, Cond.instanceMethod yX1_isEmpty, Cond.selects RX1 yX1_isEmpty yX1_isEmpty, Cond.code yX1_isEmpty cX1_isEmpty 2 (some .boolean), Cond.methodLink RX2 60 yX1_covers, Cond.instanceMethod yX1_covers]
def wsX2_fewest_r4 : List Cond := [Cond.selects RX1 yX1_covers yX1_covers, Cond.code yX1_covers cX1_covers 5 (some .boolean)]
def wsX2_fewest : List Cond := .code yX2_fewest cX2_fewest 6 (some .int) :: ((wsX2_fewest_r1 ++ (wsX2_fewest_r2 ++ (wsX2_fewest_r3 ++ wsX2_fewest_r4))) ++ wsX20 ++ wsX30 ++ wsX10 ++ wsX00)
def wsX3_init : List Cond := .code yX3_init cX3_init 3 none :: ([.methodLink RX3 3 objectInit, .instanceMethod objectInit, .code objectInit ⟨#[0xb1]⟩ 1 none, .fieldLink RX3 9 "OverLine$Thing" "speed" "I", .arrayClass .int, .fieldLink RX3 15 "OverLine$Thing" "ticks" "[I", .fieldLink RX3 19 "OverLine$Thing" "wheres" "[I", .fieldLink RX3 22 "OverLine$Thing" "radii" "[I", .classLink RX3 25 RX0, .fieldLink RX3 27 "OverLine$Thing" "reach" "[LOverLine$Box;", .instantiable RX0 4, .initialized RX0, .fieldLink RX3 34 "OverLine$Thing" "sightsKept" "I", .fieldLink RX3 37 "OverLine$Thing" "sightsLeftOut" "I", .methodLink RX3 31 yX0_init, .instanceMethod yX0_init, .code yX0_init cX0_init 5 none, .methodLink RX0 3 objectInit, .fieldLink RX0 9 "OverLine$Box" "lowX" "I", .fieldLink RX0 15 "OverLine$Box" "highX" "I", .fieldLink RX0 18 "OverLine$Box" "lowY" "I", .fieldLink RX0 21 "OverLine$Box" "highY" "I"] ++ wsX30 ++ wsX00)
def wsX3_sights : List Cond := .code yX3_sights cX3_sights 1 (some .int) :: ([.fieldLink RX3 34 "OverLine$Thing" "sightsKept" "I"] ++ wsX30)
def wsX3_leftOut : List Cond := .code yX3_leftOut cX3_leftOut 1 (some .int) :: ([.fieldLink RX3 37 "OverLine$Thing" "sightsLeftOut" "I"] ++ wsX30)
def wsX4_xOf : List Cond := .code yX4_xOf cX4_xOf 1 (some .int) :: ([])
def wsX4_yOf : List Cond := .code yX4_yOf cX4_yOf 1 (some .int) :: ([])
def wsX3_settle_r1 : List Cond := [Cond.fieldLink RX3 27 "OverLine$Thing" "reach" "[LOverLine$Box;", Cond.fieldLink RX3 34 "OverLine$Thing" "sightsKept" "I", Cond.fieldLink RX3 15 "OverLine$Thing" "ticks" "[I", Cond.fieldLink RX3 19 "OverLine$Thing" "wheres" "[I", Cond.fieldLink RX3 22 "OverLine$Thing" "radii" "[I", Cond.fieldLink RX3 9 "OverLine$Thing" "speed" "I", Cond.methodLink RX3 60 yX0_setToField, Cond.instanceMethod yX0_setToField, Cond.selects RX0 yX0_setToField yX0_setToField, Cond.initialized RX0, Cond.code yX0_setToField cX0_setToField 1 none, Cond.fieldLink RX0 9 "OverLine$Box" "lowX" "I", Cond.fieldLink RX0 15 "OverLine$Box" "highX" "I", Cond.fieldLink RX0 18 "OverLine$Box" "lowY" "I", Cond.fieldLink RX0 21 "OverLine$Box" "highY" "I", Cond.static yX4_xOf, Cond.initialized RX4, Cond.code yX4_xOf cX4_xOf 1 (some .int), Cond.static yX4_yOf, Cond.code yX4_yOf cX4_yOf 1 (some .int), Cond.methodLink RX3 70 yX0_keepAround, Cond.instanceMethod yX0_keepAround, Cond.selects RX0 yX0_keepAround yX0_keepAround, Cond.code yX0_keepAround cX0_keepAround 4 none]
def wsX3_settle_r2 : List Cond := [Cond.methodLink RX0 24 Lib.Math.max.name, Cond.static Lib.Math.max.name, Cond.initialized "java/lang/Math", Cond.code Lib.Math.max.name Lib.Math.max.code 2 (some .int), Cond.methodLink RX0 30 Lib.Math.min.name, Cond.static Lib.Math.min.name, Cond.code Lib.Math.min.name Lib.Math.min.code 2 (some .int), Cond.methodLink RX3 74 yX0_keepNear, Cond.instanceMethod yX0_keepNear, Cond.selects RX0 yX0_keepNear yX0_keepNear, Cond.code yX0_keepNear cX0_keepNear 3 none]
def wsX3_settle : List Cond := .code yX3_settle cX3_settle 2 none :: ((wsX3_settle_r1 ++ wsX3_settle_r2) ++ wsX30 ++ wsX00)
def wsX3_canMove : List Cond := .code yX3_canMove cX3_canMove 2 (some .boolean) :: ([.fieldLink RX3 27 "OverLine$Thing" "reach" "[LOverLine$Box;", .methodLink RX3 57 yX0_isEmpty, .instanceMethod yX0_isEmpty, .selects RX0 yX0_isEmpty yX0_isEmpty, .initialized RX0, .code yX0_isEmpty cX0_isEmpty 1 (some .boolean), .fieldLink RX0 9 "OverLine$Box" "lowX" "I", .fieldLink RX0 15 "OverLine$Box" "highX" "I", .fieldLink RX0 18 "OverLine$Box" "lowY" "I", .fieldLink RX0 21 "OverLine$Box" "highY" "I"] ++ wsX30 ++ wsX00)
def wsX3_takeSight_r1 : List Cond := [Cond.fieldLink RX3 34 "OverLine$Thing" "sightsKept" "I", Cond.fieldLink RX3 15 "OverLine$Thing" "ticks" "[I", Cond.fieldLink RX3 19 "OverLine$Thing" "wheres" "[I", Cond.fieldLink RX3 22 "OverLine$Thing" "radii" "[I", Cond.fieldLink RX3 37 "OverLine$Thing" "sightsLeftOut" "I", Cond.methodLink RX3 40 yX3_settle, Cond.instanceMethod yX3_settle, Cond.selects RX3 yX3_settle yX3_settle, Cond.initialized RX3, Cond.code yX3_settle cX3_settle 2 none, Cond.fieldLink RX3 27 "OverLine$Thing" "reach" "[LOverLine$Box;", Cond.fieldLink RX3 9 "OverLine$Thing" "speed" "I", Cond.methodLink RX3 60 yX0_setToField, Cond.instanceMethod yX0_setToField, Cond.selects RX0 yX0_setToField yX0_setToField, Cond.initialized RX0, Cond.code yX0_setToField cX0_setToField 1 none, Cond.fieldLink RX0 9 "OverLine$Box" "lowX" "I", Cond.fieldLink RX0 15 "OverLine$Box" "highX" "I", Cond.fieldLink RX0 18 "OverLine$Box" "lowY" "I", Cond.fieldLink RX0 21 "OverLine$Box" "highY" "I", Cond.static yX4_xOf, Cond.initialized RX4, Cond.code yX4_xOf cX4_xOf 1 (some .int)]
def wsX3_takeSight_r2 : List Cond := [Cond.static yX4_yOf, Cond.code yX4_yOf cX4_yOf 1 (some .int), Cond.methodLink RX3 70 yX0_keepAround, Cond.instanceMethod yX0_keepAround, Cond.selects RX0 yX0_keepAround yX0_keepAround, Cond.code yX0_keepAround cX0_keepAround 4 none, Cond.methodLink RX0 24 Lib.Math.max.name, Cond.static Lib.Math.max.name, Cond.initialized "java/lang/Math", Cond.code Lib.Math.max.name Lib.Math.max.code 2 (some .int), Cond.methodLink RX0 30 Lib.Math.min.name, Cond.static Lib.Math.min.name, Cond.code Lib.Math.min.name Lib.Math.min.code 2 (some .int), Cond.methodLink RX3 74 yX0_keepNear, Cond.instanceMethod yX0_keepNear, Cond.selects RX0 yX0_keepNear yX0_keepNear, Cond.code yX0_keepNear cX0_keepNear 3 none, Cond.methodLink RX3 43 yX3_canMove, Cond.instanceMethod yX3_canMove, Cond.selects RX3 yX3_canMove yX3_canMove, Cond.code yX3_canMove cX3_canMove 2 (some .boolean), Cond.methodLink RX3 57 yX0_isEmpty, Cond.instanceMethod yX0_isEmpty, Cond.selects RX0 yX0_isEmpty yX0_isEmpty]
def wsX3_takeSight_r3 : List Cond := [Cond.code yX0_isEmpty cX0_isEmpty 1 (some .boolean)]
def wsX3_takeSight : List Cond := .code yX3_takeSight cX3_takeSight 4 (some .boolean) :: ((wsX3_takeSight_r1 ++ (wsX3_takeSight_r2 ++ wsX3_takeSight_r3)) ++ wsX30 ++ wsX00)
def wsX3_dropSight_r1 : List Cond := [Cond.fieldLink RX3 34 "OverLine$Thing" "sightsKept" "I", Cond.methodLink RX3 40 yX3_settle, Cond.instanceMethod yX3_settle, Cond.selects RX3 yX3_settle yX3_settle, Cond.initialized RX3, Cond.code yX3_settle cX3_settle 2 none, Cond.fieldLink RX3 27 "OverLine$Thing" "reach" "[LOverLine$Box;", Cond.fieldLink RX3 15 "OverLine$Thing" "ticks" "[I", Cond.fieldLink RX3 19 "OverLine$Thing" "wheres" "[I", Cond.fieldLink RX3 22 "OverLine$Thing" "radii" "[I", Cond.fieldLink RX3 9 "OverLine$Thing" "speed" "I", Cond.methodLink RX3 60 yX0_setToField, Cond.instanceMethod yX0_setToField, Cond.selects RX0 yX0_setToField yX0_setToField, Cond.initialized RX0, Cond.code yX0_setToField cX0_setToField 1 none, Cond.fieldLink RX0 9 "OverLine$Box" "lowX" "I", Cond.fieldLink RX0 15 "OverLine$Box" "highX" "I", Cond.fieldLink RX0 18 "OverLine$Box" "lowY" "I", Cond.fieldLink RX0 21 "OverLine$Box" "highY" "I", Cond.static yX4_xOf, Cond.initialized RX4, Cond.code yX4_xOf cX4_xOf 1 (some .int), Cond.static yX4_yOf]
def wsX3_dropSight_r2 : List Cond := [Cond.code yX4_yOf cX4_yOf 1 (some .int), Cond.methodLink RX3 70 yX0_keepAround, Cond.instanceMethod yX0_keepAround, Cond.selects RX0 yX0_keepAround yX0_keepAround, Cond.code yX0_keepAround cX0_keepAround 4 none, Cond.methodLink RX0 24 Lib.Math.max.name, Cond.static Lib.Math.max.name, Cond.initialized "java/lang/Math", Cond.code Lib.Math.max.name Lib.Math.max.code 2 (some .int), Cond.methodLink RX0 30 Lib.Math.min.name, Cond.static Lib.Math.min.name, Cond.code Lib.Math.min.name Lib.Math.min.code 2 (some .int), Cond.methodLink RX3 74 yX0_keepNear, Cond.instanceMethod yX0_keepNear, Cond.selects RX0 yX0_keepNear yX0_keepNear, Cond.code yX0_keepNear cX0_keepNear 3 none]
def wsX3_dropSight : List Cond := .code yX3_dropSight cX3_dropSight 1 (some .boolean) :: ((wsX3_dropSight_r1 ++ wsX3_dropSight_r2) ++ wsX30 ++ wsX00)
def wsX4_init_r1 : List Cond := [Cond.methodLink RX4 3 objectInit, Cond.instanceMethod objectInit, Cond.code objectInit ⟨#[0xb1]⟩ 1 none, Cond.classLink RX4 9 RX3, Cond.fieldLink RX4 11 "OverLine" "things" "[LOverLine$Thing;", Cond.classLink RX4 15 RX1, Cond.fieldLink RX4 17 "OverLine" "grounds" "[LOverLine$Places;", Cond.instantiable RX1 1, Cond.initialized RX1, Cond.fieldLink RX4 22 "OverLine" "outside" "LOverLine$Places;", Cond.classLink RX4 26 RX2, Cond.instantiable RX2 3, Cond.initialized RX2, Cond.fieldLink RX4 29 "OverLine" "tally" "LOverLine$Tally;", Cond.fieldLink RX4 33 "OverLine" "thingsMade" "I", Cond.fieldLink RX4 37 "OverLine" "groundsMade" "I", Cond.methodLink RX4 21 yX1_init, Cond.instanceMethod yX1_init, Cond.code yX1_init cX1_init 1 none, Cond.methodLink RX1 3 objectInit, Cond.arrayClass .long, Cond.fieldLink RX1 9 "OverLine$Places" "rows" "[J", Cond.methodLink RX4 28 yX2_init, Cond.instanceMethod yX2_init]
def wsX4_init_r2 : List Cond := [Cond.code yX2_init cX2_init 2 none, Cond.methodLink RX2 3 objectInit, Cond.classLink RX2 9 RX1, Cond.fieldLink RX2 11 "OverLine$Tally" "levels" "[LOverLine$Places;", Cond.fieldLink RX2 18 "OverLine$Tally" "first" "I", Cond.fieldLink RX2 22 "OverLine$Tally" "full" "I", Cond.methodLink RX2 17 yX1_init]
def wsX4_init : List Cond := .code yX4_init cX4_init 1 none :: ((wsX4_init_r1 ++ wsX4_init_r2) ++ wsX40 ++ wsX10 ++ wsX20)
def wsX4_thing_r1 : List Cond := [Cond.fieldLink RX4 33 "OverLine" "thingsMade" "I", Cond.fieldLink RX4 11 "OverLine" "things" "[LOverLine$Thing;", Cond.classLink RX4 9 RX3, Cond.instantiable RX3 7, Cond.initialized RX3, Cond.methodLink RX4 40 yX3_init, Cond.instanceMethod yX3_init, Cond.code yX3_init cX3_init 3 none, Cond.methodLink RX3 3 objectInit, Cond.instanceMethod objectInit, Cond.code objectInit ⟨#[0xb1]⟩ 1 none, Cond.fieldLink RX3 9 "OverLine$Thing" "speed" "I", Cond.arrayClass .int, Cond.fieldLink RX3 15 "OverLine$Thing" "ticks" "[I", Cond.fieldLink RX3 19 "OverLine$Thing" "wheres" "[I", Cond.fieldLink RX3 22 "OverLine$Thing" "radii" "[I", Cond.classLink RX3 25 RX0, Cond.fieldLink RX3 27 "OverLine$Thing" "reach" "[LOverLine$Box;", Cond.instantiable RX0 4, Cond.initialized RX0, Cond.fieldLink RX3 34 "OverLine$Thing" "sightsKept" "I", Cond.fieldLink RX3 37 "OverLine$Thing" "sightsLeftOut" "I", Cond.methodLink RX3 31 yX0_init, Cond.instanceMethod yX0_init]
def wsX4_thing_r2 : List Cond := [Cond.code yX0_init cX0_init 5 none, Cond.methodLink RX0 3 objectInit, Cond.fieldLink RX0 9 "OverLine$Box" "lowX" "I", Cond.fieldLink RX0 15 "OverLine$Box" "highX" "I", Cond.fieldLink RX0 18 "OverLine$Box" "lowY" "I", Cond.fieldLink RX0 21 "OverLine$Box" "highY" "I"]
def wsX4_thing : List Cond := .code yX4_thing cX4_thing 2 (some .int) :: ((wsX4_thing_r1 ++ wsX4_thing_r2) ++ wsX40 ++ wsX30 ++ wsX00)
def wsX4_thingOf : List Cond := .code yX4_thingOf cX4_thingOf 2 (some (.object "OverLine$Thing")) :: ([.fieldLink RX4 33 "OverLine" "thingsMade" "I", .fieldLink RX4 11 "OverLine" "things" "[LOverLine$Thing;"] ++ wsX40)
def wsX4_isTick : List Cond := .code yX4_isTick cX4_isTick 1 (some .boolean) :: ([])
def wsX4_isPlace : List Cond := .code yX4_isPlace cX4_isPlace 1 (some .boolean) :: ([])
def wsX4_see_r1 : List Cond := [Cond.methodLink RX4 43 yX4_thingOf, Cond.instanceMethod yX4_thingOf, Cond.selects RX4 yX4_thingOf yX4_thingOf, Cond.initialized RX4, Cond.code yX4_thingOf cX4_thingOf 2 (some (.object "OverLine$Thing")), Cond.fieldLink RX4 33 "OverLine" "thingsMade" "I", Cond.fieldLink RX4 11 "OverLine" "things" "[LOverLine$Thing;", Cond.methodLink RX4 47 yX4_isTick, Cond.static yX4_isTick, Cond.code yX4_isTick cX4_isTick 1 (some .boolean), Cond.methodLink RX4 51 yX4_isPlace, Cond.static yX4_isPlace, Cond.code yX4_isPlace cX4_isPlace 1 (some .boolean), Cond.methodLink RX4 54 yX3_takeSight, Cond.instanceMethod yX3_takeSight, Cond.selects RX3 yX3_takeSight yX3_takeSight, Cond.initialized RX3, Cond.code yX3_takeSight cX3_takeSight 4 (some .boolean), Cond.fieldLink RX3 34 "OverLine$Thing" "sightsKept" "I", Cond.fieldLink RX3 15 "OverLine$Thing" "ticks" "[I", Cond.fieldLink RX3 19 "OverLine$Thing" "wheres" "[I", Cond.fieldLink RX3 22 "OverLine$Thing" "radii" "[I", Cond.fieldLink RX3 37 "OverLine$Thing" "sightsLeftOut" "I", Cond.methodLink RX3 40 yX3_settle]
def wsX4_see_r2 : List Cond := [Cond.instanceMethod yX3_settle, Cond.selects RX3 yX3_settle yX3_settle, Cond.code yX3_settle cX3_settle 2 none, Cond.fieldLink RX3 27 "OverLine$Thing" "reach" "[LOverLine$Box;", Cond.fieldLink RX3 9 "OverLine$Thing" "speed" "I", Cond.methodLink RX3 60 yX0_setToField, Cond.instanceMethod yX0_setToField, Cond.selects RX0 yX0_setToField yX0_setToField, Cond.initialized RX0, Cond.code yX0_setToField cX0_setToField 1 none, Cond.fieldLink RX0 9 "OverLine$Box" "lowX" "I", Cond.fieldLink RX0 15 "OverLine$Box" "highX" "I", Cond.fieldLink RX0 18 "OverLine$Box" "lowY" "I", Cond.fieldLink RX0 21 "OverLine$Box" "highY" "I", Cond.static yX4_xOf, Cond.code yX4_xOf cX4_xOf 1 (some .int), Cond.static yX4_yOf, Cond.code yX4_yOf cX4_yOf 1 (some .int), Cond.methodLink RX3 70 yX0_keepAround, Cond.instanceMethod yX0_keepAround, Cond.selects RX0 yX0_keepAround yX0_keepAround, Cond.code yX0_keepAround cX0_keepAround 4 none, Cond.methodLink RX0 24 Lib.Math.max.name, Cond.static Lib.Math.max.name]
def wsX4_see_r3 : List Cond := [Cond.initialized "java/lang/Math", Cond.code Lib.Math.max.name Lib.Math.max.code 2 (some .int), Cond.methodLink RX0 30 Lib.Math.min.name, Cond.static Lib.Math.min.name, Cond.code Lib.Math.min.name Lib.Math.min.code 2 (some .int), Cond.methodLink RX3 74 yX0_keepNear, Cond.instanceMethod yX0_keepNear, Cond.selects RX0 yX0_keepNear yX0_keepNear, Cond.code yX0_keepNear cX0_keepNear 3 none, Cond.methodLink RX3 43 yX3_canMove, Cond.instanceMethod yX3_canMove, Cond.selects RX3 yX3_canMove yX3_canMove, Cond.code yX3_canMove cX3_canMove 2 (some .boolean), Cond.methodLink RX3 57 yX0_isEmpty, Cond.instanceMethod yX0_isEmpty, Cond.selects RX0 yX0_isEmpty yX0_isEmpty, Cond.code yX0_isEmpty cX0_isEmpty 1 (some .boolean), Cond.methodLink RX4 58 yX3_sights, Cond.instanceMethod yX3_sights, Cond.selects RX3 yX3_sights yX3_sights, Cond.code yX3_sights cX3_sights 1 (some .int)]
def wsX4_see : List Cond := .code yX4_see cX4_see 6 (some .int) :: ((wsX4_see_r1 ++ (wsX4_see_r2 ++ wsX4_see_r3)) ++ wsX40 ++ wsX30 ++ wsX00)
def wsX4_back_r1 : List Cond := [Cond.methodLink RX4 43 yX4_thingOf, Cond.instanceMethod yX4_thingOf, Cond.selects RX4 yX4_thingOf yX4_thingOf, Cond.initialized RX4, Cond.code yX4_thingOf cX4_thingOf 2 (some (.object "OverLine$Thing")), Cond.fieldLink RX4 33 "OverLine" "thingsMade" "I", Cond.fieldLink RX4 11 "OverLine" "things" "[LOverLine$Thing;", Cond.methodLink RX4 62 yX3_dropSight, Cond.instanceMethod yX3_dropSight, Cond.selects RX3 yX3_dropSight yX3_dropSight, Cond.initialized RX3, Cond.code yX3_dropSight cX3_dropSight 1 (some .boolean), Cond.fieldLink RX3 34 "OverLine$Thing" "sightsKept" "I", Cond.methodLink RX3 40 yX3_settle, Cond.instanceMethod yX3_settle, Cond.selects RX3 yX3_settle yX3_settle, Cond.code yX3_settle cX3_settle 2 none, Cond.fieldLink RX3 27 "OverLine$Thing" "reach" "[LOverLine$Box;", Cond.fieldLink RX3 15 "OverLine$Thing" "ticks" "[I", Cond.fieldLink RX3 19 "OverLine$Thing" "wheres" "[I", Cond.fieldLink RX3 22 "OverLine$Thing" "radii" "[I", Cond.fieldLink RX3 9 "OverLine$Thing" "speed" "I", Cond.methodLink RX3 60 yX0_setToField, Cond.instanceMethod yX0_setToField]
def wsX4_back_r2 : List Cond := [Cond.selects RX0 yX0_setToField yX0_setToField, Cond.initialized RX0, Cond.code yX0_setToField cX0_setToField 1 none, Cond.fieldLink RX0 9 "OverLine$Box" "lowX" "I", Cond.fieldLink RX0 15 "OverLine$Box" "highX" "I", Cond.fieldLink RX0 18 "OverLine$Box" "lowY" "I", Cond.fieldLink RX0 21 "OverLine$Box" "highY" "I", Cond.static yX4_xOf, Cond.code yX4_xOf cX4_xOf 1 (some .int), Cond.static yX4_yOf, Cond.code yX4_yOf cX4_yOf 1 (some .int), Cond.methodLink RX3 70 yX0_keepAround, Cond.instanceMethod yX0_keepAround, Cond.selects RX0 yX0_keepAround yX0_keepAround, Cond.code yX0_keepAround cX0_keepAround 4 none, Cond.methodLink RX0 24 Lib.Math.max.name, Cond.static Lib.Math.max.name, Cond.initialized "java/lang/Math", Cond.code Lib.Math.max.name Lib.Math.max.code 2 (some .int), Cond.methodLink RX0 30 Lib.Math.min.name, Cond.static Lib.Math.min.name, Cond.code Lib.Math.min.name Lib.Math.min.code 2 (some .int), Cond.methodLink RX3 74 yX0_keepNear, Cond.instanceMethod yX0_keepNear]
def wsX4_back_r3 : List Cond := [Cond.selects RX0 yX0_keepNear yX0_keepNear, Cond.code yX0_keepNear cX0_keepNear 3 none]
def wsX4_back : List Cond := .code yX4_back cX4_back 3 (some .boolean) :: ((wsX4_back_r1 ++ (wsX4_back_r2 ++ wsX4_back_r3)) ++ wsX40 ++ wsX30 ++ wsX00)
def wsX4_jumps : List Cond := .code yX4_jumps cX4_jumps 3 (some .int) :: ([.methodLink RX4 43 yX4_thingOf, .instanceMethod yX4_thingOf, .selects RX4 yX4_thingOf yX4_thingOf, .initialized RX4, .code yX4_thingOf cX4_thingOf 2 (some (.object "OverLine$Thing")), .fieldLink RX4 33 "OverLine" "thingsMade" "I", .fieldLink RX4 11 "OverLine" "things" "[LOverLine$Thing;", .methodLink RX4 66 yX3_leftOut, .instanceMethod yX3_leftOut, .selects RX3 yX3_leftOut yX3_leftOut, .initialized RX3, .code yX3_leftOut cX3_leftOut 1 (some .int), .fieldLink RX3 37 "OverLine$Thing" "sightsLeftOut" "I"] ++ wsX40 ++ wsX30)
def wsX4_where_r1 : List Cond := [Cond.methodLink RX4 43 yX4_thingOf, Cond.instanceMethod yX4_thingOf, Cond.selects RX4 yX4_thingOf yX4_thingOf, Cond.initialized RX4, Cond.code yX4_thingOf cX4_thingOf 2 (some (.object "OverLine$Thing")), Cond.fieldLink RX4 33 "OverLine" "thingsMade" "I", Cond.fieldLink RX4 11 "OverLine" "things" "[LOverLine$Thing;", Cond.methodLink RX4 47 yX4_isTick, Cond.static yX4_isTick, Cond.code yX4_isTick cX4_isTick 1 (some .boolean), Cond.methodLink RX4 69 yX3_reachAt, Cond.instanceMethod yX3_reachAt, Cond.selects RX3 yX3_reachAt yX3_reachAt, Cond.initialized RX3, Cond.code yX3_reachAt cX3_reachAt 2 (some (.object "OverLine$Box")), Cond.fieldLink RX3 27 "OverLine$Thing" "reach" "[LOverLine$Box;", Cond.methodLink RX4 87 yX0_size, Cond.instanceMethod yX0_size, Cond.selects RX0 yX0_size yX0_size, Cond.initialized RX0, Cond.code yX0_size cX0_size 1 (some .int), Cond.fieldLink RX0 15 "OverLine$Box" "highX" "I", Cond.fieldLink RX0 9 "OverLine$Box" "lowX" "I", Cond.fieldLink RX0 21 "OverLine$Box" "highY" "I"]
def wsX4_where_r2 : List Cond := [Cond.fieldLink RX0 18 "OverLine$Box" "lowY" "I"]
def wsX4_where : List Cond := .code yX4_where cX4_where 6 (some .int) :: ((wsX4_where_r1 ++ wsX4_where_r2) ++ wsX00 ++ wsX40 ++ wsX30)
def wsX4_ground : List Cond := .code yX4_ground cX4_ground 1 (some .int) :: ([.fieldLink RX4 37 "OverLine" "groundsMade" "I", .fieldLink RX4 17 "OverLine" "grounds" "[LOverLine$Places;", .classLink RX4 15 RX1, .instantiable RX1 1, .initialized RX1, .methodLink RX4 21 yX1_init, .instanceMethod yX1_init, .code yX1_init cX1_init 1 none, .methodLink RX1 3 objectInit, .instanceMethod objectInit, .code objectInit ⟨#[0xb1]⟩ 1 none, .arrayClass .long, .fieldLink RX1 9 "OverLine$Places" "rows" "[J"] ++ wsX40 ++ wsX10)
def wsX4_groundOf : List Cond := .code yX4_groundOf cX4_groundOf 2 (some (.object "OverLine$Places")) :: ([.fieldLink RX4 37 "OverLine" "groundsMade" "I", .fieldLink RX4 17 "OverLine" "grounds" "[LOverLine$Places;"] ++ wsX40)
def wsX4_draw_r1 : List Cond := [Cond.classLink RX4 74 RX0, Cond.instantiable RX0 4, Cond.initialized RX0, Cond.methodLink RX4 90 yX4_groundOf, Cond.instanceMethod yX4_groundOf, Cond.selects RX4 yX4_groundOf yX4_groundOf, Cond.initialized RX4, Cond.code yX4_groundOf cX4_groundOf 2 (some (.object "OverLine$Places")), Cond.fieldLink RX4 37 "OverLine" "groundsMade" "I", Cond.fieldLink RX4 17 "OverLine" "grounds" "[LOverLine$Places;", Cond.methodLink RX4 51 yX4_isPlace, Cond.static yX4_isPlace, Cond.code yX4_isPlace cX4_isPlace 1 (some .boolean), Cond.methodLink RX4 94 yX4_xOf, Cond.static yX4_xOf, Cond.code yX4_xOf cX4_xOf 1 (some .int), Cond.methodLink RX4 98 yX4_yOf, Cond.static yX4_yOf, Cond.code yX4_yOf cX4_yOf 1 (some .int), Cond.methodLink RX4 101 yX0_init, Cond.instanceMethod yX0_init, Cond.code yX0_init cX0_init 5 none, Cond.methodLink RX0 3 objectInit, Cond.instanceMethod objectInit]
def wsX4_draw_r2 : List Cond := [Cond.code objectInit ⟨#[0xb1]⟩ 1 none, Cond.fieldLink RX0 9 "OverLine$Box" "lowX" "I", Cond.fieldLink RX0 15 "OverLine$Box" "highX" "I", Cond.fieldLink RX0 18 "OverLine$Box" "lowY" "I", Cond.fieldLink RX0 21 "OverLine$Box" "highY" "I", Cond.methodLink RX4 104 yX0_isEmpty, Cond.instanceMethod yX0_isEmpty, Cond.selects RX0 yX0_isEmpty yX0_isEmpty, Cond.code yX0_isEmpty cX0_isEmpty 1 (some .boolean), Cond.methodLink RX4 107 yX1_add, Cond.instanceMethod yX1_add, Cond.selects RX1 yX1_add yX1_add, Cond.initialized RX1, Cond.code yX1_add cX1_add 5 none, Cond.fieldLink RX1 9 "OverLine$Places" "rows" "[J", Cond.methodLink RX1 21 yX0_rowBits, Cond.instanceMethod yX0_rowBits, Cond.selects RX0 yX0_rowBits yX0_rowBits, Cond.code yX0_rowBits cX0_rowBits 1 (some .long), Cond.constantLong RX0 33 (-1), Cond.methodLink RX4 111 yX1_remove, Cond.instanceMethod yX1_remove, Cond.selects RX1 yX1_remove yX1_remove, Cond.code yX1_remove cX1_remove 5 none]
def wsX4_draw_r3 : List Cond := [Cond.constantLong RX1 34 (-1), Cond.methodLink RX4 114 yX1_size, Cond.instanceMethod yX1_size, Cond.selects RX1 yX1_size yX1_size, Cond.code yX1_size cX1_size 3 (some .int), Cond.methodLink RX1 15 yJ13_bitCount_95d88, Cond.static yJ13_bitCount_95d88, Cond.initialized RJ13, Cond.code yJ13_bitCount_95d88 cJ13_bitCount_95d88 2 (some .int), Cond.constantLong RJ13 314 (6148914691236517205), Cond.constantLong RJ13 316 (3689348814741910323), Cond.constantLong RJ13 318 (1085102592571150095)]
def wsX4_draw : List Cond := .code yX4_draw cX4_draw 7 (some .int) :: ((wsX4_draw_r1 ++ (wsX4_draw_r2 ++ wsX4_draw_r3)) ++ wsX00 ++ wsX40 ++ wsX10)
def wsX4_has : List Cond := .code yX4_has cX4_has 4 (some .boolean) :: ([.methodLink RX4 90 yX4_groundOf, .instanceMethod yX4_groundOf, .selects RX4 yX4_groundOf yX4_groundOf, .initialized RX4, .code yX4_groundOf cX4_groundOf 2 (some (.object "OverLine$Places")), .fieldLink RX4 37 "OverLine" "groundsMade" "I", .fieldLink RX4 17 "OverLine" "grounds" "[LOverLine$Places;", .methodLink RX4 51 yX4_isPlace, .static yX4_isPlace, .code yX4_isPlace cX4_isPlace 1 (some .boolean), .methodLink RX4 94 yX4_xOf, .static yX4_xOf, .code yX4_xOf cX4_xOf 1 (some .int), .methodLink RX4 98 yX4_yOf, .static yX4_yOf, .code yX4_yOf cX4_yOf 1 (some .int), .methodLink RX4 115 yX1_holds, .instanceMethod yX1_holds, .selects RX1 yX1_holds yX1_holds, .initialized RX1, .code yX1_holds cX1_holds 3 (some .boolean), .fieldLink RX1 9 "OverLine$Places" "rows" "[J"] ++ wsX40 ++ wsX10)
def wsX4_stateOf : List Cond := .code yX4_stateOf cX4_stateOf 4 (some .int) :: ([.methodLink RX4 69 yX3_reachAt, .instanceMethod yX3_reachAt, .selects RX3 yX3_reachAt yX3_reachAt, .initialized RX3, .code yX3_reachAt cX3_reachAt 2 (some (.object "OverLine$Box")), .fieldLink RX3 27 "OverLine$Thing" "reach" "[LOverLine$Box;", .methodLink RX4 161 yX1_meets, .instanceMethod yX1_meets, .selects RX1 yX1_meets yX1_meets, .initialized RX1, .code yX1_meets cX1_meets 5 (some .boolean), .fieldLink RX1 9 "OverLine$Places" "rows" "[J", .methodLink RX1 21 yX0_rowBits, .instanceMethod yX0_rowBits, .selects RX0 yX0_rowBits yX0_rowBits, .initialized RX0, .code yX0_rowBits cX0_rowBits 1 (some .long), .constantLong RX0 33 (-1), .fieldLink RX0 21 "OverLine$Box" "highY" "I", .fieldLink RX0 18 "OverLine$Box" "lowY" "I", .methodLink RX4 165 yX1_covers, .instanceMethod yX1_covers, .selects RX1 yX1_covers yX1_covers, .code yX1_covers cX1_covers 5 (some .boolean)] ++ wsX30 ++ wsX00 ++ wsX10)
def wsX4_state_r1 : List Cond := [Cond.methodLink RX4 43 yX4_thingOf, Cond.instanceMethod yX4_thingOf, Cond.selects RX4 yX4_thingOf yX4_thingOf, Cond.initialized RX4, Cond.code yX4_thingOf cX4_thingOf 2 (some (.object "OverLine$Thing")), Cond.fieldLink RX4 33 "OverLine" "thingsMade" "I", Cond.fieldLink RX4 11 "OverLine" "things" "[LOverLine$Thing;", Cond.methodLink RX4 90 yX4_groundOf, Cond.instanceMethod yX4_groundOf, Cond.selects RX4 yX4_groundOf yX4_groundOf, Cond.code yX4_groundOf cX4_groundOf 2 (some (.object "OverLine$Places")), Cond.fieldLink RX4 37 "OverLine" "groundsMade" "I", Cond.fieldLink RX4 17 "OverLine" "grounds" "[LOverLine$Places;", Cond.methodLink RX4 47 yX4_isTick, Cond.static yX4_isTick, Cond.code yX4_isTick cX4_isTick 1 (some .boolean), Cond.methodLink RX4 119 yX4_stateOf, Cond.static yX4_stateOf, Cond.code yX4_stateOf cX4_stateOf 4 (some .int), Cond.methodLink RX4 69 yX3_reachAt, Cond.instanceMethod yX3_reachAt, Cond.selects RX3 yX3_reachAt yX3_reachAt, Cond.initialized RX3, Cond.code yX3_reachAt cX3_reachAt 2 (some (.object "OverLine$Box"))]
def wsX4_state_r2 : List Cond := [Cond.fieldLink RX3 27 "OverLine$Thing" "reach" "[LOverLine$Box;", Cond.methodLink RX4 161 yX1_meets, Cond.instanceMethod yX1_meets, Cond.selects RX1 yX1_meets yX1_meets, Cond.initialized RX1, Cond.code yX1_meets cX1_meets 5 (some .boolean), Cond.fieldLink RX1 9 "OverLine$Places" "rows" "[J", Cond.methodLink RX1 21 yX0_rowBits, Cond.instanceMethod yX0_rowBits, Cond.selects RX0 yX0_rowBits yX0_rowBits, Cond.initialized RX0, Cond.code yX0_rowBits cX0_rowBits 1 (some .long), Cond.constantLong RX0 33 (-1), Cond.fieldLink RX0 21 "OverLine$Box" "highY" "I", Cond.fieldLink RX0 18 "OverLine$Box" "lowY" "I", Cond.methodLink RX4 165 yX1_covers, Cond.instanceMethod yX1_covers, Cond.selects RX1 yX1_covers yX1_covers, Cond.code yX1_covers cX1_covers 5 (some .boolean)]
def wsX4_state : List Cond := .code yX4_state cX4_state 6 (some .int) :: ((wsX4_state_r1 ++ wsX4_state_r2) ++ wsX40 ++ wsX30 ++ wsX00 ++ wsX10)
def wsX4_isStretch : List Cond := .code yX4_isStretch cX4_isStretch 2 (some .boolean) :: ([.methodLink RX4 47 yX4_isTick, .static yX4_isTick, .initialized RX4, .code yX4_isTick cX4_isTick 1 (some .boolean)])
def wsX4_entered_r1 : List Cond := [Cond.fieldLink RX4 22 "OverLine" "outside" "LOverLine$Places;", Cond.methodLink RX4 43 yX4_thingOf, Cond.instanceMethod yX4_thingOf, Cond.selects RX4 yX4_thingOf yX4_thingOf, Cond.initialized RX4, Cond.code yX4_thingOf cX4_thingOf 2 (some (.object "OverLine$Thing")), Cond.fieldLink RX4 33 "OverLine" "thingsMade" "I", Cond.fieldLink RX4 11 "OverLine" "things" "[LOverLine$Thing;", Cond.methodLink RX4 90 yX4_groundOf, Cond.instanceMethod yX4_groundOf, Cond.selects RX4 yX4_groundOf yX4_groundOf, Cond.code yX4_groundOf cX4_groundOf 2 (some (.object "OverLine$Places")), Cond.fieldLink RX4 37 "OverLine" "groundsMade" "I", Cond.fieldLink RX4 17 "OverLine" "grounds" "[LOverLine$Places;", Cond.methodLink RX4 123 yX4_isStretch, Cond.static yX4_isStretch, Cond.code yX4_isStretch cX4_isStretch 2 (some .boolean), Cond.methodLink RX4 47 yX4_isTick, Cond.static yX4_isTick, Cond.code yX4_isTick cX4_isTick 1 (some .boolean), Cond.methodLink RX4 69 yX3_reachAt, Cond.instanceMethod yX3_reachAt, Cond.selects RX3 yX3_reachAt yX3_reachAt, Cond.initialized RX3]
def wsX4_entered_r2 : List Cond := [Cond.code yX3_reachAt cX3_reachAt 2 (some (.object "OverLine$Box")), Cond.fieldLink RX3 27 "OverLine$Thing" "reach" "[LOverLine$Box;", Cond.methodLink RX4 126 yX1_setTo, Cond.instanceMethod yX1_setTo, Cond.selects RX1 yX1_setTo yX1_setTo, Cond.initialized RX1, Cond.code yX1_setTo cX1_setTo 5 none, Cond.fieldLink RX1 9 "OverLine$Places" "rows" "[J", Cond.methodLink RX1 21 yX0_rowBits, Cond.instanceMethod yX0_rowBits, Cond.selects RX0 yX0_rowBits yX0_rowBits, Cond.initialized RX0, Cond.code yX0_rowBits cX0_rowBits 1 (some .long), Cond.constantLong RX0 33 (-1), Cond.fieldLink RX0 21 "OverLine$Box" "highY" "I", Cond.fieldLink RX0 18 "OverLine$Box" "lowY" "I", Cond.methodLink RX4 129 yX1_drop, Cond.instanceMethod yX1_drop, Cond.selects RX1 yX1_drop yX1_drop, Cond.code yX1_drop cX1_drop 3 none, Cond.constantLong RX1 34 (-1), Cond.methodLink RX4 133 yX1_isEmpty, Cond.instanceMethod yX1_isEmpty, Cond.selects RX1 yX1_isEmpty yX1_isEmpty]
def wsX4_entered_r3 : List Cond := [Cond.code yX1_isEmpty cX1_isEmpty 2 (some .boolean), Cond.methodLink RX4 134 yX3_advance, Cond.instanceMethod yX3_advance, Cond.selects RX3 yX3_advance yX3_advance, Cond.code yX3_advance cX3_advance 3 none, Cond.fieldLink RX3 9 "OverLine$Thing" "speed" "I", Cond.methodLink RX3 47 yX1_widen, Cond.instanceMethod yX1_widen, Cond.selects RX1 yX1_widen yX1_widen, Cond.code yX1_widen cX1_widen 4 none, Cond.methodLink RX1 36 Lib.Math.min.name, Cond.static Lib.Math.min.name, Cond.initialized "java/lang/Math", Cond.code Lib.Math.min.name Lib.Math.min.code 2 (some .int), Cond.methodLink RX1 42 yX1_spread, Cond.instanceMethod yX1_spread, Cond.selects RX1 yX1_spread yX1_spread, Cond.code yX1_spread cX1_spread 3 none, Cond.methodLink RX3 53 yX1_keep, Cond.instanceMethod yX1_keep, Cond.selects RX1 yX1_keep yX1_keep, Cond.code yX1_keep cX1_keep 5 none]
def wsX4_entered : List Cond := .code yX4_entered cX4_entered 8 (some .int) :: ((wsX4_entered_r1 ++ (wsX4_entered_r2 ++ wsX4_entered_r3)) ++ wsX40 ++ wsX30 ++ wsX10 ++ wsX00)
def wsX4_stay_r1 : List Cond := [Cond.fieldLink RX4 29 "OverLine" "tally" "LOverLine$Tally;", Cond.fieldLink RX4 22 "OverLine" "outside" "LOverLine$Places;", Cond.methodLink RX4 43 yX4_thingOf, Cond.instanceMethod yX4_thingOf, Cond.selects RX4 yX4_thingOf yX4_thingOf, Cond.initialized RX4, Cond.code yX4_thingOf cX4_thingOf 2 (some (.object "OverLine$Thing")), Cond.fieldLink RX4 33 "OverLine" "thingsMade" "I", Cond.fieldLink RX4 11 "OverLine" "things" "[LOverLine$Thing;", Cond.methodLink RX4 90 yX4_groundOf, Cond.instanceMethod yX4_groundOf, Cond.selects RX4 yX4_groundOf yX4_groundOf, Cond.code yX4_groundOf cX4_groundOf 2 (some (.object "OverLine$Places")), Cond.fieldLink RX4 37 "OverLine" "groundsMade" "I", Cond.fieldLink RX4 17 "OverLine" "grounds" "[LOverLine$Places;", Cond.methodLink RX4 123 yX4_isStretch, Cond.static yX4_isStretch, Cond.code yX4_isStretch cX4_isStretch 2 (some .boolean), Cond.methodLink RX4 47 yX4_isTick, Cond.static yX4_isTick, Cond.code yX4_isTick cX4_isTick 1 (some .boolean), Cond.methodLink RX4 138 yX2_fewest, Cond.instanceMethod yX2_fewest, Cond.selects RX2 yX2_fewest yX2_fewest]
def wsX4_stay_r2 : List Cond := [Cond.initialized RX2, Cond.code yX2_fewest cX2_fewest 6 (some .int), Cond.fieldLink RX2 18 "OverLine$Tally" "first" "I", Cond.fieldLink RX2 22 "OverLine$Tally" "full" "I", Cond.methodLink RX2 25 yX2_advance, Cond.instanceMethod yX2_advance, Cond.selects RX2 yX2_advance yX2_advance, Cond.code yX2_advance cX2_advance 4 none, Cond.fieldLink RX2 11 "OverLine$Tally" "levels" "[LOverLine$Places;", Cond.methodLink RX2 43 yX3_advance, Cond.instanceMethod yX3_advance, Cond.selects RX3 yX3_advance yX3_advance, Cond.initialized RX3, Cond.code yX3_advance cX3_advance 3 none, Cond.fieldLink RX3 9 "OverLine$Thing" "speed" "I", Cond.fieldLink RX3 27 "OverLine$Thing" "reach" "[LOverLine$Box;", Cond.methodLink RX3 47 yX1_widen, Cond.instanceMethod yX1_widen, Cond.selects RX1 yX1_widen yX1_widen, Cond.initialized RX1, Cond.code yX1_widen cX1_widen 4 none, Cond.methodLink RX1 36 Lib.Math.min.name, Cond.static Lib.Math.min.name, Cond.initialized "java/lang/Math"]
def wsX4_stay_r3 : List Cond := [Cond.code Lib.Math.min.name Lib.Math.min.code 2 (some .int), Cond.methodLink RX1 42 yX1_spread, Cond.instanceMethod yX1_spread, Cond.selects RX1 yX1_spread yX1_spread, Cond.code yX1_spread cX1_spread 3 none, Cond.fieldLink RX1 9 "OverLine$Places" "rows" "[J", Cond.methodLink RX3 53 yX1_keep, Cond.instanceMethod yX1_keep, Cond.selects RX1 yX1_keep yX1_keep, Cond.code yX1_keep cX1_keep 5 none, Cond.methodLink RX1 21 yX0_rowBits, Cond.instanceMethod yX0_rowBits, Cond.selects RX0 yX0_rowBits yX0_rowBits, Cond.initialized RX0, Cond.code yX0_rowBits cX0_rowBits 1 (some .long), Cond.constantLong RX0 33 (-1), Cond.fieldLink RX0 21 "OverLine$Box" "highY" "I", Cond.fieldLink RX0 18 "OverLine$Box" "lowY" "I", Cond.methodLink RX2 33 yX3_reachAt, Cond.instanceMethod yX3_reachAt, Cond.selects RX3 yX3_reachAt yX3_reachAt, Cond.code yX3_reachAt cX3_reachAt 2 (some (.object "OverLine$Box")), Cond.methodLink RX2 46 yX1_setTo, Cond.instanceMethod yX1_setTo]
def wsX4_stay_r4 : List Cond := [Cond.selects RX1 yX1_setTo yX1_setTo, Cond.code yX1_setTo cX1_setTo 5 none, Cond.methodLink RX2 29 yX2_countTick, Cond.instanceMethod yX2_countTick, Cond.selects RX2 yX2_countTick yX2_countTick, Cond.code yX2_countTick cX2_countTick 3 none, Cond.methodLink RX2 49 yX1_takeWithin, Cond.instanceMethod yX1_takeWithin, Cond.selects RX1 yX1_takeWithin yX1_takeWithin, Cond.code yX1_takeWithin cX1_takeWithin 6 none, Cond.constantLong RX1 34 (-1), Cond.methodLink RX2 53 yX1_drop, Cond.instanceMethod yX1_drop, Cond.selects RX1 yX1_drop yX1_drop, Cond.code yX1_drop cX1_drop 3 none, Cond.methodLink RX2 39 yX2_narrow, Cond.instanceMethod yX2_narrow, Cond.selects RX2 yX2_narrow yX2_narrow, Cond.code yX2_narrow cX2_narrow 2 none, Cond.methodLink RX2 56 yX1_isEmpty, Cond.instanceMethod yX1_isEmpty, Cond.selects RX1 yX1_isEmpty yX1_isEmpty, Cond.code yX1_isEmpty cX1_isEmpty 2 (some .boolean), Cond.methodLink RX2 60 yX1_covers]
def wsX4_stay_r5 : List Cond := [Cond.instanceMethod yX1_covers, Cond.selects RX1 yX1_covers yX1_covers, Cond.code yX1_covers cX1_covers 5 (some .boolean), Cond.methodLink RX4 142 yX1_setToAllBut, Cond.instanceMethod yX1_setToAllBut, Cond.selects RX1 yX1_setToAllBut yX1_setToAllBut, Cond.code yX1_setToAllBut cX1_setToAllBut 3 none]
def wsX4_stay : List Cond := .code yX4_stay cX4_stay 8 (some .int) :: ((wsX4_stay_r1 ++ (wsX4_stay_r2 ++ (wsX4_stay_r3 ++ (wsX4_stay_r4 ++ wsX4_stay_r5)))) ++ wsX40 ++ wsX20 ++ wsX30 ++ wsX10 ++ wsX00)
def wsX4_look_r1 : List Cond := [Cond.methodLink RX4 145 Lib.Math.min.name, Cond.static Lib.Math.min.name, Cond.initialized "java/lang/Math", Cond.code Lib.Math.min.name Lib.Math.min.code 2 (some .int), Cond.methodLink RX4 43 yX4_thingOf, Cond.instanceMethod yX4_thingOf, Cond.selects RX4 yX4_thingOf yX4_thingOf, Cond.initialized RX4, Cond.code yX4_thingOf cX4_thingOf 2 (some (.object "OverLine$Thing")), Cond.fieldLink RX4 33 "OverLine" "thingsMade" "I", Cond.fieldLink RX4 11 "OverLine" "things" "[LOverLine$Thing;", Cond.methodLink RX4 90 yX4_groundOf, Cond.instanceMethod yX4_groundOf, Cond.selects RX4 yX4_groundOf yX4_groundOf, Cond.code yX4_groundOf cX4_groundOf 2 (some (.object "OverLine$Places")), Cond.fieldLink RX4 37 "OverLine" "groundsMade" "I", Cond.fieldLink RX4 17 "OverLine" "grounds" "[LOverLine$Places;", Cond.methodLink RX4 47 yX4_isTick, Cond.static yX4_isTick, Cond.code yX4_isTick cX4_isTick 1 (some .boolean), Cond.methodLink RX4 119 yX4_stateOf, Cond.static yX4_stateOf, Cond.code yX4_stateOf cX4_stateOf 4 (some .int), Cond.methodLink RX4 69 yX3_reachAt]
def wsX4_look_r2 : List Cond := [Cond.instanceMethod yX3_reachAt, Cond.selects RX3 yX3_reachAt yX3_reachAt, Cond.initialized RX3, Cond.code yX3_reachAt cX3_reachAt 2 (some (.object "OverLine$Box")), Cond.fieldLink RX3 27 "OverLine$Thing" "reach" "[LOverLine$Box;", Cond.methodLink RX4 161 yX1_meets, Cond.instanceMethod yX1_meets, Cond.selects RX1 yX1_meets yX1_meets, Cond.initialized RX1, Cond.code yX1_meets cX1_meets 5 (some .boolean), Cond.fieldLink RX1 9 "OverLine$Places" "rows" "[J", Cond.methodLink RX1 21 yX0_rowBits, Cond.instanceMethod yX0_rowBits, Cond.selects RX0 yX0_rowBits yX0_rowBits, Cond.initialized RX0, Cond.code yX0_rowBits cX0_rowBits 1 (some .long), Cond.constantLong RX0 33 (-1), Cond.fieldLink RX0 21 "OverLine$Box" "highY" "I", Cond.fieldLink RX0 18 "OverLine$Box" "lowY" "I", Cond.methodLink RX4 165 yX1_covers, Cond.instanceMethod yX1_covers, Cond.selects RX1 yX1_covers yX1_covers, Cond.code yX1_covers cX1_covers 5 (some .boolean)]
def wsX4_look : List Cond := .code yX4_look cX4_look 8 (some .int) :: ((wsX4_look_r1 ++ wsX4_look_r2) ++ wsX40 ++ wsX30 ++ wsX00 ++ wsX10)
def wsX4_apart_r1 : List Cond := [Cond.methodLink RX4 43 yX4_thingOf, Cond.instanceMethod yX4_thingOf, Cond.selects RX4 yX4_thingOf yX4_thingOf, Cond.initialized RX4, Cond.code yX4_thingOf cX4_thingOf 2 (some (.object "OverLine$Thing")), Cond.fieldLink RX4 33 "OverLine" "thingsMade" "I", Cond.fieldLink RX4 11 "OverLine" "things" "[LOverLine$Thing;", Cond.methodLink RX4 47 yX4_isTick, Cond.static yX4_isTick, Cond.code yX4_isTick cX4_isTick 1 (some .boolean), Cond.methodLink RX4 69 yX3_reachAt, Cond.instanceMethod yX3_reachAt, Cond.selects RX3 yX3_reachAt yX3_reachAt, Cond.initialized RX3, Cond.code yX3_reachAt cX3_reachAt 2 (some (.object "OverLine$Box")), Cond.fieldLink RX3 27 "OverLine$Thing" "reach" "[LOverLine$Box;", Cond.methodLink RX4 151 yX0_leastApart, Cond.instanceMethod yX0_leastApart, Cond.selects RX0 yX0_leastApart yX0_leastApart, Cond.initialized RX0, Cond.code yX0_leastApart cX0_leastApart 4 (some .int), Cond.fieldLink RX0 9 "OverLine$Box" "lowX" "I", Cond.fieldLink RX0 15 "OverLine$Box" "highX" "I", Cond.methodLink RX0 24 Lib.Math.max.name]
def wsX4_apart_r2 : List Cond := [Cond.static Lib.Math.max.name, Cond.initialized "java/lang/Math", Cond.code Lib.Math.max.name Lib.Math.max.code 2 (some .int), Cond.fieldLink RX0 18 "OverLine$Box" "lowY" "I", Cond.fieldLink RX0 21 "OverLine$Box" "highY" "I", Cond.methodLink RX4 155 yX0_mostApart, Cond.instanceMethod yX0_mostApart, Cond.selects RX0 yX0_mostApart yX0_mostApart, Cond.code yX0_mostApart cX0_mostApart 4 (some .int)]
def wsX4_apart : List Cond := .code yX4_apart cX4_apart 9 (some .int) :: ((wsX4_apart_r1 ++ wsX4_apart_r2) ++ wsX40 ++ wsX30 ++ wsX00)
def wsX4_sightsOfAll : List Cond := .code yX4_sightsOfAll cX4_sightsOfAll 3 (some .int) :: ([.fieldLink RX4 33 "OverLine" "thingsMade" "I", .fieldLink RX4 11 "OverLine" "things" "[LOverLine$Thing;", .methodLink RX4 58 yX3_sights, .instanceMethod yX3_sights, .selects RX3 yX3_sights yX3_sights, .initialized RX3, .code yX3_sights cX3_sights 1 (some .int), .fieldLink RX3 34 "OverLine$Thing" "sightsKept" "I"] ++ wsX40 ++ wsX30)
def wsX4_count : List Cond := .code yX4_count cX4_count 2 (some .int) :: ([.fieldLink RX4 33 "OverLine" "thingsMade" "I", .fieldLink RX4 37 "OverLine" "groundsMade" "I", .methodLink RX4 158 yX4_sightsOfAll, .instanceMethod yX4_sightsOfAll, .selects RX4 yX4_sightsOfAll yX4_sightsOfAll, .initialized RX4, .code yX4_sightsOfAll cX4_sightsOfAll 3 (some .int), .fieldLink RX4 11 "OverLine" "things" "[LOverLine$Thing;", .methodLink RX4 58 yX3_sights, .instanceMethod yX3_sights, .selects RX3 yX3_sights yX3_sights, .initialized RX3, .code yX3_sights cX3_sights 1 (some .int), .fieldLink RX3 34 "OverLine$Thing" "sightsKept" "I"] ++ wsX40 ++ wsX30)
def wsX5_init : List Cond := .code yX5_init cX5_init 1 none :: ([.methodLink RX5 1 objectInit, .instanceMethod objectInit, .code objectInit ⟨#[0xb1]⟩ 1 none, .arrayClass .int, .fieldLink RX5 9 "OverLineModel" "speed" "[I", .fieldLink RX5 13 "OverLineModel" "sights" "[I", .fieldLink RX5 16 "OverLineModel" "jumped" "[I", .fieldLink RX5 19 "OverLineModel" "seenAt" "[I", .fieldLink RX5 22 "OverLineModel" "seenX" "[I", .fieldLink RX5 25 "OverLineModel" "seenY" "[I", .fieldLink RX5 28 "OverLineModel" "radius" "[I", .arrayClass .boolean, .fieldLink RX5 31 "OverLineModel" "isGround" "[Z", .fieldLink RX5 35 "OverLineModel" "value" "[I", .fieldLink RX5 38 "OverLineModel" "across" "[I"] ++ wsX50)
def wsX5_in : List Cond := .code yX5_in cX5_in 3 (some .boolean) :: ([])
def wsX5_isThing : List Cond := .code yX5_isThing cX5_isThing 2 (some .boolean) :: ([.fieldLink RX5 41 "OverLineModel" "things" "I", .methodLink RX5 45 yX5_in, .static yX5_in, .initialized RX5, .code yX5_in cX5_in 3 (some .boolean)] ++ wsX50)
def wsX5_isGround : List Cond := .code yX5_isGround cX5_isGround 2 (some .boolean) :: ([.fieldLink RX5 49 "OverLineModel" "grounds" "I", .methodLink RX5 45 yX5_in, .static yX5_in, .initialized RX5, .code yX5_in cX5_in 3 (some .boolean)] ++ wsX50)
def wsX5_isTick : List Cond := .code yX5_isTick cX5_isTick 1 (some .boolean) :: ([.methodLink RX5 45 yX5_in, .static yX5_in, .initialized RX5, .code yX5_in cX5_in 3 (some .boolean)])
def wsX5_thing : List Cond := .code yX5_thing cX5_thing 2 (some .int) :: ([.fieldLink RX5 41 "OverLineModel" "things" "I", .fieldLink RX5 9 "OverLineModel" "speed" "[I", .methodLink RX5 45 yX5_in, .static yX5_in, .initialized RX5, .code yX5_in cX5_in 3 (some .boolean)] ++ wsX50)
def wsX5_low : List Cond := .code yX5_low cX5_low 8 (some .int) :: ([.fieldLink RX5 13 "OverLineModel" "sights" "[I", .fieldLink RX5 19 "OverLineModel" "seenAt" "[I", .fieldLink RX5 22 "OverLineModel" "seenX" "[I", .fieldLink RX5 25 "OverLineModel" "seenY" "[I", .fieldLink RX5 28 "OverLineModel" "radius" "[I", .fieldLink RX5 9 "OverLineModel" "speed" "[I"] ++ wsX50)
def wsX5_high : List Cond := .code yX5_high cX5_high 8 (some .int) :: ([.fieldLink RX5 13 "OverLineModel" "sights" "[I", .fieldLink RX5 19 "OverLineModel" "seenAt" "[I", .fieldLink RX5 22 "OverLineModel" "seenX" "[I", .fieldLink RX5 25 "OverLineModel" "seenY" "[I", .fieldLink RX5 28 "OverLineModel" "radius" "[I", .fieldLink RX5 9 "OverLineModel" "speed" "[I"] ++ wsX50)
def wsX5_see_r1 : List Cond := [Cond.fieldLink RX5 13 "OverLineModel" "sights" "[I", Cond.fieldLink RX5 19 "OverLineModel" "seenAt" "[I", Cond.fieldLink RX5 22 "OverLineModel" "seenX" "[I", Cond.fieldLink RX5 25 "OverLineModel" "seenY" "[I", Cond.fieldLink RX5 28 "OverLineModel" "radius" "[I", Cond.fieldLink RX5 16 "OverLineModel" "jumped" "[I", Cond.methodLink RX5 52 yX5_isThing, Cond.instanceMethod yX5_isThing, Cond.selects RX5 yX5_isThing yX5_isThing, Cond.initialized RX5, Cond.code yX5_isThing cX5_isThing 2 (some .boolean), Cond.fieldLink RX5 41 "OverLineModel" "things" "I", Cond.methodLink RX5 45 yX5_in, Cond.static yX5_in, Cond.code yX5_in cX5_in 3 (some .boolean), Cond.methodLink RX5 56 yX5_isTick, Cond.static yX5_isTick, Cond.code yX5_isTick cX5_isTick 1 (some .boolean), Cond.methodLink RX5 59 yX5_low, Cond.instanceMethod yX5_low, Cond.selects RX5 yX5_low yX5_low, Cond.code yX5_low cX5_low 8 (some .int), Cond.fieldLink RX5 9 "OverLineModel" "speed" "[I", Cond.methodLink RX5 63 yX5_high]
def wsX5_see_r2 : List Cond := [Cond.instanceMethod yX5_high, Cond.selects RX5 yX5_high yX5_high, Cond.code yX5_high cX5_high 8 (some .int)]
def wsX5_see : List Cond := .code yX5_see cX5_see 7 (some .int) :: ((wsX5_see_r1 ++ wsX5_see_r2) ++ wsX50)
def wsX5_back : List Cond := .code yX5_back cX5_back 2 (some .boolean) :: ([.fieldLink RX5 13 "OverLineModel" "sights" "[I", .methodLink RX5 52 yX5_isThing, .instanceMethod yX5_isThing, .selects RX5 yX5_isThing yX5_isThing, .initialized RX5, .code yX5_isThing cX5_isThing 2 (some .boolean), .fieldLink RX5 41 "OverLineModel" "things" "I", .methodLink RX5 45 yX5_in, .static yX5_in, .code yX5_in cX5_in 3 (some .boolean)] ++ wsX50)
def wsX5_jumps : List Cond := .code yX5_jumps cX5_jumps 2 (some .int) :: ([.fieldLink RX5 16 "OverLineModel" "jumped" "[I", .methodLink RX5 52 yX5_isThing, .instanceMethod yX5_isThing, .selects RX5 yX5_isThing yX5_isThing, .initialized RX5, .code yX5_isThing cX5_isThing 2 (some .boolean), .fieldLink RX5 41 "OverLineModel" "things" "I", .methodLink RX5 45 yX5_in, .static yX5_in, .code yX5_in cX5_in 3 (some .boolean)] ++ wsX50)
def wsX5_where_r1 : List Cond := [Cond.methodLink RX5 52 yX5_isThing, Cond.instanceMethod yX5_isThing, Cond.selects RX5 yX5_isThing yX5_isThing, Cond.initialized RX5, Cond.code yX5_isThing cX5_isThing 2 (some .boolean), Cond.fieldLink RX5 41 "OverLineModel" "things" "I", Cond.methodLink RX5 45 yX5_in, Cond.static yX5_in, Cond.code yX5_in cX5_in 3 (some .boolean), Cond.methodLink RX5 56 yX5_isTick, Cond.static yX5_isTick, Cond.code yX5_isTick cX5_isTick 1 (some .boolean), Cond.methodLink RX5 59 yX5_low, Cond.instanceMethod yX5_low, Cond.selects RX5 yX5_low yX5_low, Cond.code yX5_low cX5_low 8 (some .int), Cond.fieldLink RX5 13 "OverLineModel" "sights" "[I", Cond.fieldLink RX5 19 "OverLineModel" "seenAt" "[I", Cond.fieldLink RX5 22 "OverLineModel" "seenX" "[I", Cond.fieldLink RX5 25 "OverLineModel" "seenY" "[I", Cond.fieldLink RX5 28 "OverLineModel" "radius" "[I", Cond.fieldLink RX5 9 "OverLineModel" "speed" "[I", Cond.methodLink RX5 63 yX5_high, Cond.instanceMethod yX5_high]
def wsX5_where_r2 : List Cond := [Cond.selects RX5 yX5_high yX5_high, Cond.code yX5_high cX5_high 8 (some .int)]
def wsX5_where : List Cond := .code yX5_where cX5_where 8 (some .int) :: ((wsX5_where_r1 ++ wsX5_where_r2) ++ wsX50)
def wsX5_ground : List Cond := .code yX5_ground cX5_ground 1 (some .int) :: ([.fieldLink RX5 49 "OverLineModel" "grounds" "I"] ++ wsX50)
def wsX5_draw : List Cond := .code yX5_draw cX5_draw 8 (some .int) :: ([.fieldLink RX5 31 "OverLineModel" "isGround" "[Z", .methodLink RX5 66 yX5_isGround, .instanceMethod yX5_isGround, .selects RX5 yX5_isGround yX5_isGround, .initialized RX5, .code yX5_isGround cX5_isGround 2 (some .boolean), .fieldLink RX5 49 "OverLineModel" "grounds" "I", .methodLink RX5 45 yX5_in, .static yX5_in, .code yX5_in cX5_in 3 (some .boolean)] ++ wsX50)
def wsX5_has : List Cond := .code yX5_has cX5_has 3 (some .boolean) :: ([.fieldLink RX5 31 "OverLineModel" "isGround" "[Z", .methodLink RX5 66 yX5_isGround, .instanceMethod yX5_isGround, .selects RX5 yX5_isGround yX5_isGround, .initialized RX5, .code yX5_isGround cX5_isGround 2 (some .boolean), .fieldLink RX5 49 "OverLineModel" "grounds" "I", .methodLink RX5 45 yX5_in, .static yX5_in, .code yX5_in cX5_in 3 (some .boolean)] ++ wsX50)
def wsX5_state_r1 : List Cond := [Cond.fieldLink RX5 31 "OverLineModel" "isGround" "[Z", Cond.methodLink RX5 52 yX5_isThing, Cond.instanceMethod yX5_isThing, Cond.selects RX5 yX5_isThing yX5_isThing, Cond.initialized RX5, Cond.code yX5_isThing cX5_isThing 2 (some .boolean), Cond.fieldLink RX5 41 "OverLineModel" "things" "I", Cond.methodLink RX5 45 yX5_in, Cond.static yX5_in, Cond.code yX5_in cX5_in 3 (some .boolean), Cond.methodLink RX5 66 yX5_isGround, Cond.instanceMethod yX5_isGround, Cond.selects RX5 yX5_isGround yX5_isGround, Cond.code yX5_isGround cX5_isGround 2 (some .boolean), Cond.fieldLink RX5 49 "OverLineModel" "grounds" "I", Cond.methodLink RX5 56 yX5_isTick, Cond.static yX5_isTick, Cond.code yX5_isTick cX5_isTick 1 (some .boolean), Cond.methodLink RX5 63 yX5_high, Cond.instanceMethod yX5_high, Cond.selects RX5 yX5_high yX5_high, Cond.code yX5_high cX5_high 8 (some .int), Cond.fieldLink RX5 13 "OverLineModel" "sights" "[I", Cond.fieldLink RX5 19 "OverLineModel" "seenAt" "[I"]
def wsX5_state_r2 : List Cond := [Cond.fieldLink RX5 22 "OverLineModel" "seenX" "[I", Cond.fieldLink RX5 25 "OverLineModel" "seenY" "[I", Cond.fieldLink RX5 28 "OverLineModel" "radius" "[I", Cond.fieldLink RX5 9 "OverLineModel" "speed" "[I", Cond.methodLink RX5 59 yX5_low, Cond.instanceMethod yX5_low, Cond.selects RX5 yX5_low yX5_low, Cond.code yX5_low cX5_low 8 (some .int)]
def wsX5_state : List Cond := .code yX5_state cX5_state 10 (some .int) :: ((wsX5_state_r1 ++ wsX5_state_r2) ++ wsX50)
def wsX5_better : List Cond := .code yX5_better cX5_better 3 (some .int) :: ([])
def wsX5_spreads : List Cond := .code yX5_spreads cX5_spreads 6 none :: ([.fieldLink RX5 35 "OverLineModel" "value" "[I", .fieldLink RX5 38 "OverLineModel" "across" "[I", .methodLink RX5 68 yX5_better, .static yX5_better, .initialized RX5, .code yX5_better cX5_better 3 (some .int)] ++ wsX50)
def wsX5_keeps : List Cond := .code yX5_keeps cX5_keeps 12 none :: ([.fieldLink RX5 31 "OverLineModel" "isGround" "[Z", .fieldLink RX5 35 "OverLineModel" "value" "[I", .methodLink RX5 59 yX5_low, .instanceMethod yX5_low, .selects RX5 yX5_low yX5_low, .initialized RX5, .code yX5_low cX5_low 8 (some .int), .fieldLink RX5 13 "OverLineModel" "sights" "[I", .fieldLink RX5 19 "OverLineModel" "seenAt" "[I", .fieldLink RX5 22 "OverLineModel" "seenX" "[I", .fieldLink RX5 25 "OverLineModel" "seenY" "[I", .fieldLink RX5 28 "OverLineModel" "radius" "[I", .fieldLink RX5 9 "OverLineModel" "speed" "[I", .methodLink RX5 63 yX5_high, .instanceMethod yX5_high, .selects RX5 yX5_high yX5_high, .code yX5_high cX5_high 8 (some .int), .methodLink RX5 45 yX5_in, .static yX5_in, .code yX5_in cX5_in 3 (some .boolean)] ++ wsX50)
def wsX5_canAsk : List Cond := .code yX5_canAsk cX5_canAsk 5 (some .boolean) :: ([.methodLink RX5 52 yX5_isThing, .instanceMethod yX5_isThing, .selects RX5 yX5_isThing yX5_isThing, .initialized RX5, .code yX5_isThing cX5_isThing 2 (some .boolean), .fieldLink RX5 41 "OverLineModel" "things" "I", .methodLink RX5 45 yX5_in, .static yX5_in, .code yX5_in cX5_in 3 (some .boolean), .methodLink RX5 66 yX5_isGround, .instanceMethod yX5_isGround, .selects RX5 yX5_isGround yX5_isGround, .code yX5_isGround cX5_isGround 2 (some .boolean), .fieldLink RX5 49 "OverLineModel" "grounds" "I", .methodLink RX5 56 yX5_isTick, .static yX5_isTick, .code yX5_isTick cX5_isTick 1 (some .boolean)] ++ wsX50)
def wsX5_entered_r1 : List Cond := [Cond.fieldLink RX5 35 "OverLineModel" "value" "[I", Cond.fieldLink RX5 9 "OverLineModel" "speed" "[I", Cond.methodLink RX5 71 yX5_canAsk, Cond.instanceMethod yX5_canAsk, Cond.selects RX5 yX5_canAsk yX5_canAsk, Cond.initialized RX5, Cond.code yX5_canAsk cX5_canAsk 5 (some .boolean), Cond.methodLink RX5 52 yX5_isThing, Cond.instanceMethod yX5_isThing, Cond.selects RX5 yX5_isThing yX5_isThing, Cond.code yX5_isThing cX5_isThing 2 (some .boolean), Cond.fieldLink RX5 41 "OverLineModel" "things" "I", Cond.methodLink RX5 45 yX5_in, Cond.static yX5_in, Cond.code yX5_in cX5_in 3 (some .boolean), Cond.methodLink RX5 66 yX5_isGround, Cond.instanceMethod yX5_isGround, Cond.selects RX5 yX5_isGround yX5_isGround, Cond.code yX5_isGround cX5_isGround 2 (some .boolean), Cond.fieldLink RX5 49 "OverLineModel" "grounds" "I", Cond.methodLink RX5 56 yX5_isTick, Cond.static yX5_isTick, Cond.code yX5_isTick cX5_isTick 1 (some .boolean), Cond.methodLink RX5 75 yX5_spreads]
def wsX5_entered_r2 : List Cond := [Cond.instanceMethod yX5_spreads, Cond.selects RX5 yX5_spreads yX5_spreads, Cond.code yX5_spreads cX5_spreads 6 none, Cond.fieldLink RX5 38 "OverLineModel" "across" "[I", Cond.methodLink RX5 68 yX5_better, Cond.static yX5_better, Cond.code yX5_better cX5_better 3 (some .int), Cond.methodLink RX5 79 yX5_keeps, Cond.instanceMethod yX5_keeps, Cond.selects RX5 yX5_keeps yX5_keeps, Cond.code yX5_keeps cX5_keeps 12 none, Cond.fieldLink RX5 31 "OverLineModel" "isGround" "[Z", Cond.methodLink RX5 59 yX5_low, Cond.instanceMethod yX5_low, Cond.selects RX5 yX5_low yX5_low, Cond.code yX5_low cX5_low 8 (some .int), Cond.fieldLink RX5 13 "OverLineModel" "sights" "[I", Cond.fieldLink RX5 19 "OverLineModel" "seenAt" "[I", Cond.fieldLink RX5 22 "OverLineModel" "seenX" "[I", Cond.fieldLink RX5 25 "OverLineModel" "seenY" "[I", Cond.fieldLink RX5 28 "OverLineModel" "radius" "[I", Cond.methodLink RX5 63 yX5_high, Cond.instanceMethod yX5_high, Cond.selects RX5 yX5_high yX5_high]
def wsX5_entered_r3 : List Cond := [Cond.code yX5_high cX5_high 8 (some .int)]
def wsX5_entered : List Cond := .code yX5_entered cX5_entered 8 (some .int) :: ((wsX5_entered_r1 ++ (wsX5_entered_r2 ++ wsX5_entered_r3)) ++ wsX50)
def wsX5_stay_r1 : List Cond := [Cond.fieldLink RX5 35 "OverLineModel" "value" "[I", Cond.fieldLink RX5 9 "OverLineModel" "speed" "[I", Cond.methodLink RX5 71 yX5_canAsk, Cond.instanceMethod yX5_canAsk, Cond.selects RX5 yX5_canAsk yX5_canAsk, Cond.initialized RX5, Cond.code yX5_canAsk cX5_canAsk 5 (some .boolean), Cond.methodLink RX5 52 yX5_isThing, Cond.instanceMethod yX5_isThing, Cond.selects RX5 yX5_isThing yX5_isThing, Cond.code yX5_isThing cX5_isThing 2 (some .boolean), Cond.fieldLink RX5 41 "OverLineModel" "things" "I", Cond.methodLink RX5 45 yX5_in, Cond.static yX5_in, Cond.code yX5_in cX5_in 3 (some .boolean), Cond.methodLink RX5 66 yX5_isGround, Cond.instanceMethod yX5_isGround, Cond.selects RX5 yX5_isGround yX5_isGround, Cond.code yX5_isGround cX5_isGround 2 (some .boolean), Cond.fieldLink RX5 49 "OverLineModel" "grounds" "I", Cond.methodLink RX5 56 yX5_isTick, Cond.static yX5_isTick, Cond.code yX5_isTick cX5_isTick 1 (some .boolean), Cond.methodLink RX5 75 yX5_spreads]
def wsX5_stay_r2 : List Cond := [Cond.instanceMethod yX5_spreads, Cond.selects RX5 yX5_spreads yX5_spreads, Cond.code yX5_spreads cX5_spreads 6 none, Cond.fieldLink RX5 38 "OverLineModel" "across" "[I", Cond.methodLink RX5 68 yX5_better, Cond.static yX5_better, Cond.code yX5_better cX5_better 3 (some .int), Cond.methodLink RX5 79 yX5_keeps, Cond.instanceMethod yX5_keeps, Cond.selects RX5 yX5_keeps yX5_keeps, Cond.code yX5_keeps cX5_keeps 12 none, Cond.fieldLink RX5 31 "OverLineModel" "isGround" "[Z", Cond.methodLink RX5 59 yX5_low, Cond.instanceMethod yX5_low, Cond.selects RX5 yX5_low yX5_low, Cond.code yX5_low cX5_low 8 (some .int), Cond.fieldLink RX5 13 "OverLineModel" "sights" "[I", Cond.fieldLink RX5 19 "OverLineModel" "seenAt" "[I", Cond.fieldLink RX5 22 "OverLineModel" "seenX" "[I", Cond.fieldLink RX5 25 "OverLineModel" "seenY" "[I", Cond.fieldLink RX5 28 "OverLineModel" "radius" "[I", Cond.methodLink RX5 63 yX5_high, Cond.instanceMethod yX5_high, Cond.selects RX5 yX5_high yX5_high]
def wsX5_stay_r3 : List Cond := [Cond.code yX5_high cX5_high 8 (some .int)]
def wsX5_stay : List Cond := .code yX5_stay cX5_stay 10 (some .int) :: ((wsX5_stay_r1 ++ (wsX5_stay_r2 ++ wsX5_stay_r3)) ++ wsX50)
def wsX5_look_r1 : List Cond := [Cond.methodLink RX5 45 yX5_in, Cond.static yX5_in, Cond.initialized RX5, Cond.code yX5_in cX5_in 3 (some .boolean), Cond.methodLink RX5 83 yX5_state, Cond.instanceMethod yX5_state, Cond.selects RX5 yX5_state yX5_state, Cond.code yX5_state cX5_state 10 (some .int), Cond.fieldLink RX5 31 "OverLineModel" "isGround" "[Z", Cond.methodLink RX5 52 yX5_isThing, Cond.instanceMethod yX5_isThing, Cond.selects RX5 yX5_isThing yX5_isThing, Cond.code yX5_isThing cX5_isThing 2 (some .boolean), Cond.fieldLink RX5 41 "OverLineModel" "things" "I", Cond.methodLink RX5 66 yX5_isGround, Cond.instanceMethod yX5_isGround, Cond.selects RX5 yX5_isGround yX5_isGround, Cond.code yX5_isGround cX5_isGround 2 (some .boolean), Cond.fieldLink RX5 49 "OverLineModel" "grounds" "I", Cond.methodLink RX5 56 yX5_isTick, Cond.static yX5_isTick, Cond.code yX5_isTick cX5_isTick 1 (some .boolean), Cond.methodLink RX5 63 yX5_high, Cond.instanceMethod yX5_high]
def wsX5_look_r2 : List Cond := [Cond.selects RX5 yX5_high yX5_high, Cond.code yX5_high cX5_high 8 (some .int), Cond.fieldLink RX5 13 "OverLineModel" "sights" "[I", Cond.fieldLink RX5 19 "OverLineModel" "seenAt" "[I", Cond.fieldLink RX5 22 "OverLineModel" "seenX" "[I", Cond.fieldLink RX5 25 "OverLineModel" "seenY" "[I", Cond.fieldLink RX5 28 "OverLineModel" "radius" "[I", Cond.fieldLink RX5 9 "OverLineModel" "speed" "[I", Cond.methodLink RX5 59 yX5_low, Cond.instanceMethod yX5_low, Cond.selects RX5 yX5_low yX5_low, Cond.code yX5_low cX5_low 8 (some .int)]
def wsX5_look : List Cond := .code yX5_look cX5_look 6 (some .int) :: ((wsX5_look_r1 ++ wsX5_look_r2) ++ wsX50)
def wsX5_apart_r1 : List Cond := [Cond.methodLink RX5 52 yX5_isThing, Cond.instanceMethod yX5_isThing, Cond.selects RX5 yX5_isThing yX5_isThing, Cond.initialized RX5, Cond.code yX5_isThing cX5_isThing 2 (some .boolean), Cond.fieldLink RX5 41 "OverLineModel" "things" "I", Cond.methodLink RX5 45 yX5_in, Cond.static yX5_in, Cond.code yX5_in cX5_in 3 (some .boolean), Cond.methodLink RX5 56 yX5_isTick, Cond.static yX5_isTick, Cond.code yX5_isTick cX5_isTick 1 (some .boolean), Cond.methodLink RX5 59 yX5_low, Cond.instanceMethod yX5_low, Cond.selects RX5 yX5_low yX5_low, Cond.code yX5_low cX5_low 8 (some .int), Cond.fieldLink RX5 13 "OverLineModel" "sights" "[I", Cond.fieldLink RX5 19 "OverLineModel" "seenAt" "[I", Cond.fieldLink RX5 22 "OverLineModel" "seenX" "[I", Cond.fieldLink RX5 25 "OverLineModel" "seenY" "[I", Cond.fieldLink RX5 28 "OverLineModel" "radius" "[I", Cond.fieldLink RX5 9 "OverLineModel" "speed" "[I", Cond.methodLink RX5 63 yX5_high, Cond.instanceMethod yX5_high]
def wsX5_apart_r2 : List Cond := [Cond.selects RX5 yX5_high yX5_high, Cond.code yX5_high cX5_high 8 (some .int)]
def wsX5_apart : List Cond := .code yX5_apart cX5_apart 11 (some .int) :: ((wsX5_apart_r1 ++ wsX5_apart_r2) ++ wsX50)
def wsX5_count : List Cond := .code yX5_count cX5_count 4 (some .int) :: ([.fieldLink RX5 41 "OverLineModel" "things" "I", .fieldLink RX5 13 "OverLineModel" "sights" "[I", .fieldLink RX5 49 "OverLineModel" "grounds" "I"] ++ wsX50)
def wsJ9_max_7cf53 : List Cond := .code yJ9_max_7cf53 cJ9_max_7cf53 2 (some .int) :: ([])
def wsJ9_min_7cf53 : List Cond := .code yJ9_min_7cf53 cJ9_min_7cf53 2 (some .int) :: ([])
def wsL_law_r1 : List Cond := [Cond.classLink RL 7 RX4, Cond.instantiable RX4 6, Cond.initialized RX4, Cond.classLink RL 10 RX5, Cond.instantiable RX5 12, Cond.initialized RX5, Cond.methodLink RL 9 yX4_init, Cond.instanceMethod yX4_init, Cond.code yX4_init cX4_init 1 none, Cond.methodLink RX4 3 objectInit, Cond.instanceMethod objectInit, Cond.code objectInit ⟨#[0xb1]⟩ 1 none, Cond.classLink RX4 9 RX3, Cond.fieldLink RX4 11 "OverLine" "things" "[LOverLine$Thing;", Cond.classLink RX4 15 RX1, Cond.fieldLink RX4 17 "OverLine" "grounds" "[LOverLine$Places;", Cond.instantiable RX1 1, Cond.initialized RX1, Cond.fieldLink RX4 22 "OverLine" "outside" "LOverLine$Places;", Cond.classLink RX4 26 RX2, Cond.instantiable RX2 3, Cond.initialized RX2, Cond.fieldLink RX4 29 "OverLine" "tally" "LOverLine$Tally;", Cond.fieldLink RX4 33 "OverLine" "thingsMade" "I"]
def wsL_law_r2 : List Cond := [Cond.fieldLink RX4 37 "OverLine" "groundsMade" "I", Cond.methodLink RX4 21 yX1_init, Cond.instanceMethod yX1_init, Cond.code yX1_init cX1_init 1 none, Cond.methodLink RX1 3 objectInit, Cond.arrayClass .long, Cond.fieldLink RX1 9 "OverLine$Places" "rows" "[J", Cond.methodLink RX4 28 yX2_init, Cond.instanceMethod yX2_init, Cond.code yX2_init cX2_init 2 none, Cond.methodLink RX2 3 objectInit, Cond.classLink RX2 9 RX1, Cond.fieldLink RX2 11 "OverLine$Tally" "levels" "[LOverLine$Places;", Cond.fieldLink RX2 18 "OverLine$Tally" "first" "I", Cond.fieldLink RX2 22 "OverLine$Tally" "full" "I", Cond.methodLink RX2 17 yX1_init, Cond.methodLink RL 12 yX5_init, Cond.instanceMethod yX5_init, Cond.code yX5_init cX5_init 1 none, Cond.methodLink RX5 1 objectInit, Cond.arrayClass .int, Cond.fieldLink RX5 9 "OverLineModel" "speed" "[I", Cond.fieldLink RX5 13 "OverLineModel" "sights" "[I", Cond.fieldLink RX5 16 "OverLineModel" "jumped" "[I"]
def wsL_law_r3 : List Cond := [Cond.fieldLink RX5 19 "OverLineModel" "seenAt" "[I", Cond.fieldLink RX5 22 "OverLineModel" "seenX" "[I", Cond.fieldLink RX5 25 "OverLineModel" "seenY" "[I", Cond.fieldLink RX5 28 "OverLineModel" "radius" "[I", Cond.arrayClass .boolean, Cond.fieldLink RX5 31 "OverLineModel" "isGround" "[Z", Cond.fieldLink RX5 35 "OverLineModel" "value" "[I", Cond.fieldLink RX5 38 "OverLineModel" "across" "[I", Cond.methodLink RL 13 yX4_thing, Cond.instanceMethod yX4_thing, Cond.selects RX4 yX4_thing yX4_thing, Cond.code yX4_thing cX4_thing 2 (some .int), Cond.instantiable RX3 7, Cond.initialized RX3, Cond.methodLink RX4 40 yX3_init, Cond.instanceMethod yX3_init, Cond.code yX3_init cX3_init 3 none, Cond.methodLink RX3 3 objectInit, Cond.fieldLink RX3 9 "OverLine$Thing" "speed" "I", Cond.fieldLink RX3 15 "OverLine$Thing" "ticks" "[I", Cond.fieldLink RX3 19 "OverLine$Thing" "wheres" "[I", Cond.fieldLink RX3 22 "OverLine$Thing" "radii" "[I", Cond.classLink RX3 25 RX0, Cond.fieldLink RX3 27 "OverLine$Thing" "reach" "[LOverLine$Box;"]
def wsL_law_r4 : List Cond := [Cond.instantiable RX0 4, Cond.initialized RX0, Cond.fieldLink RX3 34 "OverLine$Thing" "sightsKept" "I", Cond.fieldLink RX3 37 "OverLine$Thing" "sightsLeftOut" "I", Cond.methodLink RX3 31 yX0_init, Cond.instanceMethod yX0_init, Cond.code yX0_init cX0_init 5 none, Cond.methodLink RX0 3 objectInit, Cond.fieldLink RX0 9 "OverLine$Box" "lowX" "I", Cond.fieldLink RX0 15 "OverLine$Box" "highX" "I", Cond.fieldLink RX0 18 "OverLine$Box" "lowY" "I", Cond.fieldLink RX0 21 "OverLine$Box" "highY" "I", Cond.methodLink RL 17 yX5_thing, Cond.instanceMethod yX5_thing, Cond.selects RX5 yX5_thing yX5_thing, Cond.code yX5_thing cX5_thing 2 (some .int), Cond.fieldLink RX5 41 "OverLineModel" "things" "I", Cond.methodLink RX5 45 yX5_in, Cond.static yX5_in, Cond.code yX5_in cX5_in 3 (some .boolean), Cond.methodLink RL 18 yX4_see, Cond.instanceMethod yX4_see, Cond.selects RX4 yX4_see yX4_see, Cond.code yX4_see cX4_see 6 (some .int)]
def wsL_law_r5 : List Cond := [Cond.methodLink RX4 43 yX4_thingOf, Cond.instanceMethod yX4_thingOf, Cond.selects RX4 yX4_thingOf yX4_thingOf, Cond.code yX4_thingOf cX4_thingOf 2 (some (.object "OverLine$Thing")), Cond.methodLink RX4 47 yX4_isTick, Cond.static yX4_isTick, Cond.code yX4_isTick cX4_isTick 1 (some .boolean), Cond.methodLink RX4 51 yX4_isPlace, Cond.static yX4_isPlace, Cond.code yX4_isPlace cX4_isPlace 1 (some .boolean), Cond.methodLink RX4 54 yX3_takeSight, Cond.instanceMethod yX3_takeSight, Cond.selects RX3 yX3_takeSight yX3_takeSight, Cond.code yX3_takeSight cX3_takeSight 4 (some .boolean), Cond.methodLink RX3 40 yX3_settle, Cond.instanceMethod yX3_settle, Cond.selects RX3 yX3_settle yX3_settle, Cond.code yX3_settle cX3_settle 2 none, Cond.methodLink RX3 60 yX0_setToField, Cond.instanceMethod yX0_setToField, Cond.selects RX0 yX0_setToField yX0_setToField, Cond.code yX0_setToField cX0_setToField 1 none, Cond.static yX4_xOf, Cond.code yX4_xOf cX4_xOf 1 (some .int)]
def wsL_law_r6 : List Cond := [Cond.static yX4_yOf, Cond.code yX4_yOf cX4_yOf 1 (some .int), Cond.methodLink RX3 70 yX0_keepAround, Cond.instanceMethod yX0_keepAround, Cond.selects RX0 yX0_keepAround yX0_keepAround, Cond.code yX0_keepAround cX0_keepAround 4 none, Cond.methodLink RX0 24 Lib.Math.max.name, Cond.static Lib.Math.max.name, Cond.initialized "java/lang/Math", Cond.code Lib.Math.max.name Lib.Math.max.code 2 (some .int), Cond.methodLink RX0 30 Lib.Math.min.name, Cond.static Lib.Math.min.name, Cond.code Lib.Math.min.name Lib.Math.min.code 2 (some .int), Cond.methodLink RX3 74 yX0_keepNear, Cond.instanceMethod yX0_keepNear, Cond.selects RX0 yX0_keepNear yX0_keepNear, Cond.code yX0_keepNear cX0_keepNear 3 none, Cond.methodLink RX3 43 yX3_canMove, Cond.instanceMethod yX3_canMove, Cond.selects RX3 yX3_canMove yX3_canMove, Cond.code yX3_canMove cX3_canMove 2 (some .boolean), Cond.methodLink RX3 57 yX0_isEmpty, Cond.instanceMethod yX0_isEmpty, Cond.selects RX0 yX0_isEmpty yX0_isEmpty]
def wsL_law_r7 : List Cond := [Cond.code yX0_isEmpty cX0_isEmpty 1 (some .boolean), Cond.methodLink RX4 58 yX3_sights, Cond.instanceMethod yX3_sights, Cond.selects RX3 yX3_sights yX3_sights, Cond.code yX3_sights cX3_sights 1 (some .int), Cond.methodLink RL 22 yX5_see, Cond.instanceMethod yX5_see, Cond.selects RX5 yX5_see yX5_see, Cond.code yX5_see cX5_see 7 (some .int), Cond.methodLink RX5 52 yX5_isThing, Cond.instanceMethod yX5_isThing, Cond.selects RX5 yX5_isThing yX5_isThing, Cond.code yX5_isThing cX5_isThing 2 (some .boolean), Cond.methodLink RX5 56 yX5_isTick, Cond.static yX5_isTick, Cond.code yX5_isTick cX5_isTick 1 (some .boolean), Cond.methodLink RX5 59 yX5_low, Cond.instanceMethod yX5_low, Cond.selects RX5 yX5_low yX5_low, Cond.code yX5_low cX5_low 8 (some .int), Cond.methodLink RX5 63 yX5_high, Cond.instanceMethod yX5_high, Cond.selects RX5 yX5_high yX5_high, Cond.code yX5_high cX5_high 8 (some .int)]
def wsL_law_r8 : List Cond := [Cond.methodLink RL 23 yX4_back, Cond.instanceMethod yX4_back, Cond.selects RX4 yX4_back yX4_back, Cond.code yX4_back cX4_back 3 (some .boolean), Cond.methodLink RX4 62 yX3_dropSight, Cond.instanceMethod yX3_dropSight, Cond.selects RX3 yX3_dropSight yX3_dropSight, Cond.code yX3_dropSight cX3_dropSight 1 (some .boolean), Cond.methodLink RL 27 yX5_back, Cond.instanceMethod yX5_back, Cond.selects RX5 yX5_back yX5_back, Cond.code yX5_back cX5_back 2 (some .boolean), Cond.methodLink RL 28 yX4_jumps, Cond.instanceMethod yX4_jumps, Cond.selects RX4 yX4_jumps yX4_jumps, Cond.code yX4_jumps cX4_jumps 3 (some .int), Cond.methodLink RX4 66 yX3_leftOut, Cond.instanceMethod yX3_leftOut, Cond.selects RX3 yX3_leftOut yX3_leftOut, Cond.code yX3_leftOut cX3_leftOut 1 (some .int), Cond.methodLink RL 31 yX5_jumps, Cond.instanceMethod yX5_jumps, Cond.selects RX5 yX5_jumps yX5_jumps, Cond.code yX5_jumps cX5_jumps 2 (some .int)]
def wsL_law_r9 : List Cond := [Cond.methodLink RL 32 yX4_where, Cond.instanceMethod yX4_where, Cond.selects RX4 yX4_where yX4_where, Cond.code yX4_where cX4_where 6 (some .int), Cond.methodLink RX4 69 yX3_reachAt, Cond.instanceMethod yX3_reachAt, Cond.selects RX3 yX3_reachAt yX3_reachAt, Cond.code yX3_reachAt cX3_reachAt 2 (some (.object "OverLine$Box")), Cond.methodLink RX4 87 yX0_size, Cond.instanceMethod yX0_size, Cond.selects RX0 yX0_size yX0_size, Cond.code yX0_size cX0_size 1 (some .int), Cond.methodLink RL 36 yX5_where, Cond.instanceMethod yX5_where, Cond.selects RX5 yX5_where yX5_where, Cond.code yX5_where cX5_where 8 (some .int), Cond.methodLink RL 37 yX4_ground, Cond.instanceMethod yX4_ground, Cond.selects RX4 yX4_ground yX4_ground, Cond.code yX4_ground cX4_ground 1 (some .int), Cond.methodLink RL 41 yX5_ground, Cond.instanceMethod yX5_ground, Cond.selects RX5 yX5_ground yX5_ground, Cond.code yX5_ground cX5_ground 1 (some .int)]
def wsL_law_r10 : List Cond := [Cond.fieldLink RX5 49 "OverLineModel" "grounds" "I", Cond.methodLink RL 42 yX4_draw, Cond.instanceMethod yX4_draw, Cond.selects RX4 yX4_draw yX4_draw, Cond.code yX4_draw cX4_draw 7 (some .int), Cond.classLink RX4 74 RX0, Cond.methodLink RX4 90 yX4_groundOf, Cond.instanceMethod yX4_groundOf, Cond.selects RX4 yX4_groundOf yX4_groundOf, Cond.code yX4_groundOf cX4_groundOf 2 (some (.object "OverLine$Places")), Cond.methodLink RX4 94 yX4_xOf, Cond.methodLink RX4 98 yX4_yOf, Cond.methodLink RX4 101 yX0_init, Cond.methodLink RX4 104 yX0_isEmpty, Cond.methodLink RX4 107 yX1_add, Cond.instanceMethod yX1_add, Cond.selects RX1 yX1_add yX1_add, Cond.code yX1_add cX1_add 5 none, Cond.methodLink RX1 21 yX0_rowBits, Cond.instanceMethod yX0_rowBits, Cond.selects RX0 yX0_rowBits yX0_rowBits, Cond.code yX0_rowBits cX0_rowBits 1 (some .long), Cond.constantLong RX0 33 (-1), Cond.methodLink RX4 111 yX1_remove]
def wsL_law_r11 : List Cond := [Cond.instanceMethod yX1_remove, Cond.selects RX1 yX1_remove yX1_remove, Cond.code yX1_remove cX1_remove 5 none, Cond.constantLong RX1 34 (-1), Cond.methodLink RX4 114 yX1_size, Cond.instanceMethod yX1_size, Cond.selects RX1 yX1_size yX1_size, Cond.code yX1_size cX1_size 3 (some .int), Cond.methodLink RX1 15 yJ13_bitCount_95d88, Cond.static yJ13_bitCount_95d88, Cond.initialized RJ13, Cond.code yJ13_bitCount_95d88 cJ13_bitCount_95d88 2 (some .int), Cond.constantLong RJ13 314 (6148914691236517205), Cond.constantLong RJ13 316 (3689348814741910323), Cond.constantLong RJ13 318 (1085102592571150095), Cond.methodLink RL 46 yX5_draw, Cond.instanceMethod yX5_draw, Cond.selects RX5 yX5_draw yX5_draw, Cond.code yX5_draw cX5_draw 8 (some .int), Cond.methodLink RX5 66 yX5_isGround, Cond.instanceMethod yX5_isGround, Cond.selects RX5 yX5_isGround yX5_isGround, Cond.code yX5_isGround cX5_isGround 2 (some .boolean), Cond.methodLink RL 47 yX4_has]
def wsL_law_r12 : List Cond := [Cond.instanceMethod yX4_has, Cond.selects RX4 yX4_has yX4_has, Cond.code yX4_has cX4_has 4 (some .boolean), Cond.methodLink RX4 115 yX1_holds, Cond.instanceMethod yX1_holds, Cond.selects RX1 yX1_holds yX1_holds, Cond.code yX1_holds cX1_holds 3 (some .boolean), Cond.methodLink RL 51 yX5_has, Cond.instanceMethod yX5_has, Cond.selects RX5 yX5_has yX5_has, Cond.code yX5_has cX5_has 3 (some .boolean), Cond.methodLink RL 52 yX4_state, Cond.instanceMethod yX4_state, Cond.selects RX4 yX4_state yX4_state, Cond.code yX4_state cX4_state 6 (some .int), Cond.methodLink RX4 119 yX4_stateOf, Cond.static yX4_stateOf, Cond.code yX4_stateOf cX4_stateOf 4 (some .int), Cond.methodLink RX4 161 yX1_meets, Cond.instanceMethod yX1_meets, Cond.selects RX1 yX1_meets yX1_meets, Cond.code yX1_meets cX1_meets 5 (some .boolean), Cond.methodLink RX4 165 yX1_covers, Cond.instanceMethod yX1_covers]
def wsL_law_r13 : List Cond := [Cond.selects RX1 yX1_covers yX1_covers, Cond.code yX1_covers cX1_covers 5 (some .boolean), Cond.methodLink RL 55 yX5_state, Cond.instanceMethod yX5_state, Cond.selects RX5 yX5_state yX5_state, Cond.code yX5_state cX5_state 10 (some .int), Cond.methodLink RL 56 yX4_entered, Cond.instanceMethod yX4_entered, Cond.selects RX4 yX4_entered yX4_entered, Cond.code yX4_entered cX4_entered 8 (some .int), Cond.methodLink RX4 123 yX4_isStretch, Cond.static yX4_isStretch, Cond.code yX4_isStretch cX4_isStretch 2 (some .boolean), Cond.methodLink RX4 126 yX1_setTo, Cond.instanceMethod yX1_setTo, Cond.selects RX1 yX1_setTo yX1_setTo, Cond.code yX1_setTo cX1_setTo 5 none, Cond.methodLink RX4 129 yX1_drop, Cond.instanceMethod yX1_drop, Cond.selects RX1 yX1_drop yX1_drop, Cond.code yX1_drop cX1_drop 3 none, Cond.methodLink RX4 133 yX1_isEmpty, Cond.instanceMethod yX1_isEmpty, Cond.selects RX1 yX1_isEmpty yX1_isEmpty]
def wsL_law_r14 : List Cond := [Cond.code yX1_isEmpty cX1_isEmpty 2 (some .boolean), Cond.methodLink RX4 134 yX3_advance, Cond.instanceMethod yX3_advance, Cond.selects RX3 yX3_advance yX3_advance, Cond.code yX3_advance cX3_advance 3 none, Cond.methodLink RX3 47 yX1_widen, Cond.instanceMethod yX1_widen, Cond.selects RX1 yX1_widen yX1_widen, Cond.code yX1_widen cX1_widen 4 none, Cond.methodLink RX1 36 Lib.Math.min.name, Cond.methodLink RX1 42 yX1_spread, Cond.instanceMethod yX1_spread, Cond.selects RX1 yX1_spread yX1_spread, Cond.code yX1_spread cX1_spread 3 none, Cond.methodLink RX3 53 yX1_keep, Cond.instanceMethod yX1_keep, Cond.selects RX1 yX1_keep yX1_keep, Cond.code yX1_keep cX1_keep 5 none, Cond.methodLink RL 59 yX5_entered, Cond.instanceMethod yX5_entered, Cond.selects RX5 yX5_entered yX5_entered, Cond.code yX5_entered cX5_entered 8 (some .int), Cond.methodLink RX5 71 yX5_canAsk, Cond.instanceMethod yX5_canAsk]
def wsL_law_r15 : List Cond := [Cond.selects RX5 yX5_canAsk yX5_canAsk, Cond.code yX5_canAsk cX5_canAsk 5 (some .boolean), Cond.methodLink RX5 75 yX5_spreads, Cond.instanceMethod yX5_spreads, Cond.selects RX5 yX5_spreads yX5_spreads, Cond.code yX5_spreads cX5_spreads 6 none, Cond.methodLink RX5 68 yX5_better, Cond.static yX5_better, Cond.code yX5_better cX5_better 3 (some .int), Cond.methodLink RX5 79 yX5_keeps, Cond.instanceMethod yX5_keeps, Cond.selects RX5 yX5_keeps yX5_keeps, Cond.code yX5_keeps cX5_keeps 12 none, Cond.methodLink RL 60 yX4_stay, Cond.instanceMethod yX4_stay, Cond.selects RX4 yX4_stay yX4_stay, Cond.code yX4_stay cX4_stay 8 (some .int), Cond.methodLink RX4 138 yX2_fewest, Cond.instanceMethod yX2_fewest, Cond.selects RX2 yX2_fewest yX2_fewest, Cond.code yX2_fewest cX2_fewest 6 (some .int), Cond.methodLink RX2 25 yX2_advance, Cond.instanceMethod yX2_advance, Cond.selects RX2 yX2_advance yX2_advance]
def wsL_law_r16 : List Cond := [Cond.code yX2_advance cX2_advance 4 none, Cond.methodLink RX2 43 yX3_advance, Cond.methodLink RX2 33 yX3_reachAt, Cond.methodLink RX2 46 yX1_setTo, Cond.methodLink RX2 29 yX2_countTick, Cond.instanceMethod yX2_countTick, Cond.selects RX2 yX2_countTick yX2_countTick, Cond.code yX2_countTick cX2_countTick 3 none, Cond.methodLink RX2 49 yX1_takeWithin, Cond.instanceMethod yX1_takeWithin, Cond.selects RX1 yX1_takeWithin yX1_takeWithin, Cond.code yX1_takeWithin cX1_takeWithin 6 none, Cond.methodLink RX2 53 yX1_drop, Cond.methodLink RX2 39 yX2_narrow, Cond.instanceMethod yX2_narrow, Cond.selects RX2 yX2_narrow yX2_narrow, Cond.code yX2_narrow cX2_narrow 2 none, Cond.methodLink RX2 56 yX1_isEmpty, Cond.methodLink RX2 60 yX1_covers, Cond.methodLink RX4 142 yX1_setToAllBut, Cond.instanceMethod yX1_setToAllBut, Cond.selects RX1 yX1_setToAllBut yX1_setToAllBut, Cond.code yX1_setToAllBut cX1_setToAllBut 3 none, Cond.methodLink RL 64 yX5_stay]
def wsL_law_r17 : List Cond := [Cond.instanceMethod yX5_stay, Cond.selects RX5 yX5_stay yX5_stay, Cond.code yX5_stay cX5_stay 10 (some .int), Cond.methodLink RL 65 yX4_look, Cond.instanceMethod yX4_look, Cond.selects RX4 yX4_look yX4_look, Cond.code yX4_look cX4_look 8 (some .int), Cond.methodLink RX4 145 Lib.Math.min.name, Cond.methodLink RL 68 yX5_look, Cond.instanceMethod yX5_look, Cond.selects RX5 yX5_look yX5_look, Cond.code yX5_look cX5_look 6 (some .int), Cond.methodLink RX5 83 yX5_state, Cond.methodLink RL 69 yX4_apart, Cond.instanceMethod yX4_apart, Cond.selects RX4 yX4_apart yX4_apart, Cond.code yX4_apart cX4_apart 9 (some .int), Cond.methodLink RX4 151 yX0_leastApart, Cond.instanceMethod yX0_leastApart, Cond.selects RX0 yX0_leastApart yX0_leastApart, Cond.code yX0_leastApart cX0_leastApart 4 (some .int), Cond.methodLink RX4 155 yX0_mostApart, Cond.instanceMethod yX0_mostApart, Cond.selects RX0 yX0_mostApart yX0_mostApart]
def wsL_law_r18 : List Cond := [Cond.code yX0_mostApart cX0_mostApart 4 (some .int), Cond.methodLink RL 72 yX5_apart, Cond.instanceMethod yX5_apart, Cond.selects RX5 yX5_apart yX5_apart, Cond.code yX5_apart cX5_apart 11 (some .int), Cond.methodLink RL 73 yX4_count, Cond.instanceMethod yX4_count, Cond.selects RX4 yX4_count yX4_count, Cond.code yX4_count cX4_count 2 (some .int), Cond.methodLink RX4 158 yX4_sightsOfAll, Cond.instanceMethod yX4_sightsOfAll, Cond.selects RX4 yX4_sightsOfAll yX4_sightsOfAll, Cond.code yX4_sightsOfAll cX4_sightsOfAll 3 (some .int), Cond.methodLink RL 76 yX5_count, Cond.instanceMethod yX5_count, Cond.selects RX5 yX5_count yX5_count, Cond.code yX5_count cX5_count 4 (some .int)]
def wsL_law : List Cond := (wsL_law_r1 ++ (wsL_law_r2 ++ (wsL_law_r3 ++ (wsL_law_r4 ++ (wsL_law_r5 ++ (wsL_law_r6 ++ (wsL_law_r7 ++ (wsL_law_r8 ++ (wsL_law_r9 ++ (wsL_law_r10 ++ (wsL_law_r11 ++ (wsL_law_r12 ++ (wsL_law_r13 ++ (wsL_law_r14 ++ (wsL_law_r15 ++ (wsL_law_r16 ++ (wsL_law_r17 ++ wsL_law_r18))))))))))))))))) ++ wsX40 ++ wsX50 ++ wsX10 ++ wsX20 ++ wsX30 ++ wsX00 ++ ([] : List Cond)
theorem dX0_init_0 : decode cX0_init 0 = .ok (.aload_n 0, 1) := by decide +kernel
theorem dX0_init_1 : decode cX0_init 1 = .ok (.invokespecial 3, 3) := by decide +kernel
theorem dX0_init_4 : decode cX0_init 4 = .ok (.aload_n 0, 1) := by decide +kernel
theorem dX0_init_5 : decode cX0_init 5 = .ok (.iload_n 1, 1) := by decide +kernel
theorem dX0_init_6 : decode cX0_init 6 = .ok (.putfield 9, 3) := by decide +kernel
theorem dX0_init_9 : decode cX0_init 9 = .ok (.aload_n 0, 1) := by decide +kernel
theorem dX0_init_10 : decode cX0_init 10 = .ok (.iload_n 2, 1) := by decide +kernel
theorem dX0_init_11 : decode cX0_init 11 = .ok (.putfield 15, 3) := by decide +kernel
theorem dX0_init_14 : decode cX0_init 14 = .ok (.aload_n 0, 1) := by decide +kernel
end
section
theorem dX0_init_15 : decode cX0_init 15 = .ok (.iload_n 3, 1) := by decide +kernel
theorem dX0_init_16 : decode cX0_init 16 = .ok (.putfield 18, 3) := by decide +kernel
theorem dX0_init_19 : decode cX0_init 19 = .ok (.aload_n 0, 1) := by decide +kernel
theorem dX0_init_20 : decode cX0_init 20 = .ok (.iload 4, 2) := by decide +kernel
theorem dX0_init_22 : decode cX0_init 22 = .ok (.putfield 21, 3) := by decide +kernel
theorem dX0_init_25 : decode cX0_init 25 = .ok (.return_, 1) := by decide +kernel
theorem dX0_setToField_0 : decode cX0_setToField 0 = .ok (.aload_n 0, 1) := by decide +kernel
theorem dX0_setToField_1 : decode cX0_setToField 1 = .ok (.iconst 0, 1) := by decide +kernel
theorem dX0_setToField_2 : decode cX0_setToField 2 = .ok (.putfield 9, 3) := by decide +kernel
theorem dX0_setToField_5 : decode cX0_setToField 5 = .ok (.aload_n 0, 1) := by decide +kernel
theorem dX0_setToField_6 : decode cX0_setToField 6 = .ok (.bipush 63, 2) := by decide +kernel
theorem dX0_setToField_8 : decode cX0_setToField 8 = .ok (.putfield 15, 3) := by decide +kernel
theorem dX0_setToField_11 : decode cX0_setToField 11 = .ok (.aload_n 0, 1) := by decide +kernel
theorem dX0_setToField_12 : decode cX0_setToField 12 = .ok (.iconst 0, 1) := by decide +kernel
theorem dX0_setToField_13 : decode cX0_setToField 13 = .ok (.putfield 18, 3) := by decide +kernel
theorem dX0_setToField_16 : decode cX0_setToField 16 = .ok (.aload_n 0, 1) := by decide +kernel
theorem dX0_setToField_17 : decode cX0_setToField 17 = .ok (.bipush 63, 2) := by decide +kernel
theorem dX0_setToField_19 : decode cX0_setToField 19 = .ok (.putfield 21, 3) := by decide +kernel
theorem dX0_setToField_22 : decode cX0_setToField 22 = .ok (.return_, 1) := by decide +kernel
theorem dX0_keepAround_0 : decode cX0_keepAround 0 = .ok (.aload_n 0, 1) := by decide +kernel
theorem dX0_keepAround_1 : decode cX0_keepAround 1 = .ok (.aload_n 0, 1) := by decide +kernel
theorem dX0_keepAround_2 : decode cX0_keepAround 2 = .ok (.getfield 9, 3) := by decide +kernel
theorem dX0_keepAround_5 : decode cX0_keepAround 5 = .ok (.iload_n 1, 1) := by decide +kernel
theorem dX0_keepAround_6 : decode cX0_keepAround 6 = .ok (.iload_n 3, 1) := by decide +kernel
theorem dX0_keepAround_7 : decode cX0_keepAround 7 = .ok (.isub, 1) := by decide +kernel
theorem dX0_keepAround_8 : decode cX0_keepAround 8 = .ok (.invokestatic 24, 3) := by decide +kernel
theorem dX0_keepAround_11 : decode cX0_keepAround 11 = .ok (.putfield 9, 3) := by decide +kernel
theorem dX0_keepAround_14 : decode cX0_keepAround 14 = .ok (.aload_n 0, 1) := by decide +kernel
theorem dX0_keepAround_15 : decode cX0_keepAround 15 = .ok (.aload_n 0, 1) := by decide +kernel
theorem dX0_keepAround_16 : decode cX0_keepAround 16 = .ok (.getfield 15, 3) := by decide +kernel
theorem dX0_keepAround_19 : decode cX0_keepAround 19 = .ok (.iload_n 1, 1) := by decide +kernel
theorem dX0_keepAround_20 : decode cX0_keepAround 20 = .ok (.iload_n 3, 1) := by decide +kernel
theorem dX0_keepAround_21 : decode cX0_keepAround 21 = .ok (.iadd, 1) := by decide +kernel
theorem dX0_keepAround_22 : decode cX0_keepAround 22 = .ok (.invokestatic 30, 3) := by decide +kernel
theorem dX0_keepAround_25 : decode cX0_keepAround 25 = .ok (.putfield 15, 3) := by decide +kernel
theorem dX0_keepAround_28 : decode cX0_keepAround 28 = .ok (.aload_n 0, 1) := by decide +kernel
theorem dX0_keepAround_29 : decode cX0_keepAround 29 = .ok (.aload_n 0, 1) := by decide +kernel
theorem dX0_keepAround_30 : decode cX0_keepAround 30 = .ok (.getfield 18, 3) := by decide +kernel
theorem dX0_keepAround_33 : decode cX0_keepAround 33 = .ok (.iload_n 2, 1) := by decide +kernel
theorem dX0_keepAround_34 : decode cX0_keepAround 34 = .ok (.iload_n 3, 1) := by decide +kernel
theorem dX0_keepAround_35 : decode cX0_keepAround 35 = .ok (.isub, 1) := by decide +kernel
theorem dX0_keepAround_36 : decode cX0_keepAround 36 = .ok (.invokestatic 24, 3) := by decide +kernel
theorem dX0_keepAround_39 : decode cX0_keepAround 39 = .ok (.putfield 18, 3) := by decide +kernel
theorem dX0_keepAround_42 : decode cX0_keepAround 42 = .ok (.aload_n 0, 1) := by decide +kernel
theorem dX0_keepAround_43 : decode cX0_keepAround 43 = .ok (.aload_n 0, 1) := by decide +kernel
theorem dX0_keepAround_44 : decode cX0_keepAround 44 = .ok (.getfield 21, 3) := by decide +kernel
theorem dX0_keepAround_47 : decode cX0_keepAround 47 = .ok (.iload_n 2, 1) := by decide +kernel
theorem dX0_keepAround_48 : decode cX0_keepAround 48 = .ok (.iload_n 3, 1) := by decide +kernel
theorem dX0_keepAround_49 : decode cX0_keepAround 49 = .ok (.iadd, 1) := by decide +kernel
theorem dX0_keepAround_50 : decode cX0_keepAround 50 = .ok (.invokestatic 30, 3) := by decide +kernel
theorem dX0_keepAround_53 : decode cX0_keepAround 53 = .ok (.putfield 21, 3) := by decide +kernel
theorem dX0_keepAround_56 : decode cX0_keepAround 56 = .ok (.return_, 1) := by decide +kernel
theorem dX0_keepNear_0 : decode cX0_keepNear 0 = .ok (.aload_n 0, 1) := by decide +kernel
theorem dX0_keepNear_1 : decode cX0_keepNear 1 = .ok (.aload_n 0, 1) := by decide +kernel
theorem dX0_keepNear_2 : decode cX0_keepNear 2 = .ok (.getfield 9, 3) := by decide +kernel
theorem dX0_keepNear_5 : decode cX0_keepNear 5 = .ok (.aload_n 1, 1) := by decide +kernel
theorem dX0_keepNear_6 : decode cX0_keepNear 6 = .ok (.getfield 9, 3) := by decide +kernel
theorem dX0_keepNear_9 : decode cX0_keepNear 9 = .ok (.iload_n 2, 1) := by decide +kernel
theorem dX0_keepNear_10 : decode cX0_keepNear 10 = .ok (.isub, 1) := by decide +kernel
theorem dX0_keepNear_11 : decode cX0_keepNear 11 = .ok (.invokestatic 24, 3) := by decide +kernel
theorem dX0_keepNear_14 : decode cX0_keepNear 14 = .ok (.putfield 9, 3) := by decide +kernel
theorem dX0_keepNear_17 : decode cX0_keepNear 17 = .ok (.aload_n 0, 1) := by decide +kernel
theorem dX0_keepNear_18 : decode cX0_keepNear 18 = .ok (.aload_n 0, 1) := by decide +kernel
theorem dX0_keepNear_19 : decode cX0_keepNear 19 = .ok (.getfield 15, 3) := by decide +kernel
theorem dX0_keepNear_22 : decode cX0_keepNear 22 = .ok (.aload_n 1, 1) := by decide +kernel
theorem dX0_keepNear_23 : decode cX0_keepNear 23 = .ok (.getfield 15, 3) := by decide +kernel
theorem dX0_keepNear_26 : decode cX0_keepNear 26 = .ok (.iload_n 2, 1) := by decide +kernel
theorem dX0_keepNear_27 : decode cX0_keepNear 27 = .ok (.iadd, 1) := by decide +kernel
theorem dX0_keepNear_28 : decode cX0_keepNear 28 = .ok (.invokestatic 30, 3) := by decide +kernel
theorem dX0_keepNear_31 : decode cX0_keepNear 31 = .ok (.putfield 15, 3) := by decide +kernel
theorem dX0_keepNear_34 : decode cX0_keepNear 34 = .ok (.aload_n 0, 1) := by decide +kernel
theorem dX0_keepNear_35 : decode cX0_keepNear 35 = .ok (.aload_n 0, 1) := by decide +kernel
theorem dX0_keepNear_36 : decode cX0_keepNear 36 = .ok (.getfield 18, 3) := by decide +kernel
theorem dX0_keepNear_39 : decode cX0_keepNear 39 = .ok (.aload_n 1, 1) := by decide +kernel
theorem dX0_keepNear_40 : decode cX0_keepNear 40 = .ok (.getfield 18, 3) := by decide +kernel
theorem dX0_keepNear_43 : decode cX0_keepNear 43 = .ok (.iload_n 2, 1) := by decide +kernel
theorem dX0_keepNear_44 : decode cX0_keepNear 44 = .ok (.isub, 1) := by decide +kernel
theorem dX0_keepNear_45 : decode cX0_keepNear 45 = .ok (.invokestatic 24, 3) := by decide +kernel
theorem dX0_keepNear_48 : decode cX0_keepNear 48 = .ok (.putfield 18, 3) := by decide +kernel
theorem dX0_keepNear_51 : decode cX0_keepNear 51 = .ok (.aload_n 0, 1) := by decide +kernel
theorem dX0_keepNear_52 : decode cX0_keepNear 52 = .ok (.aload_n 0, 1) := by decide +kernel
theorem dX0_keepNear_53 : decode cX0_keepNear 53 = .ok (.getfield 21, 3) := by decide +kernel
theorem dX0_keepNear_56 : decode cX0_keepNear 56 = .ok (.aload_n 1, 1) := by decide +kernel
theorem dX0_keepNear_57 : decode cX0_keepNear 57 = .ok (.getfield 21, 3) := by decide +kernel
theorem dX0_keepNear_60 : decode cX0_keepNear 60 = .ok (.iload_n 2, 1) := by decide +kernel
theorem dX0_keepNear_61 : decode cX0_keepNear 61 = .ok (.iadd, 1) := by decide +kernel
theorem dX0_keepNear_62 : decode cX0_keepNear 62 = .ok (.invokestatic 30, 3) := by decide +kernel
theorem dX0_keepNear_65 : decode cX0_keepNear 65 = .ok (.putfield 21, 3) := by decide +kernel
theorem dX0_keepNear_68 : decode cX0_keepNear 68 = .ok (.return_, 1) := by decide +kernel
theorem dX0_isEmpty_0 : decode cX0_isEmpty 0 = .ok (.aload_n 0, 1) := by decide +kernel
theorem dX0_isEmpty_1 : decode cX0_isEmpty 1 = .ok (.getfield 9, 3) := by decide +kernel
theorem dX0_isEmpty_4 : decode cX0_isEmpty 4 = .ok (.aload_n 0, 1) := by decide +kernel
theorem dX0_isEmpty_5 : decode cX0_isEmpty 5 = .ok (.getfield 15, 3) := by decide +kernel
theorem dX0_isEmpty_8 : decode cX0_isEmpty 8 = .ok (.if_icmp .gt 14, 3) := by decide +kernel
theorem dX0_isEmpty_11 : decode cX0_isEmpty 11 = .ok (.aload_n 0, 1) := by decide +kernel
theorem dX0_isEmpty_12 : decode cX0_isEmpty 12 = .ok (.getfield 18, 3) := by decide +kernel
theorem dX0_isEmpty_15 : decode cX0_isEmpty 15 = .ok (.aload_n 0, 1) := by decide +kernel
theorem dX0_isEmpty_16 : decode cX0_isEmpty 16 = .ok (.getfield 21, 3) := by decide +kernel
theorem dX0_isEmpty_19 : decode cX0_isEmpty 19 = .ok (.if_icmp .le 7, 3) := by decide +kernel
theorem dX0_isEmpty_22 : decode cX0_isEmpty 22 = .ok (.iconst 1, 1) := by decide +kernel
theorem dX0_isEmpty_23 : decode cX0_isEmpty 23 = .ok (.goto 4, 3) := by decide +kernel
theorem dX0_isEmpty_26 : decode cX0_isEmpty 26 = .ok (.iconst 0, 1) := by decide +kernel
theorem dX0_isEmpty_27 : decode cX0_isEmpty 27 = .ok (.ireturn, 1) := by decide +kernel
theorem dX0_size_0 : decode cX0_size 0 = .ok (.aload_n 0, 1) := by decide +kernel
theorem dX0_size_1 : decode cX0_size 1 = .ok (.getfield 15, 3) := by decide +kernel
theorem dX0_size_4 : decode cX0_size 4 = .ok (.aload_n 0, 1) := by decide +kernel
theorem dX0_size_5 : decode cX0_size 5 = .ok (.getfield 9, 3) := by decide +kernel
theorem dX0_size_8 : decode cX0_size 8 = .ok (.isub, 1) := by decide +kernel
theorem dX0_size_9 : decode cX0_size 9 = .ok (.iconst 1, 1) := by decide +kernel
theorem dX0_size_10 : decode cX0_size 10 = .ok (.iadd, 1) := by decide +kernel
theorem dX0_size_11 : decode cX0_size 11 = .ok (.aload_n 0, 1) := by decide +kernel
theorem dX0_size_12 : decode cX0_size 12 = .ok (.getfield 21, 3) := by decide +kernel
theorem dX0_size_15 : decode cX0_size 15 = .ok (.aload_n 0, 1) := by decide +kernel
theorem dX0_size_16 : decode cX0_size 16 = .ok (.getfield 18, 3) := by decide +kernel
theorem dX0_size_19 : decode cX0_size 19 = .ok (.isub, 1) := by decide +kernel
theorem dX0_size_20 : decode cX0_size 20 = .ok (.iconst 1, 1) := by decide +kernel
theorem dX0_size_21 : decode cX0_size 21 = .ok (.iadd, 1) := by decide +kernel
theorem dX0_size_22 : decode cX0_size 22 = .ok (.imul, 1) := by decide +kernel
theorem dX0_size_23 : decode cX0_size 23 = .ok (.ireturn, 1) := by decide +kernel
theorem dX0_rowBits_0 : decode cX0_rowBits 0 = .ok (.ldc2_w 33, 3) := by decide +kernel
theorem dX0_rowBits_3 : decode cX0_rowBits 3 = .ok (.bipush 63, 2) := by decide +kernel
theorem dX0_rowBits_5 : decode cX0_rowBits 5 = .ok (.aload_n 0, 1) := by decide +kernel
theorem dX0_rowBits_6 : decode cX0_rowBits 6 = .ok (.getfield 21, 3) := by decide +kernel
theorem dX0_rowBits_9 : decode cX0_rowBits 9 = .ok (.aload_n 0, 1) := by decide +kernel
theorem dX0_rowBits_10 : decode cX0_rowBits 10 = .ok (.getfield 18, 3) := by decide +kernel
theorem dX0_rowBits_13 : decode cX0_rowBits 13 = .ok (.isub, 1) := by decide +kernel
theorem dX0_rowBits_14 : decode cX0_rowBits 14 = .ok (.isub, 1) := by decide +kernel
theorem dX0_rowBits_15 : decode cX0_rowBits 15 = .ok (.lushr, 1) := by decide +kernel
theorem dX0_rowBits_16 : decode cX0_rowBits 16 = .ok (.aload_n 0, 1) := by decide +kernel
theorem dX0_rowBits_17 : decode cX0_rowBits 17 = .ok (.getfield 18, 3) := by decide +kernel
theorem dX0_rowBits_20 : decode cX0_rowBits 20 = .ok (.lshl, 1) := by decide +kernel
theorem dX0_rowBits_21 : decode cX0_rowBits 21 = .ok (.lreturn, 1) := by decide +kernel
theorem dX0_leastApart_0 : decode cX0_leastApart 0 = .ok (.aload_n 0, 1) := by decide +kernel
theorem dX0_leastApart_1 : decode cX0_leastApart 1 = .ok (.getfield 9, 3) := by decide +kernel
theorem dX0_leastApart_4 : decode cX0_leastApart 4 = .ok (.aload_n 1, 1) := by decide +kernel
theorem dX0_leastApart_5 : decode cX0_leastApart 5 = .ok (.getfield 15, 3) := by decide +kernel
theorem dX0_leastApart_8 : decode cX0_leastApart 8 = .ok (.isub, 1) := by decide +kernel
theorem dX0_leastApart_9 : decode cX0_leastApart 9 = .ok (.aload_n 1, 1) := by decide +kernel
theorem dX0_leastApart_10 : decode cX0_leastApart 10 = .ok (.getfield 9, 3) := by decide +kernel
theorem dX0_leastApart_13 : decode cX0_leastApart 13 = .ok (.aload_n 0, 1) := by decide +kernel
theorem dX0_leastApart_14 : decode cX0_leastApart 14 = .ok (.getfield 15, 3) := by decide +kernel
theorem dX0_leastApart_17 : decode cX0_leastApart 17 = .ok (.isub, 1) := by decide +kernel
theorem dX0_leastApart_18 : decode cX0_leastApart 18 = .ok (.invokestatic 24, 3) := by decide +kernel
theorem dX0_leastApart_21 : decode cX0_leastApart 21 = .ok (.istore_n 2, 1) := by decide +kernel
theorem dX0_leastApart_22 : decode cX0_leastApart 22 = .ok (.aload_n 0, 1) := by decide +kernel
theorem dX0_leastApart_23 : decode cX0_leastApart 23 = .ok (.getfield 18, 3) := by decide +kernel
theorem dX0_leastApart_26 : decode cX0_leastApart 26 = .ok (.aload_n 1, 1) := by decide +kernel
theorem dX0_leastApart_27 : decode cX0_leastApart 27 = .ok (.getfield 21, 3) := by decide +kernel
theorem dX0_leastApart_30 : decode cX0_leastApart 30 = .ok (.isub, 1) := by decide +kernel
theorem dX0_leastApart_31 : decode cX0_leastApart 31 = .ok (.aload_n 1, 1) := by decide +kernel
theorem dX0_leastApart_32 : decode cX0_leastApart 32 = .ok (.getfield 18, 3) := by decide +kernel
theorem dX0_leastApart_35 : decode cX0_leastApart 35 = .ok (.aload_n 0, 1) := by decide +kernel
theorem dX0_leastApart_36 : decode cX0_leastApart 36 = .ok (.getfield 21, 3) := by decide +kernel
theorem dX0_leastApart_39 : decode cX0_leastApart 39 = .ok (.isub, 1) := by decide +kernel
theorem dX0_leastApart_40 : decode cX0_leastApart 40 = .ok (.invokestatic 24, 3) := by decide +kernel
theorem dX0_leastApart_43 : decode cX0_leastApart 43 = .ok (.istore_n 3, 1) := by decide +kernel
theorem dX0_leastApart_44 : decode cX0_leastApart 44 = .ok (.iconst 0, 1) := by decide +kernel
theorem dX0_leastApart_45 : decode cX0_leastApart 45 = .ok (.iload_n 2, 1) := by decide +kernel
theorem dX0_leastApart_46 : decode cX0_leastApart 46 = .ok (.iload_n 3, 1) := by decide +kernel
theorem dX0_leastApart_47 : decode cX0_leastApart 47 = .ok (.invokestatic 24, 3) := by decide +kernel
theorem dX0_leastApart_50 : decode cX0_leastApart 50 = .ok (.invokestatic 24, 3) := by decide +kernel
theorem dX0_leastApart_53 : decode cX0_leastApart 53 = .ok (.ireturn, 1) := by decide +kernel
theorem dX0_mostApart_0 : decode cX0_mostApart 0 = .ok (.aload_n 0, 1) := by decide +kernel
theorem dX0_mostApart_1 : decode cX0_mostApart 1 = .ok (.getfield 15, 3) := by decide +kernel
theorem dX0_mostApart_4 : decode cX0_mostApart 4 = .ok (.aload_n 1, 1) := by decide +kernel
theorem dX0_mostApart_5 : decode cX0_mostApart 5 = .ok (.getfield 9, 3) := by decide +kernel
theorem dX0_mostApart_8 : decode cX0_mostApart 8 = .ok (.isub, 1) := by decide +kernel
theorem dX0_mostApart_9 : decode cX0_mostApart 9 = .ok (.aload_n 1, 1) := by decide +kernel
theorem dX0_mostApart_10 : decode cX0_mostApart 10 = .ok (.getfield 15, 3) := by decide +kernel
theorem dX0_mostApart_13 : decode cX0_mostApart 13 = .ok (.aload_n 0, 1) := by decide +kernel
theorem dX0_mostApart_14 : decode cX0_mostApart 14 = .ok (.getfield 9, 3) := by decide +kernel
theorem dX0_mostApart_17 : decode cX0_mostApart 17 = .ok (.isub, 1) := by decide +kernel
theorem dX0_mostApart_18 : decode cX0_mostApart 18 = .ok (.invokestatic 24, 3) := by decide +kernel
theorem dX0_mostApart_21 : decode cX0_mostApart 21 = .ok (.istore_n 2, 1) := by decide +kernel
theorem dX0_mostApart_22 : decode cX0_mostApart 22 = .ok (.aload_n 0, 1) := by decide +kernel
theorem dX0_mostApart_23 : decode cX0_mostApart 23 = .ok (.getfield 21, 3) := by decide +kernel
theorem dX0_mostApart_26 : decode cX0_mostApart 26 = .ok (.aload_n 1, 1) := by decide +kernel
theorem dX0_mostApart_27 : decode cX0_mostApart 27 = .ok (.getfield 18, 3) := by decide +kernel
theorem dX0_mostApart_30 : decode cX0_mostApart 30 = .ok (.isub, 1) := by decide +kernel
theorem dX0_mostApart_31 : decode cX0_mostApart 31 = .ok (.aload_n 1, 1) := by decide +kernel
theorem dX0_mostApart_32 : decode cX0_mostApart 32 = .ok (.getfield 21, 3) := by decide +kernel
theorem dX0_mostApart_35 : decode cX0_mostApart 35 = .ok (.aload_n 0, 1) := by decide +kernel
theorem dX0_mostApart_36 : decode cX0_mostApart 36 = .ok (.getfield 18, 3) := by decide +kernel
theorem dX0_mostApart_39 : decode cX0_mostApart 39 = .ok (.isub, 1) := by decide +kernel
theorem dX0_mostApart_40 : decode cX0_mostApart 40 = .ok (.invokestatic 24, 3) := by decide +kernel
theorem dX0_mostApart_43 : decode cX0_mostApart 43 = .ok (.istore_n 3, 1) := by decide +kernel
theorem dX0_mostApart_44 : decode cX0_mostApart 44 = .ok (.iload_n 2, 1) := by decide +kernel
theorem dX0_mostApart_45 : decode cX0_mostApart 45 = .ok (.iload_n 3, 1) := by decide +kernel
theorem dX0_mostApart_46 : decode cX0_mostApart 46 = .ok (.invokestatic 24, 3) := by decide +kernel
theorem dX0_mostApart_49 : decode cX0_mostApart 49 = .ok (.ireturn, 1) := by decide +kernel
theorem dX1_init_0 : decode cX1_init 0 = .ok (.aload_n 0, 1) := by decide +kernel
theorem dX1_init_1 : decode cX1_init 1 = .ok (.invokespecial 3, 3) := by decide +kernel
theorem dX1_init_4 : decode cX1_init 4 = .ok (.aload_n 0, 1) := by decide +kernel
theorem dX1_init_5 : decode cX1_init 5 = .ok (.bipush 64, 2) := by decide +kernel
theorem dX1_init_7 : decode cX1_init 7 = .ok (.newarray .long, 2) := by decide +kernel
theorem dX1_init_9 : decode cX1_init 9 = .ok (.putfield 9, 3) := by decide +kernel
theorem dX1_init_12 : decode cX1_init 12 = .ok (.return_, 1) := by decide +kernel
theorem dX1_holds_0 : decode cX1_holds 0 = .ok (.aload_n 0, 1) := by decide +kernel
theorem dX1_holds_1 : decode cX1_holds 1 = .ok (.getfield 9, 3) := by decide +kernel
theorem dX1_holds_4 : decode cX1_holds 4 = .ok (.iload_n 1, 1) := by decide +kernel
theorem dX1_holds_5 : decode cX1_holds 5 = .ok (.laload, 1) := by decide +kernel
theorem dX1_holds_6 : decode cX1_holds 6 = .ok (.iload_n 2, 1) := by decide +kernel
theorem dX1_holds_7 : decode cX1_holds 7 = .ok (.lushr, 1) := by decide +kernel
theorem dX1_holds_8 : decode cX1_holds 8 = .ok (.lconst 1, 1) := by decide +kernel
theorem dX1_holds_9 : decode cX1_holds 9 = .ok (.land, 1) := by decide +kernel
theorem dX1_holds_10 : decode cX1_holds 10 = .ok (.lconst 0, 1) := by decide +kernel
theorem dX1_holds_11 : decode cX1_holds 11 = .ok (.lcmp, 1) := by decide +kernel
theorem dX1_holds_12 : decode cX1_holds 12 = .ok (.ifCond .eq 7, 3) := by decide +kernel
theorem dX1_holds_15 : decode cX1_holds 15 = .ok (.iconst 1, 1) := by decide +kernel
theorem dX1_holds_16 : decode cX1_holds 16 = .ok (.goto 4, 3) := by decide +kernel
theorem dX1_holds_19 : decode cX1_holds 19 = .ok (.iconst 0, 1) := by decide +kernel
theorem dX1_holds_20 : decode cX1_holds 20 = .ok (.ireturn, 1) := by decide +kernel
set_option maxRecDepth 20000 in
theorem ggX1_size_J13_bitCount_95d88 : GoodIn wsX1_size wsJ13_bitCount_95d88 := goodIn_r _ [5, 6, 7, 8] (by decide +kernel) (by decide +kernel)
set_option maxRecDepth 20000 in
theorem gX1_size_J13_bitCount_95d88 : GoodIn wsX1_size (va_wsS RX1 15 yJ13_bitCount_95d88 wsJ13_bitCount_95d88) := goodIn_app (goodIn_of _ (by decide +kernel)) ggX1_size_J13_bitCount_95d88
theorem dX1_size_0 : decode cX1_size 0 = .ok (.iconst 0, 1) := by decide +kernel
theorem dX1_size_1 : decode cX1_size 1 = .ok (.istore_n 1, 1) := by decide +kernel
theorem dX1_size_2 : decode cX1_size 2 = .ok (.iconst 0, 1) := by decide +kernel
theorem dX1_size_3 : decode cX1_size 3 = .ok (.istore_n 2, 1) := by decide +kernel
theorem dX1_size_4 : decode cX1_size 4 = .ok (.iload_n 2, 1) := by decide +kernel
theorem dX1_size_5 : decode cX1_size 5 = .ok (.bipush 64, 2) := by decide +kernel
theorem dX1_size_7 : decode cX1_size 7 = .ok (.if_icmp .ge 21, 3) := by decide +kernel
theorem dX1_size_10 : decode cX1_size 10 = .ok (.iload_n 1, 1) := by decide +kernel
theorem dX1_size_11 : decode cX1_size 11 = .ok (.aload_n 0, 1) := by decide +kernel
theorem dX1_size_12 : decode cX1_size 12 = .ok (.getfield 9, 3) := by decide +kernel
theorem dX1_size_15 : decode cX1_size 15 = .ok (.iload_n 2, 1) := by decide +kernel
theorem dX1_size_16 : decode cX1_size 16 = .ok (.laload, 1) := by decide +kernel
theorem dX1_size_17 : decode cX1_size 17 = .ok (.invokestatic 15, 3) := by decide +kernel
theorem dX1_size_20 : decode cX1_size 20 = .ok (.iadd, 1) := by decide +kernel
theorem dX1_size_21 : decode cX1_size 21 = .ok (.istore_n 1, 1) := by decide +kernel
theorem dX1_size_22 : decode cX1_size 22 = .ok (.iinc 2 1, 3) := by decide +kernel
theorem dX1_size_25 : decode cX1_size 25 = .ok (.goto (-21), 3) := by decide +kernel
theorem dX1_size_28 : decode cX1_size 28 = .ok (.iload_n 1, 1) := by decide +kernel
theorem dX1_size_29 : decode cX1_size 29 = .ok (.ireturn, 1) := by decide +kernel
theorem dX1_isEmpty_0 : decode cX1_isEmpty 0 = .ok (.iconst 0, 1) := by decide +kernel
theorem dX1_isEmpty_1 : decode cX1_isEmpty 1 = .ok (.istore_n 1, 1) := by decide +kernel
theorem dX1_isEmpty_2 : decode cX1_isEmpty 2 = .ok (.iload_n 1, 1) := by decide +kernel
theorem dX1_isEmpty_3 : decode cX1_isEmpty 3 = .ok (.bipush 64, 2) := by decide +kernel
theorem dX1_isEmpty_5 : decode cX1_isEmpty 5 = .ok (.if_icmp .ge 22, 3) := by decide +kernel
theorem dX1_isEmpty_8 : decode cX1_isEmpty 8 = .ok (.aload_n 0, 1) := by decide +kernel
theorem dX1_isEmpty_9 : decode cX1_isEmpty 9 = .ok (.getfield 9, 3) := by decide +kernel
theorem dX1_isEmpty_12 : decode cX1_isEmpty 12 = .ok (.iload_n 1, 1) := by decide +kernel
theorem dX1_isEmpty_13 : decode cX1_isEmpty 13 = .ok (.laload, 1) := by decide +kernel
theorem dX1_isEmpty_14 : decode cX1_isEmpty 14 = .ok (.lconst 0, 1) := by decide +kernel
theorem dX1_isEmpty_15 : decode cX1_isEmpty 15 = .ok (.lcmp, 1) := by decide +kernel
theorem dX1_isEmpty_16 : decode cX1_isEmpty 16 = .ok (.ifCond .eq 5, 3) := by decide +kernel
theorem dX1_isEmpty_19 : decode cX1_isEmpty 19 = .ok (.iconst 0, 1) := by decide +kernel
theorem dX1_isEmpty_20 : decode cX1_isEmpty 20 = .ok (.ireturn, 1) := by decide +kernel
theorem dX1_isEmpty_21 : decode cX1_isEmpty 21 = .ok (.iinc 1 1, 3) := by decide +kernel
theorem dX1_isEmpty_24 : decode cX1_isEmpty 24 = .ok (.goto (-22), 3) := by decide +kernel
theorem dX1_isEmpty_27 : decode cX1_isEmpty 27 = .ok (.iconst 1, 1) := by decide +kernel
theorem dX1_isEmpty_28 : decode cX1_isEmpty 28 = .ok (.ireturn, 1) := by decide +kernel
set_option maxRecDepth 20000 in
theorem ggX1_meets_X0_rowBits : GoodIn wsX1_meets wsX0_rowBits := goodIn_r _ [6, 7, 8, 9, 10, 11, 12, 13] (by decide +kernel) (by decide +kernel)
set_option maxRecDepth 20000 in
theorem gX1_meets_X0_rowBits : GoodIn wsX1_meets (wsV RX1 21 RX0 yX0_rowBits wsX0_rowBits) := goodIn_app (goodIn_of _ (by decide +kernel)) ggX1_meets_X0_rowBits
theorem dX1_meets_0 : decode cX1_meets 0 = .ok (.aload_n 1, 1) := by decide +kernel
theorem dX1_meets_1 : decode cX1_meets 1 = .ok (.invokevirtual 21, 3) := by decide +kernel
theorem dX1_meets_4 : decode cX1_meets 4 = .ok (.lstore_n 2, 1) := by decide +kernel
theorem dX1_meets_5 : decode cX1_meets 5 = .ok (.aload_n 1, 1) := by decide +kernel
theorem dX1_meets_6 : decode cX1_meets 6 = .ok (.getfield 27, 3) := by decide +kernel
theorem dX1_meets_9 : decode cX1_meets 9 = .ok (.istore 4, 2) := by decide +kernel
theorem dX1_meets_11 : decode cX1_meets 11 = .ok (.iload 4, 2) := by decide +kernel
theorem dX1_meets_13 : decode cX1_meets 13 = .ok (.aload_n 1, 1) := by decide +kernel
theorem dX1_meets_14 : decode cX1_meets 14 = .ok (.getfield 31, 3) := by decide +kernel
theorem dX1_meets_17 : decode cX1_meets 17 = .ok (.if_icmp .gt 25, 3) := by decide +kernel
theorem dX1_meets_20 : decode cX1_meets 20 = .ok (.aload_n 0, 1) := by decide +kernel
theorem dX1_meets_21 : decode cX1_meets 21 = .ok (.getfield 9, 3) := by decide +kernel
theorem dX1_meets_24 : decode cX1_meets 24 = .ok (.iload 4, 2) := by decide +kernel
theorem dX1_meets_26 : decode cX1_meets 26 = .ok (.laload, 1) := by decide +kernel
theorem dX1_meets_27 : decode cX1_meets 27 = .ok (.lload_n 2, 1) := by decide +kernel
theorem dX1_meets_28 : decode cX1_meets 28 = .ok (.land, 1) := by decide +kernel
theorem dX1_meets_29 : decode cX1_meets 29 = .ok (.lconst 0, 1) := by decide +kernel
theorem dX1_meets_30 : decode cX1_meets 30 = .ok (.lcmp, 1) := by decide +kernel
theorem dX1_meets_31 : decode cX1_meets 31 = .ok (.ifCond .eq 5, 3) := by decide +kernel
theorem dX1_meets_34 : decode cX1_meets 34 = .ok (.iconst 1, 1) := by decide +kernel
theorem dX1_meets_35 : decode cX1_meets 35 = .ok (.ireturn, 1) := by decide +kernel
theorem dX1_meets_36 : decode cX1_meets 36 = .ok (.iinc 4 1, 3) := by decide +kernel
theorem dX1_meets_39 : decode cX1_meets 39 = .ok (.goto (-28), 3) := by decide +kernel
theorem dX1_meets_42 : decode cX1_meets 42 = .ok (.iconst 0, 1) := by decide +kernel
theorem dX1_meets_43 : decode cX1_meets 43 = .ok (.ireturn, 1) := by decide +kernel
set_option maxRecDepth 20000 in
theorem ggX1_covers_X0_rowBits : GoodIn wsX1_covers wsX0_rowBits := goodIn_r _ [6, 7, 8, 9, 10, 11, 12, 13] (by decide +kernel) (by decide +kernel)
set_option maxRecDepth 20000 in
theorem gX1_covers_X0_rowBits : GoodIn wsX1_covers (wsV RX1 21 RX0 yX0_rowBits wsX0_rowBits) := goodIn_app (goodIn_of _ (by decide +kernel)) ggX1_covers_X0_rowBits
theorem dX1_covers_0 : decode cX1_covers 0 = .ok (.aload_n 1, 1) := by decide +kernel
theorem dX1_covers_1 : decode cX1_covers 1 = .ok (.invokevirtual 21, 3) := by decide +kernel
theorem dX1_covers_4 : decode cX1_covers 4 = .ok (.lstore_n 2, 1) := by decide +kernel
theorem dX1_covers_5 : decode cX1_covers 5 = .ok (.aload_n 1, 1) := by decide +kernel
theorem dX1_covers_6 : decode cX1_covers 6 = .ok (.getfield 27, 3) := by decide +kernel
theorem dX1_covers_9 : decode cX1_covers 9 = .ok (.istore 4, 2) := by decide +kernel
theorem dX1_covers_11 : decode cX1_covers 11 = .ok (.iload 4, 2) := by decide +kernel
theorem dX1_covers_13 : decode cX1_covers 13 = .ok (.aload_n 1, 1) := by decide +kernel
theorem dX1_covers_14 : decode cX1_covers 14 = .ok (.getfield 31, 3) := by decide +kernel
theorem dX1_covers_17 : decode cX1_covers 17 = .ok (.if_icmp .gt 25, 3) := by decide +kernel
theorem dX1_covers_20 : decode cX1_covers 20 = .ok (.aload_n 0, 1) := by decide +kernel
theorem dX1_covers_21 : decode cX1_covers 21 = .ok (.getfield 9, 3) := by decide +kernel
theorem dX1_covers_24 : decode cX1_covers 24 = .ok (.iload 4, 2) := by decide +kernel
theorem dX1_covers_26 : decode cX1_covers 26 = .ok (.laload, 1) := by decide +kernel
theorem dX1_covers_27 : decode cX1_covers 27 = .ok (.lload_n 2, 1) := by decide +kernel
theorem dX1_covers_28 : decode cX1_covers 28 = .ok (.land, 1) := by decide +kernel
theorem dX1_covers_29 : decode cX1_covers 29 = .ok (.lload_n 2, 1) := by decide +kernel
theorem dX1_covers_30 : decode cX1_covers 30 = .ok (.lcmp, 1) := by decide +kernel
theorem dX1_covers_31 : decode cX1_covers 31 = .ok (.ifCond .eq 5, 3) := by decide +kernel
theorem dX1_covers_34 : decode cX1_covers 34 = .ok (.iconst 0, 1) := by decide +kernel
theorem dX1_covers_35 : decode cX1_covers 35 = .ok (.ireturn, 1) := by decide +kernel
theorem dX1_covers_36 : decode cX1_covers 36 = .ok (.iinc 4 1, 3) := by decide +kernel
theorem dX1_covers_39 : decode cX1_covers 39 = .ok (.goto (-28), 3) := by decide +kernel
theorem dX1_covers_42 : decode cX1_covers 42 = .ok (.iconst 1, 1) := by decide +kernel
theorem dX1_covers_43 : decode cX1_covers 43 = .ok (.ireturn, 1) := by decide +kernel
set_option maxRecDepth 20000 in
theorem ggX1_add_X0_rowBits : GoodIn wsX1_add wsX0_rowBits := goodIn_r _ [6, 7, 8, 9, 10, 11, 12, 13] (by decide +kernel) (by decide +kernel)
set_option maxRecDepth 20000 in
theorem gX1_add_X0_rowBits : GoodIn wsX1_add (wsV RX1 21 RX0 yX0_rowBits wsX0_rowBits) := goodIn_app (goodIn_of _ (by decide +kernel)) ggX1_add_X0_rowBits
theorem dX1_add_0 : decode cX1_add 0 = .ok (.aload_n 1, 1) := by decide +kernel
theorem dX1_add_1 : decode cX1_add 1 = .ok (.invokevirtual 21, 3) := by decide +kernel
theorem dX1_add_4 : decode cX1_add 4 = .ok (.lstore_n 2, 1) := by decide +kernel
theorem dX1_add_5 : decode cX1_add 5 = .ok (.aload_n 1, 1) := by decide +kernel
theorem dX1_add_6 : decode cX1_add 6 = .ok (.getfield 27, 3) := by decide +kernel
theorem dX1_add_9 : decode cX1_add 9 = .ok (.istore 4, 2) := by decide +kernel
theorem dX1_add_11 : decode cX1_add 11 = .ok (.iload 4, 2) := by decide +kernel
theorem dX1_add_13 : decode cX1_add 13 = .ok (.aload_n 1, 1) := by decide +kernel
theorem dX1_add_14 : decode cX1_add 14 = .ok (.getfield 31, 3) := by decide +kernel
theorem dX1_add_17 : decode cX1_add 17 = .ok (.if_icmp .gt 20, 3) := by decide +kernel
theorem dX1_add_20 : decode cX1_add 20 = .ok (.aload_n 0, 1) := by decide +kernel
theorem dX1_add_21 : decode cX1_add 21 = .ok (.getfield 9, 3) := by decide +kernel
theorem dX1_add_24 : decode cX1_add 24 = .ok (.iload 4, 2) := by decide +kernel
theorem dX1_add_26 : decode cX1_add 26 = .ok (.dup2, 1) := by decide +kernel
theorem dX1_add_27 : decode cX1_add 27 = .ok (.laload, 1) := by decide +kernel
theorem dX1_add_28 : decode cX1_add 28 = .ok (.lload_n 2, 1) := by decide +kernel
theorem dX1_add_29 : decode cX1_add 29 = .ok (.lor, 1) := by decide +kernel
theorem dX1_add_30 : decode cX1_add 30 = .ok (.lastore, 1) := by decide +kernel
theorem dX1_add_31 : decode cX1_add 31 = .ok (.iinc 4 1, 3) := by decide +kernel
theorem dX1_add_34 : decode cX1_add 34 = .ok (.goto (-23), 3) := by decide +kernel
theorem dX1_add_37 : decode cX1_add 37 = .ok (.return_, 1) := by decide +kernel
set_option maxRecDepth 20000 in
theorem ggX1_remove_X0_rowBits : GoodIn wsX1_remove wsX0_rowBits := goodIn_r _ [7, 8, 9, 10, 11, 12, 13, 14] (by decide +kernel) (by decide +kernel)
set_option maxRecDepth 20000 in
theorem gX1_remove_X0_rowBits : GoodIn wsX1_remove (wsV RX1 21 RX0 yX0_rowBits wsX0_rowBits) := goodIn_app (goodIn_of _ (by decide +kernel)) ggX1_remove_X0_rowBits
theorem dX1_remove_0 : decode cX1_remove 0 = .ok (.aload_n 1, 1) := by decide +kernel
theorem dX1_remove_1 : decode cX1_remove 1 = .ok (.invokevirtual 21, 3) := by decide +kernel
theorem dX1_remove_4 : decode cX1_remove 4 = .ok (.lstore_n 2, 1) := by decide +kernel
theorem dX1_remove_5 : decode cX1_remove 5 = .ok (.aload_n 1, 1) := by decide +kernel
theorem dX1_remove_6 : decode cX1_remove 6 = .ok (.getfield 27, 3) := by decide +kernel
theorem dX1_remove_9 : decode cX1_remove 9 = .ok (.istore 4, 2) := by decide +kernel
theorem dX1_remove_11 : decode cX1_remove 11 = .ok (.iload 4, 2) := by decide +kernel
theorem dX1_remove_13 : decode cX1_remove 13 = .ok (.aload_n 1, 1) := by decide +kernel
theorem dX1_remove_14 : decode cX1_remove 14 = .ok (.getfield 31, 3) := by decide +kernel
theorem dX1_remove_17 : decode cX1_remove 17 = .ok (.if_icmp .gt 24, 3) := by decide +kernel
theorem dX1_remove_20 : decode cX1_remove 20 = .ok (.aload_n 0, 1) := by decide +kernel
theorem dX1_remove_21 : decode cX1_remove 21 = .ok (.getfield 9, 3) := by decide +kernel
theorem dX1_remove_24 : decode cX1_remove 24 = .ok (.iload 4, 2) := by decide +kernel
theorem dX1_remove_26 : decode cX1_remove 26 = .ok (.dup2, 1) := by decide +kernel
theorem dX1_remove_27 : decode cX1_remove 27 = .ok (.laload, 1) := by decide +kernel
theorem dX1_remove_28 : decode cX1_remove 28 = .ok (.lload_n 2, 1) := by decide +kernel
theorem dX1_remove_29 : decode cX1_remove 29 = .ok (.ldc2_w 34, 3) := by decide +kernel
theorem dX1_remove_32 : decode cX1_remove 32 = .ok (.lxor, 1) := by decide +kernel
theorem dX1_remove_33 : decode cX1_remove 33 = .ok (.land, 1) := by decide +kernel
theorem dX1_remove_34 : decode cX1_remove 34 = .ok (.lastore, 1) := by decide +kernel
theorem dX1_remove_35 : decode cX1_remove 35 = .ok (.iinc 4 1, 3) := by decide +kernel
theorem dX1_remove_38 : decode cX1_remove 38 = .ok (.goto (-27), 3) := by decide +kernel
theorem dX1_remove_41 : decode cX1_remove 41 = .ok (.return_, 1) := by decide +kernel
set_option maxRecDepth 20000 in
theorem ggX1_keep_X0_rowBits : GoodIn wsX1_keep wsX0_rowBits := goodIn_r _ [6, 7, 8, 9, 11, 12, 13, 14] (by decide +kernel) (by decide +kernel)
set_option maxRecDepth 20000 in
theorem gX1_keep_X0_rowBits : GoodIn wsX1_keep (wsV RX1 21 RX0 yX0_rowBits wsX0_rowBits) := goodIn_app (goodIn_of _ (by decide +kernel)) ggX1_keep_X0_rowBits
theorem dX1_keep_0 : decode cX1_keep 0 = .ok (.aload_n 1, 1) := by decide +kernel
theorem dX1_keep_1 : decode cX1_keep 1 = .ok (.invokevirtual 21, 3) := by decide +kernel
theorem dX1_keep_4 : decode cX1_keep 4 = .ok (.lstore_n 2, 1) := by decide +kernel
theorem dX1_keep_5 : decode cX1_keep 5 = .ok (.iconst 0, 1) := by decide +kernel
theorem dX1_keep_6 : decode cX1_keep 6 = .ok (.istore 4, 2) := by decide +kernel
theorem dX1_keep_8 : decode cX1_keep 8 = .ok (.iload 4, 2) := by decide +kernel
theorem dX1_keep_10 : decode cX1_keep 10 = .ok (.bipush 64, 2) := by decide +kernel
theorem dX1_keep_12 : decode cX1_keep 12 = .ok (.if_icmp .ge 47, 3) := by decide +kernel
theorem dX1_keep_15 : decode cX1_keep 15 = .ok (.aload_n 0, 1) := by decide +kernel
theorem dX1_keep_16 : decode cX1_keep 16 = .ok (.getfield 9, 3) := by decide +kernel
theorem dX1_keep_19 : decode cX1_keep 19 = .ok (.iload 4, 2) := by decide +kernel
theorem dX1_keep_21 : decode cX1_keep 21 = .ok (.iload 4, 2) := by decide +kernel
theorem dX1_keep_23 : decode cX1_keep 23 = .ok (.aload_n 1, 1) := by decide +kernel
theorem dX1_keep_24 : decode cX1_keep 24 = .ok (.getfield 27, 3) := by decide +kernel
theorem dX1_keep_27 : decode cX1_keep 27 = .ok (.if_icmp .lt 12, 3) := by decide +kernel
theorem dX1_keep_30 : decode cX1_keep 30 = .ok (.iload 4, 2) := by decide +kernel
theorem dX1_keep_32 : decode cX1_keep 32 = .ok (.aload_n 1, 1) := by decide +kernel
theorem dX1_keep_33 : decode cX1_keep 33 = .ok (.getfield 31, 3) := by decide +kernel
theorem dX1_keep_36 : decode cX1_keep 36 = .ok (.if_icmp .le 7, 3) := by decide +kernel
theorem dX1_keep_39 : decode cX1_keep 39 = .ok (.lconst 0, 1) := by decide +kernel
theorem dX1_keep_40 : decode cX1_keep 40 = .ok (.goto 12, 3) := by decide +kernel
theorem dX1_keep_43 : decode cX1_keep 43 = .ok (.aload_n 0, 1) := by decide +kernel
theorem dX1_keep_44 : decode cX1_keep 44 = .ok (.getfield 9, 3) := by decide +kernel
theorem dX1_keep_47 : decode cX1_keep 47 = .ok (.iload 4, 2) := by decide +kernel
theorem dX1_keep_49 : decode cX1_keep 49 = .ok (.laload, 1) := by decide +kernel
theorem dX1_keep_50 : decode cX1_keep 50 = .ok (.lload_n 2, 1) := by decide +kernel
theorem dX1_keep_51 : decode cX1_keep 51 = .ok (.land, 1) := by decide +kernel
theorem dX1_keep_52 : decode cX1_keep 52 = .ok (.lastore, 1) := by decide +kernel
theorem dX1_keep_53 : decode cX1_keep 53 = .ok (.iinc 4 1, 3) := by decide +kernel
theorem dX1_keep_56 : decode cX1_keep 56 = .ok (.goto (-48), 3) := by decide +kernel
theorem dX1_keep_59 : decode cX1_keep 59 = .ok (.return_, 1) := by decide +kernel
set_option maxRecDepth 20000 in
theorem ggX1_setTo_X0_rowBits : GoodIn wsX1_setTo wsX0_rowBits := goodIn_r _ [6, 7, 8, 9, 11, 12, 13, 14] (by decide +kernel) (by decide +kernel)
set_option maxRecDepth 20000 in
theorem gX1_setTo_X0_rowBits : GoodIn wsX1_setTo (wsV RX1 21 RX0 yX0_rowBits wsX0_rowBits) := goodIn_app (goodIn_of _ (by decide +kernel)) ggX1_setTo_X0_rowBits
theorem dX1_setTo_0 : decode cX1_setTo 0 = .ok (.aload_n 1, 1) := by decide +kernel
theorem dX1_setTo_1 : decode cX1_setTo 1 = .ok (.invokevirtual 21, 3) := by decide +kernel
theorem dX1_setTo_4 : decode cX1_setTo 4 = .ok (.lstore_n 2, 1) := by decide +kernel
theorem dX1_setTo_5 : decode cX1_setTo 5 = .ok (.iconst 0, 1) := by decide +kernel
theorem dX1_setTo_6 : decode cX1_setTo 6 = .ok (.istore 4, 2) := by decide +kernel
theorem dX1_setTo_8 : decode cX1_setTo 8 = .ok (.iload 4, 2) := by decide +kernel
theorem dX1_setTo_10 : decode cX1_setTo 10 = .ok (.bipush 64, 2) := by decide +kernel
theorem dX1_setTo_12 : decode cX1_setTo 12 = .ok (.if_icmp .ge 39, 3) := by decide +kernel
theorem dX1_setTo_15 : decode cX1_setTo 15 = .ok (.aload_n 0, 1) := by decide +kernel
theorem dX1_setTo_16 : decode cX1_setTo 16 = .ok (.getfield 9, 3) := by decide +kernel
theorem dX1_setTo_19 : decode cX1_setTo 19 = .ok (.iload 4, 2) := by decide +kernel
theorem dX1_setTo_21 : decode cX1_setTo 21 = .ok (.iload 4, 2) := by decide +kernel
theorem dX1_setTo_23 : decode cX1_setTo 23 = .ok (.aload_n 1, 1) := by decide +kernel
theorem dX1_setTo_24 : decode cX1_setTo 24 = .ok (.getfield 27, 3) := by decide +kernel
theorem dX1_setTo_27 : decode cX1_setTo 27 = .ok (.if_icmp .lt 12, 3) := by decide +kernel
theorem dX1_setTo_30 : decode cX1_setTo 30 = .ok (.iload 4, 2) := by decide +kernel
theorem dX1_setTo_32 : decode cX1_setTo 32 = .ok (.aload_n 1, 1) := by decide +kernel
theorem dX1_setTo_33 : decode cX1_setTo 33 = .ok (.getfield 31, 3) := by decide +kernel
theorem dX1_setTo_36 : decode cX1_setTo 36 = .ok (.if_icmp .le 7, 3) := by decide +kernel
theorem dX1_setTo_39 : decode cX1_setTo 39 = .ok (.lconst 0, 1) := by decide +kernel
theorem dX1_setTo_40 : decode cX1_setTo 40 = .ok (.goto 4, 3) := by decide +kernel
theorem dX1_setTo_43 : decode cX1_setTo 43 = .ok (.lload_n 2, 1) := by decide +kernel
theorem dX1_setTo_44 : decode cX1_setTo 44 = .ok (.lastore, 1) := by decide +kernel
theorem dX1_setTo_45 : decode cX1_setTo 45 = .ok (.iinc 4 1, 3) := by decide +kernel
theorem dX1_setTo_48 : decode cX1_setTo 48 = .ok (.goto (-40), 3) := by decide +kernel
theorem dX1_setTo_51 : decode cX1_setTo 51 = .ok (.return_, 1) := by decide +kernel
theorem dX1_setToAllBut_0 : decode cX1_setToAllBut 0 = .ok (.iconst 0, 1) := by decide +kernel
theorem dX1_setToAllBut_1 : decode cX1_setToAllBut 1 = .ok (.istore_n 2, 1) := by decide +kernel
theorem dX1_setToAllBut_2 : decode cX1_setToAllBut 2 = .ok (.iload_n 2, 1) := by decide +kernel
theorem dX1_setToAllBut_3 : decode cX1_setToAllBut 3 = .ok (.bipush 64, 2) := by decide +kernel
theorem dX1_setToAllBut_5 : decode cX1_setToAllBut 5 = .ok (.if_icmp .ge 25, 3) := by decide +kernel
theorem dX1_setToAllBut_8 : decode cX1_setToAllBut 8 = .ok (.aload_n 0, 1) := by decide +kernel
theorem dX1_setToAllBut_9 : decode cX1_setToAllBut 9 = .ok (.getfield 9, 3) := by decide +kernel
theorem dX1_setToAllBut_12 : decode cX1_setToAllBut 12 = .ok (.iload_n 2, 1) := by decide +kernel
theorem dX1_setToAllBut_13 : decode cX1_setToAllBut 13 = .ok (.aload_n 1, 1) := by decide +kernel
theorem dX1_setToAllBut_14 : decode cX1_setToAllBut 14 = .ok (.getfield 9, 3) := by decide +kernel
theorem dX1_setToAllBut_17 : decode cX1_setToAllBut 17 = .ok (.iload_n 2, 1) := by decide +kernel
theorem dX1_setToAllBut_18 : decode cX1_setToAllBut 18 = .ok (.laload, 1) := by decide +kernel
theorem dX1_setToAllBut_19 : decode cX1_setToAllBut 19 = .ok (.ldc2_w 34, 3) := by decide +kernel
theorem dX1_setToAllBut_22 : decode cX1_setToAllBut 22 = .ok (.lxor, 1) := by decide +kernel
theorem dX1_setToAllBut_23 : decode cX1_setToAllBut 23 = .ok (.lastore, 1) := by decide +kernel
theorem dX1_setToAllBut_24 : decode cX1_setToAllBut 24 = .ok (.iinc 2 1, 3) := by decide +kernel
theorem dX1_setToAllBut_27 : decode cX1_setToAllBut 27 = .ok (.goto (-25), 3) := by decide +kernel
theorem dX1_setToAllBut_30 : decode cX1_setToAllBut 30 = .ok (.return_, 1) := by decide +kernel
theorem dX1_drop_0 : decode cX1_drop 0 = .ok (.iconst 0, 1) := by decide +kernel
theorem dX1_drop_1 : decode cX1_drop 1 = .ok (.istore_n 2, 1) := by decide +kernel
theorem dX1_drop_2 : decode cX1_drop 2 = .ok (.iload_n 2, 1) := by decide +kernel
theorem dX1_drop_3 : decode cX1_drop 3 = .ok (.bipush 64, 2) := by decide +kernel
theorem dX1_drop_5 : decode cX1_drop 5 = .ok (.if_icmp .ge 28, 3) := by decide +kernel
theorem dX1_drop_8 : decode cX1_drop 8 = .ok (.aload_n 0, 1) := by decide +kernel
theorem dX1_drop_9 : decode cX1_drop 9 = .ok (.getfield 9, 3) := by decide +kernel
theorem dX1_drop_12 : decode cX1_drop 12 = .ok (.iload_n 2, 1) := by decide +kernel
theorem dX1_drop_13 : decode cX1_drop 13 = .ok (.dup2, 1) := by decide +kernel
theorem dX1_drop_14 : decode cX1_drop 14 = .ok (.laload, 1) := by decide +kernel
theorem dX1_drop_15 : decode cX1_drop 15 = .ok (.aload_n 1, 1) := by decide +kernel
theorem dX1_drop_16 : decode cX1_drop 16 = .ok (.getfield 9, 3) := by decide +kernel
theorem dX1_drop_19 : decode cX1_drop 19 = .ok (.iload_n 2, 1) := by decide +kernel
theorem dX1_drop_20 : decode cX1_drop 20 = .ok (.laload, 1) := by decide +kernel
theorem dX1_drop_21 : decode cX1_drop 21 = .ok (.ldc2_w 34, 3) := by decide +kernel
theorem dX1_drop_24 : decode cX1_drop 24 = .ok (.lxor, 1) := by decide +kernel
theorem dX1_drop_25 : decode cX1_drop 25 = .ok (.land, 1) := by decide +kernel
theorem dX1_drop_26 : decode cX1_drop 26 = .ok (.lastore, 1) := by decide +kernel
theorem dX1_drop_27 : decode cX1_drop 27 = .ok (.iinc 2 1, 3) := by decide +kernel
theorem dX1_drop_30 : decode cX1_drop 30 = .ok (.goto (-28), 3) := by decide +kernel
theorem dX1_drop_33 : decode cX1_drop 33 = .ok (.return_, 1) := by decide +kernel
theorem dX1_takeWithin_0 : decode cX1_takeWithin 0 = .ok (.iconst 0, 1) := by decide +kernel
theorem dX1_takeWithin_1 : decode cX1_takeWithin 1 = .ok (.istore_n 3, 1) := by decide +kernel
theorem dX1_takeWithin_2 : decode cX1_takeWithin 2 = .ok (.iload_n 3, 1) := by decide +kernel
theorem dX1_takeWithin_3 : decode cX1_takeWithin 3 = .ok (.bipush 64, 2) := by decide +kernel
theorem dX1_takeWithin_5 : decode cX1_takeWithin 5 = .ok (.if_icmp .ge 46, 3) := by decide +kernel
theorem dX1_takeWithin_8 : decode cX1_takeWithin 8 = .ok (.aload_n 1, 1) := by decide +kernel
theorem dX1_takeWithin_9 : decode cX1_takeWithin 9 = .ok (.getfield 9, 3) := by decide +kernel
theorem dX1_takeWithin_12 : decode cX1_takeWithin 12 = .ok (.iload_n 3, 1) := by decide +kernel
theorem dX1_takeWithin_13 : decode cX1_takeWithin 13 = .ok (.laload, 1) := by decide +kernel
theorem dX1_takeWithin_14 : decode cX1_takeWithin 14 = .ok (.lstore 4, 2) := by decide +kernel
theorem dX1_takeWithin_16 : decode cX1_takeWithin 16 = .ok (.aload_n 0, 1) := by decide +kernel
theorem dX1_takeWithin_17 : decode cX1_takeWithin 17 = .ok (.getfield 9, 3) := by decide +kernel
theorem dX1_takeWithin_20 : decode cX1_takeWithin 20 = .ok (.iload_n 3, 1) := by decide +kernel
theorem dX1_takeWithin_21 : decode cX1_takeWithin 21 = .ok (.aload_n 0, 1) := by decide +kernel
theorem dX1_takeWithin_22 : decode cX1_takeWithin 22 = .ok (.getfield 9, 3) := by decide +kernel
theorem dX1_takeWithin_25 : decode cX1_takeWithin 25 = .ok (.iload_n 3, 1) := by decide +kernel
theorem dX1_takeWithin_26 : decode cX1_takeWithin 26 = .ok (.laload, 1) := by decide +kernel
theorem dX1_takeWithin_27 : decode cX1_takeWithin 27 = .ok (.lload 4, 2) := by decide +kernel
theorem dX1_takeWithin_29 : decode cX1_takeWithin 29 = .ok (.ldc2_w 34, 3) := by decide +kernel
theorem dX1_takeWithin_32 : decode cX1_takeWithin 32 = .ok (.lxor, 1) := by decide +kernel
theorem dX1_takeWithin_33 : decode cX1_takeWithin 33 = .ok (.land, 1) := by decide +kernel
theorem dX1_takeWithin_34 : decode cX1_takeWithin 34 = .ok (.aload_n 2, 1) := by decide +kernel
theorem dX1_takeWithin_35 : decode cX1_takeWithin 35 = .ok (.getfield 9, 3) := by decide +kernel
theorem dX1_takeWithin_38 : decode cX1_takeWithin 38 = .ok (.iload_n 3, 1) := by decide +kernel
theorem dX1_takeWithin_39 : decode cX1_takeWithin 39 = .ok (.laload, 1) := by decide +kernel
theorem dX1_takeWithin_40 : decode cX1_takeWithin 40 = .ok (.lload 4, 2) := by decide +kernel
theorem dX1_takeWithin_42 : decode cX1_takeWithin 42 = .ok (.land, 1) := by decide +kernel
theorem dX1_takeWithin_43 : decode cX1_takeWithin 43 = .ok (.lor, 1) := by decide +kernel
theorem dX1_takeWithin_44 : decode cX1_takeWithin 44 = .ok (.lastore, 1) := by decide +kernel
theorem dX1_takeWithin_45 : decode cX1_takeWithin 45 = .ok (.iinc 3 1, 3) := by decide +kernel
theorem dX1_takeWithin_48 : decode cX1_takeWithin 48 = .ok (.goto (-46), 3) := by decide +kernel
theorem dX1_takeWithin_51 : decode cX1_takeWithin 51 = .ok (.return_, 1) := by decide +kernel
set_option maxRecDepth 20000 in
theorem ggX1_widen_X1_spread : GoodIn wsX1_widen wsX1_spread := goodIn_r _ [9, 10, 11] (by decide +kernel) (by decide +kernel)
set_option maxRecDepth 20000 in
theorem gX1_widen_X1_spread : GoodIn wsX1_widen (wsV RX1 42 RX1 yX1_spread wsX1_spread) := goodIn_app (goodIn_of _ (by decide +kernel)) ggX1_widen_X1_spread
theorem dX1_widen_0 : decode cX1_widen 0 = .ok (.iconst 0, 1) := by decide +kernel
theorem dX1_widen_1 : decode cX1_widen 1 = .ok (.istore_n 2, 1) := by decide +kernel
theorem dX1_widen_2 : decode cX1_widen 2 = .ok (.iload_n 2, 1) := by decide +kernel
theorem dX1_widen_3 : decode cX1_widen 3 = .ok (.iload_n 1, 1) := by decide +kernel
theorem dX1_widen_4 : decode cX1_widen 4 = .ok (.if_icmp .ge 25, 3) := by decide +kernel
theorem dX1_widen_7 : decode cX1_widen 7 = .ok (.iload_n 2, 1) := by decide +kernel
theorem dX1_widen_8 : decode cX1_widen 8 = .ok (.iconst 1, 1) := by decide +kernel
theorem dX1_widen_9 : decode cX1_widen 9 = .ok (.iadd, 1) := by decide +kernel
theorem dX1_widen_10 : decode cX1_widen 10 = .ok (.iload_n 1, 1) := by decide +kernel
theorem dX1_widen_11 : decode cX1_widen 11 = .ok (.iload_n 2, 1) := by decide +kernel
theorem dX1_widen_12 : decode cX1_widen 12 = .ok (.isub, 1) := by decide +kernel
theorem dX1_widen_13 : decode cX1_widen 13 = .ok (.invokestatic 36, 3) := by decide +kernel
theorem dX1_widen_16 : decode cX1_widen 16 = .ok (.istore_n 3, 1) := by decide +kernel
theorem dX1_widen_17 : decode cX1_widen 17 = .ok (.aload_n 0, 1) := by decide +kernel
theorem dX1_widen_18 : decode cX1_widen 18 = .ok (.iload_n 3, 1) := by decide +kernel
theorem dX1_widen_19 : decode cX1_widen 19 = .ok (.invokevirtual 42, 3) := by decide +kernel
theorem dX1_widen_22 : decode cX1_widen 22 = .ok (.iload_n 2, 1) := by decide +kernel
theorem dX1_widen_23 : decode cX1_widen 23 = .ok (.iload_n 3, 1) := by decide +kernel
theorem dX1_widen_24 : decode cX1_widen 24 = .ok (.iadd, 1) := by decide +kernel
theorem dX1_widen_25 : decode cX1_widen 25 = .ok (.istore_n 2, 1) := by decide +kernel
theorem dX1_widen_26 : decode cX1_widen 26 = .ok (.goto (-24), 3) := by decide +kernel
theorem dX1_widen_29 : decode cX1_widen 29 = .ok (.return_, 1) := by decide +kernel
theorem dX1_spread_0 : decode cX1_spread 0 = .ok (.iconst 0, 1) := by decide +kernel
theorem dX1_spread_1 : decode cX1_spread 1 = .ok (.istore_n 2, 1) := by decide +kernel
theorem dX1_spread_2 : decode cX1_spread 2 = .ok (.iload_n 2, 1) := by decide +kernel
theorem dX1_spread_3 : decode cX1_spread 3 = .ok (.bipush 64, 2) := by decide +kernel
theorem dX1_spread_5 : decode cX1_spread 5 = .ok (.if_icmp .ge 35, 3) := by decide +kernel
theorem dX1_spread_8 : decode cX1_spread 8 = .ok (.aload_n 0, 1) := by decide +kernel
theorem dX1_spread_9 : decode cX1_spread 9 = .ok (.getfield 9, 3) := by decide +kernel
theorem dX1_spread_12 : decode cX1_spread 12 = .ok (.iload_n 2, 1) := by decide +kernel
theorem dX1_spread_13 : decode cX1_spread 13 = .ok (.dup2, 1) := by decide +kernel
theorem dX1_spread_14 : decode cX1_spread 14 = .ok (.laload, 1) := by decide +kernel
theorem dX1_spread_15 : decode cX1_spread 15 = .ok (.aload_n 0, 1) := by decide +kernel
theorem dX1_spread_16 : decode cX1_spread 16 = .ok (.getfield 9, 3) := by decide +kernel
theorem dX1_spread_19 : decode cX1_spread 19 = .ok (.iload_n 2, 1) := by decide +kernel
theorem dX1_spread_20 : decode cX1_spread 20 = .ok (.laload, 1) := by decide +kernel
theorem dX1_spread_21 : decode cX1_spread 21 = .ok (.iload_n 1, 1) := by decide +kernel
theorem dX1_spread_22 : decode cX1_spread 22 = .ok (.lshl, 1) := by decide +kernel
theorem dX1_spread_23 : decode cX1_spread 23 = .ok (.aload_n 0, 1) := by decide +kernel
theorem dX1_spread_24 : decode cX1_spread 24 = .ok (.getfield 9, 3) := by decide +kernel
theorem dX1_spread_27 : decode cX1_spread 27 = .ok (.iload_n 2, 1) := by decide +kernel
theorem dX1_spread_28 : decode cX1_spread 28 = .ok (.laload, 1) := by decide +kernel
theorem dX1_spread_29 : decode cX1_spread 29 = .ok (.iload_n 1, 1) := by decide +kernel
theorem dX1_spread_30 : decode cX1_spread 30 = .ok (.lushr, 1) := by decide +kernel
theorem dX1_spread_31 : decode cX1_spread 31 = .ok (.lor, 1) := by decide +kernel
theorem dX1_spread_32 : decode cX1_spread 32 = .ok (.lor, 1) := by decide +kernel
theorem dX1_spread_33 : decode cX1_spread 33 = .ok (.lastore, 1) := by decide +kernel
theorem dX1_spread_34 : decode cX1_spread 34 = .ok (.iinc 2 1, 3) := by decide +kernel
theorem dX1_spread_37 : decode cX1_spread 37 = .ok (.goto (-35), 3) := by decide +kernel
theorem dX1_spread_40 : decode cX1_spread 40 = .ok (.bipush 63, 2) := by decide +kernel
theorem dX1_spread_42 : decode cX1_spread 42 = .ok (.istore_n 2, 1) := by decide +kernel
theorem dX1_spread_43 : decode cX1_spread 43 = .ok (.iload_n 2, 1) := by decide +kernel
theorem dX1_spread_44 : decode cX1_spread 44 = .ok (.iload_n 1, 1) := by decide +kernel
theorem dX1_spread_45 : decode cX1_spread 45 = .ok (.if_icmp .lt 26, 3) := by decide +kernel
theorem dX1_spread_48 : decode cX1_spread 48 = .ok (.aload_n 0, 1) := by decide +kernel
theorem dX1_spread_49 : decode cX1_spread 49 = .ok (.getfield 9, 3) := by decide +kernel
theorem dX1_spread_52 : decode cX1_spread 52 = .ok (.iload_n 2, 1) := by decide +kernel
theorem dX1_spread_53 : decode cX1_spread 53 = .ok (.dup2, 1) := by decide +kernel
theorem dX1_spread_54 : decode cX1_spread 54 = .ok (.laload, 1) := by decide +kernel
theorem dX1_spread_55 : decode cX1_spread 55 = .ok (.aload_n 0, 1) := by decide +kernel
theorem dX1_spread_56 : decode cX1_spread 56 = .ok (.getfield 9, 3) := by decide +kernel
theorem dX1_spread_59 : decode cX1_spread 59 = .ok (.iload_n 2, 1) := by decide +kernel
theorem dX1_spread_60 : decode cX1_spread 60 = .ok (.iload_n 1, 1) := by decide +kernel
theorem dX1_spread_61 : decode cX1_spread 61 = .ok (.isub, 1) := by decide +kernel
theorem dX1_spread_62 : decode cX1_spread 62 = .ok (.laload, 1) := by decide +kernel
theorem dX1_spread_63 : decode cX1_spread 63 = .ok (.lor, 1) := by decide +kernel
theorem dX1_spread_64 : decode cX1_spread 64 = .ok (.lastore, 1) := by decide +kernel
theorem dX1_spread_65 : decode cX1_spread 65 = .ok (.iinc 2 (-1), 3) := by decide +kernel
theorem dX1_spread_68 : decode cX1_spread 68 = .ok (.goto (-25), 3) := by decide +kernel
theorem dX1_spread_71 : decode cX1_spread 71 = .ok (.iconst 0, 1) := by decide +kernel
theorem dX1_spread_72 : decode cX1_spread 72 = .ok (.istore_n 2, 1) := by decide +kernel
theorem dX1_spread_73 : decode cX1_spread 73 = .ok (.iload_n 2, 1) := by decide +kernel
theorem dX1_spread_74 : decode cX1_spread 74 = .ok (.bipush 64, 2) := by decide +kernel
theorem dX1_spread_76 : decode cX1_spread 76 = .ok (.iload_n 1, 1) := by decide +kernel
theorem dX1_spread_77 : decode cX1_spread 77 = .ok (.isub, 1) := by decide +kernel
theorem dX1_spread_78 : decode cX1_spread 78 = .ok (.if_icmp .ge 26, 3) := by decide +kernel
theorem dX1_spread_81 : decode cX1_spread 81 = .ok (.aload_n 0, 1) := by decide +kernel
theorem dX1_spread_82 : decode cX1_spread 82 = .ok (.getfield 9, 3) := by decide +kernel
theorem dX1_spread_85 : decode cX1_spread 85 = .ok (.iload_n 2, 1) := by decide +kernel
theorem dX1_spread_86 : decode cX1_spread 86 = .ok (.dup2, 1) := by decide +kernel
theorem dX1_spread_87 : decode cX1_spread 87 = .ok (.laload, 1) := by decide +kernel
theorem dX1_spread_88 : decode cX1_spread 88 = .ok (.aload_n 0, 1) := by decide +kernel
theorem dX1_spread_89 : decode cX1_spread 89 = .ok (.getfield 9, 3) := by decide +kernel
theorem dX1_spread_92 : decode cX1_spread 92 = .ok (.iload_n 2, 1) := by decide +kernel
theorem dX1_spread_93 : decode cX1_spread 93 = .ok (.iload_n 1, 1) := by decide +kernel
theorem dX1_spread_94 : decode cX1_spread 94 = .ok (.iadd, 1) := by decide +kernel
theorem dX1_spread_95 : decode cX1_spread 95 = .ok (.laload, 1) := by decide +kernel
theorem dX1_spread_96 : decode cX1_spread 96 = .ok (.lor, 1) := by decide +kernel
theorem dX1_spread_97 : decode cX1_spread 97 = .ok (.lastore, 1) := by decide +kernel
theorem dX1_spread_98 : decode cX1_spread 98 = .ok (.iinc 2 1, 3) := by decide +kernel
theorem dX1_spread_101 : decode cX1_spread 101 = .ok (.goto (-28), 3) := by decide +kernel
theorem dX1_spread_104 : decode cX1_spread 104 = .ok (.return_, 1) := by decide +kernel
set_option maxRecDepth 20000 in
theorem ggX2_init_X1_init : GoodIn wsX2_init wsX1_init := goodIn_r _ [12, 13, 2, 3, 14, 15, 19] (by decide +kernel) (by decide +kernel)
set_option maxRecDepth 20000 in
theorem gX2_init_X1_init : GoodIn wsX2_init (wsX1_init) := ggX2_init_X1_init
theorem dX2_init_0 : decode cX2_init 0 = .ok (.aload_n 0, 1) := by decide +kernel
theorem dX2_init_1 : decode cX2_init 1 = .ok (.invokespecial 3, 3) := by decide +kernel
theorem dX2_init_4 : decode cX2_init 4 = .ok (.aload_n 0, 1) := by decide +kernel
theorem dX2_init_5 : decode cX2_init 5 = .ok (.bipush 81, 2) := by decide +kernel
theorem dX2_init_7 : decode cX2_init 7 = .ok (.anewarray 9, 3) := by decide +kernel
theorem dX2_init_10 : decode cX2_init 10 = .ok (.putfield 11, 3) := by decide +kernel
theorem dX2_init_13 : decode cX2_init 13 = .ok (.iconst 0, 1) := by decide +kernel
theorem dX2_init_14 : decode cX2_init 14 = .ok (.istore_n 1, 1) := by decide +kernel
theorem dX2_init_15 : decode cX2_init 15 = .ok (.iload_n 1, 1) := by decide +kernel
theorem dX2_init_16 : decode cX2_init 16 = .ok (.bipush 80, 2) := by decide +kernel
theorem dX2_init_18 : decode cX2_init 18 = .ok (.if_icmp .gt 22, 3) := by decide +kernel
theorem dX2_init_21 : decode cX2_init 21 = .ok (.aload_n 0, 1) := by decide +kernel
theorem dX2_init_22 : decode cX2_init 22 = .ok (.getfield 11, 3) := by decide +kernel
theorem dX2_init_25 : decode cX2_init 25 = .ok (.iload_n 1, 1) := by decide +kernel
theorem dX2_init_26 : decode cX2_init 26 = .ok (.new 9, 3) := by decide +kernel
theorem dX2_init_29 : decode cX2_init 29 = .ok (.dup, 1) := by decide +kernel
theorem dX2_init_30 : decode cX2_init 30 = .ok (.invokespecial 17, 3) := by decide +kernel
theorem dX2_init_33 : decode cX2_init 33 = .ok (.aastore, 1) := by decide +kernel
theorem dX2_init_34 : decode cX2_init 34 = .ok (.iinc 1 1, 3) := by decide +kernel
theorem dX2_init_37 : decode cX2_init 37 = .ok (.goto (-22), 3) := by decide +kernel
theorem dX2_init_40 : decode cX2_init 40 = .ok (.aload_n 0, 1) := by decide +kernel
theorem dX2_init_41 : decode cX2_init 41 = .ok (.iconst 0, 1) := by decide +kernel
theorem dX2_init_42 : decode cX2_init 42 = .ok (.putfield 18, 3) := by decide +kernel
theorem dX2_init_45 : decode cX2_init 45 = .ok (.aload_n 0, 1) := by decide +kernel
theorem dX2_init_46 : decode cX2_init 46 = .ok (.iconst 0, 1) := by decide +kernel
theorem dX2_init_47 : decode cX2_init 47 = .ok (.putfield 22, 3) := by decide +kernel
theorem dX2_init_50 : decode cX2_init 50 = .ok (.return_, 1) := by decide +kernel
set_option maxRecDepth 20000 in
theorem ggX2_fewest_X2_advance : GoodIn wsX2_fewest wsX2_advance := goodIn_r _ [7, 1, 2, 8, 9, 10, 11, 12, 13, 14, 15, 16, 17, 18, 19, 20, 21, 22, 23, 24, 25, 26, 27, 28, 29, 30, 31, 32, 33, 34, 35, 36, 37, 38, 39, 40, 41, 42, 43, 44, 45, 46, 47, 48, 49, 75, 76, 77, 78, 79, 80, 81, 82, 83, 84, 85, 86, 87, 88, 89] (by decide +kernel) (by decide +kernel)
set_option maxRecDepth 20000 in
theorem gX2_fewest_X2_advance : GoodIn wsX2_fewest (wsV RX2 25 RX2 yX2_advance wsX2_advance) := goodIn_app (goodIn_of _ (by decide +kernel)) ggX2_fewest_X2_advance
set_option maxRecDepth 20000 in
theorem ggX2_fewest_X2_countTick : GoodIn wsX2_fewest wsX2_countTick := goodIn_r _ [53, 2, 1, 8, 54, 55, 56, 19, 57, 29, 58, 59, 60, 61, 62, 75, 76, 77, 85] (by decide +kernel) (by decide +kernel)
set_option maxRecDepth 20000 in
theorem gX2_fewest_X2_countTick : GoodIn wsX2_fewest (wsV RX2 29 RX2 yX2_countTick wsX2_countTick) := goodIn_app (goodIn_of _ (by decide +kernel)) ggX2_fewest_X2_countTick
set_option maxRecDepth 20000 in
theorem ggX2_fewest_X3_reachAt : GoodIn wsX2_fewest wsX3_reachAt := goodIn_r _ [45, 15, 78, 79, 80, 81, 82, 83, 84] (by decide +kernel) (by decide +kernel)
set_option maxRecDepth 20000 in
theorem gX2_fewest_X3_reachAt : GoodIn wsX2_fewest (wsV RX2 33 RX3 yX3_reachAt wsX3_reachAt) := goodIn_app (goodIn_of _ (by decide +kernel)) ggX2_fewest_X3_reachAt
set_option maxRecDepth 20000 in
theorem ggX2_fewest_X2_narrow : GoodIn wsX2_fewest wsX2_narrow := goodIn_r _ [66, 1, 2, 8, 67, 68, 69, 19, 70, 29, 71, 72, 73, 74, 34, 35, 36, 37, 38, 39, 40, 41, 75, 76, 77, 85, 86, 87, 88, 89] (by decide +kernel) (by decide +kernel)
set_option maxRecDepth 20000 in
theorem gX2_fewest_X2_narrow : GoodIn wsX2_fewest (wsV RX2 39 RX2 yX2_narrow wsX2_narrow) := goodIn_app (goodIn_of _ (by decide +kernel)) ggX2_fewest_X2_narrow
theorem dX2_fewest_0 : decode cX2_fewest 0 = .ok (.aload_n 0, 1) := by decide +kernel
theorem dX2_fewest_1 : decode cX2_fewest 1 = .ok (.iconst 0, 1) := by decide +kernel
theorem dX2_fewest_2 : decode cX2_fewest 2 = .ok (.putfield 18, 3) := by decide +kernel
theorem dX2_fewest_5 : decode cX2_fewest 5 = .ok (.aload_n 0, 1) := by decide +kernel
theorem dX2_fewest_6 : decode cX2_fewest 6 = .ok (.iconst 0, 1) := by decide +kernel
theorem dX2_fewest_7 : decode cX2_fewest 7 = .ok (.putfield 22, 3) := by decide +kernel
theorem dX2_fewest_10 : decode cX2_fewest 10 = .ok (.iload_n 3, 1) := by decide +kernel
theorem dX2_fewest_11 : decode cX2_fewest 11 = .ok (.istore 5, 2) := by decide +kernel
theorem dX2_fewest_13 : decode cX2_fewest 13 = .ok (.iload 5, 2) := by decide +kernel
theorem dX2_fewest_15 : decode cX2_fewest 15 = .ok (.iload 4, 2) := by decide +kernel
theorem dX2_fewest_17 : decode cX2_fewest 17 = .ok (.if_icmp .gt 31, 3) := by decide +kernel
theorem dX2_fewest_20 : decode cX2_fewest 20 = .ok (.aload_n 0, 1) := by decide +kernel
theorem dX2_fewest_21 : decode cX2_fewest 21 = .ok (.aload_n 1, 1) := by decide +kernel
theorem dX2_fewest_22 : decode cX2_fewest 22 = .ok (.iload 5, 2) := by decide +kernel
theorem dX2_fewest_24 : decode cX2_fewest 24 = .ok (.invokevirtual 25, 3) := by decide +kernel
theorem dX2_fewest_27 : decode cX2_fewest 27 = .ok (.aload_n 0, 1) := by decide +kernel
theorem dX2_fewest_28 : decode cX2_fewest 28 = .ok (.aload_n 2, 1) := by decide +kernel
theorem dX2_fewest_29 : decode cX2_fewest 29 = .ok (.invokevirtual 29, 3) := by decide +kernel
theorem dX2_fewest_32 : decode cX2_fewest 32 = .ok (.aload_n 0, 1) := by decide +kernel
theorem dX2_fewest_33 : decode cX2_fewest 33 = .ok (.aload_n 1, 1) := by decide +kernel
theorem dX2_fewest_34 : decode cX2_fewest 34 = .ok (.iload 5, 2) := by decide +kernel
theorem dX2_fewest_36 : decode cX2_fewest 36 = .ok (.invokevirtual 33, 3) := by decide +kernel
theorem dX2_fewest_39 : decode cX2_fewest 39 = .ok (.invokevirtual 39, 3) := by decide +kernel
theorem dX2_fewest_42 : decode cX2_fewest 42 = .ok (.iinc 5 1, 3) := by decide +kernel
theorem dX2_fewest_45 : decode cX2_fewest 45 = .ok (.goto (-32), 3) := by decide +kernel
theorem dX2_fewest_48 : decode cX2_fewest 48 = .ok (.aload_n 0, 1) := by decide +kernel
theorem dX2_fewest_49 : decode cX2_fewest 49 = .ok (.getfield 18, 3) := by decide +kernel
theorem dX2_fewest_52 : decode cX2_fewest 52 = .ok (.ireturn, 1) := by decide +kernel
set_option maxRecDepth 20000 in
theorem ggX2_advance_X3_advance : GoodIn wsX2_advance wsX3_advance := goodIn_r _ [8, 9, 10, 11, 12, 13, 14, 15, 16, 17, 18, 19, 20, 21, 22, 23, 24, 25, 26, 27, 28, 29, 30, 31, 32, 33, 34, 35, 36, 48, 49, 50, 51, 52, 53, 54, 55, 56, 57, 58, 59] (by decide +kernel) (by decide +kernel)
set_option maxRecDepth 20000 in
theorem gX2_advance_X3_advance : GoodIn wsX2_advance (wsV RX2 43 RX3 yX3_advance wsX3_advance) := goodIn_app (goodIn_of _ (by decide +kernel)) ggX2_advance_X3_advance
set_option maxRecDepth 20000 in
theorem ggX2_advance_X3_reachAt : GoodIn wsX2_advance wsX3_reachAt := goodIn_r _ [40, 10, 48, 49, 50, 51, 52, 53, 54] (by decide +kernel) (by decide +kernel)
set_option maxRecDepth 20000 in
theorem gX2_advance_X3_reachAt : GoodIn wsX2_advance (wsV RX2 33 RX3 yX3_reachAt wsX3_reachAt) := goodIn_app (goodIn_of _ (by decide +kernel)) ggX2_advance_X3_reachAt
set_option maxRecDepth 20000 in
theorem ggX2_advance_X1_setTo : GoodIn wsX2_advance wsX1_setTo := goodIn_r _ [44, 24, 29, 30, 31, 32, 33, 34, 35, 36, 55, 56, 57, 58, 59] (by decide +kernel) (by decide +kernel)
set_option maxRecDepth 20000 in
theorem gX2_advance_X1_setTo : GoodIn wsX2_advance (wsV RX2 46 RX1 yX1_setTo wsX1_setTo) := goodIn_app (goodIn_of _ (by decide +kernel)) ggX2_advance_X1_setTo
theorem dX2_advance_0 : decode cX2_advance 0 = .ok (.aload_n 0, 1) := by decide +kernel
theorem dX2_advance_1 : decode cX2_advance 1 = .ok (.getfield 18, 3) := by decide +kernel
theorem dX2_advance_4 : decode cX2_advance 4 = .ok (.istore_n 3, 1) := by decide +kernel
theorem dX2_advance_5 : decode cX2_advance 5 = .ok (.iload_n 3, 1) := by decide +kernel
theorem dX2_advance_6 : decode cX2_advance 6 = .ok (.aload_n 0, 1) := by decide +kernel
theorem dX2_advance_7 : decode cX2_advance 7 = .ok (.getfield 22, 3) := by decide +kernel
theorem dX2_advance_10 : decode cX2_advance 10 = .ok (.if_icmp .ge 20, 3) := by decide +kernel
theorem dX2_advance_13 : decode cX2_advance 13 = .ok (.aload_n 1, 1) := by decide +kernel
theorem dX2_advance_14 : decode cX2_advance 14 = .ok (.aload_n 0, 1) := by decide +kernel
theorem dX2_advance_15 : decode cX2_advance 15 = .ok (.getfield 11, 3) := by decide +kernel
theorem dX2_advance_18 : decode cX2_advance 18 = .ok (.iload_n 3, 1) := by decide +kernel
theorem dX2_advance_19 : decode cX2_advance 19 = .ok (.aaload, 1) := by decide +kernel
theorem dX2_advance_20 : decode cX2_advance 20 = .ok (.iload_n 2, 1) := by decide +kernel
theorem dX2_advance_21 : decode cX2_advance 21 = .ok (.invokevirtual 43, 3) := by decide +kernel
theorem dX2_advance_24 : decode cX2_advance 24 = .ok (.iinc 3 1, 3) := by decide +kernel
theorem dX2_advance_27 : decode cX2_advance 27 = .ok (.goto (-22), 3) := by decide +kernel
theorem dX2_advance_30 : decode cX2_advance 30 = .ok (.aload_n 0, 1) := by decide +kernel
theorem dX2_advance_31 : decode cX2_advance 31 = .ok (.getfield 11, 3) := by decide +kernel
theorem dX2_advance_34 : decode cX2_advance 34 = .ok (.aload_n 0, 1) := by decide +kernel
theorem dX2_advance_35 : decode cX2_advance 35 = .ok (.getfield 22, 3) := by decide +kernel
theorem dX2_advance_38 : decode cX2_advance 38 = .ok (.aaload, 1) := by decide +kernel
theorem dX2_advance_39 : decode cX2_advance 39 = .ok (.aload_n 1, 1) := by decide +kernel
theorem dX2_advance_40 : decode cX2_advance 40 = .ok (.iload_n 2, 1) := by decide +kernel
theorem dX2_advance_41 : decode cX2_advance 41 = .ok (.invokevirtual 33, 3) := by decide +kernel
theorem dX2_advance_44 : decode cX2_advance 44 = .ok (.invokevirtual 46, 3) := by decide +kernel
theorem dX2_advance_47 : decode cX2_advance 47 = .ok (.return_, 1) := by decide +kernel
set_option maxRecDepth 20000 in
theorem ggX2_countTick_X1_takeWithin : GoodIn wsX2_countTick wsX1_takeWithin := goodIn_r _ [8, 9, 10, 18] (by decide +kernel) (by decide +kernel)
set_option maxRecDepth 20000 in
theorem gX2_countTick_X1_takeWithin : GoodIn wsX2_countTick (wsV RX2 49 RX1 yX1_takeWithin wsX1_takeWithin) := goodIn_app (goodIn_of _ (by decide +kernel)) ggX2_countTick_X1_takeWithin
set_option maxRecDepth 20000 in
theorem ggX2_countTick_X1_drop : GoodIn wsX2_countTick wsX1_drop := goodIn_r _ [14, 9, 10, 18] (by decide +kernel) (by decide +kernel)
set_option maxRecDepth 20000 in
theorem gX2_countTick_X1_drop : GoodIn wsX2_countTick (wsV RX2 53 RX1 yX1_drop wsX1_drop) := goodIn_app (goodIn_of _ (by decide +kernel)) ggX2_countTick_X1_drop
theorem dX2_countTick_0 : decode cX2_countTick 0 = .ok (.aload_n 0, 1) := by decide +kernel
theorem dX2_countTick_1 : decode cX2_countTick 1 = .ok (.getfield 22, 3) := by decide +kernel
theorem dX2_countTick_4 : decode cX2_countTick 4 = .ok (.istore_n 2, 1) := by decide +kernel
theorem dX2_countTick_5 : decode cX2_countTick 5 = .ok (.iload_n 2, 1) := by decide +kernel
theorem dX2_countTick_6 : decode cX2_countTick 6 = .ok (.aload_n 0, 1) := by decide +kernel
theorem dX2_countTick_7 : decode cX2_countTick 7 = .ok (.getfield 18, 3) := by decide +kernel
theorem dX2_countTick_10 : decode cX2_countTick 10 = .ok (.if_icmp .le 27, 3) := by decide +kernel
theorem dX2_countTick_13 : decode cX2_countTick 13 = .ok (.aload_n 0, 1) := by decide +kernel
theorem dX2_countTick_14 : decode cX2_countTick 14 = .ok (.getfield 11, 3) := by decide +kernel
theorem dX2_countTick_17 : decode cX2_countTick 17 = .ok (.iload_n 2, 1) := by decide +kernel
theorem dX2_countTick_18 : decode cX2_countTick 18 = .ok (.aaload, 1) := by decide +kernel
theorem dX2_countTick_19 : decode cX2_countTick 19 = .ok (.aload_n 1, 1) := by decide +kernel
theorem dX2_countTick_20 : decode cX2_countTick 20 = .ok (.aload_n 0, 1) := by decide +kernel
theorem dX2_countTick_21 : decode cX2_countTick 21 = .ok (.getfield 11, 3) := by decide +kernel
theorem dX2_countTick_24 : decode cX2_countTick 24 = .ok (.iload_n 2, 1) := by decide +kernel
theorem dX2_countTick_25 : decode cX2_countTick 25 = .ok (.iconst 1, 1) := by decide +kernel
theorem dX2_countTick_26 : decode cX2_countTick 26 = .ok (.isub, 1) := by decide +kernel
theorem dX2_countTick_27 : decode cX2_countTick 27 = .ok (.aaload, 1) := by decide +kernel
theorem dX2_countTick_28 : decode cX2_countTick 28 = .ok (.invokevirtual 49, 3) := by decide +kernel
theorem dX2_countTick_31 : decode cX2_countTick 31 = .ok (.iinc 2 (-1), 3) := by decide +kernel
theorem dX2_countTick_34 : decode cX2_countTick 34 = .ok (.goto (-29), 3) := by decide +kernel
theorem dX2_countTick_37 : decode cX2_countTick 37 = .ok (.aload_n 0, 1) := by decide +kernel
theorem dX2_countTick_38 : decode cX2_countTick 38 = .ok (.getfield 11, 3) := by decide +kernel
theorem dX2_countTick_41 : decode cX2_countTick 41 = .ok (.aload_n 0, 1) := by decide +kernel
theorem dX2_countTick_42 : decode cX2_countTick 42 = .ok (.getfield 18, 3) := by decide +kernel
theorem dX2_countTick_45 : decode cX2_countTick 45 = .ok (.aaload, 1) := by decide +kernel
theorem dX2_countTick_46 : decode cX2_countTick 46 = .ok (.aload_n 1, 1) := by decide +kernel
theorem dX2_countTick_47 : decode cX2_countTick 47 = .ok (.invokevirtual 53, 3) := by decide +kernel
theorem dX2_countTick_50 : decode cX2_countTick 50 = .ok (.aload_n 0, 1) := by decide +kernel
theorem dX2_countTick_51 : decode cX2_countTick 51 = .ok (.getfield 22, 3) := by decide +kernel
theorem dX2_countTick_54 : decode cX2_countTick 54 = .ok (.bipush 80, 2) := by decide +kernel
theorem dX2_countTick_56 : decode cX2_countTick 56 = .ok (.if_icmp .ge 13, 3) := by decide +kernel
theorem dX2_countTick_59 : decode cX2_countTick 59 = .ok (.aload_n 0, 1) := by decide +kernel
theorem dX2_countTick_60 : decode cX2_countTick 60 = .ok (.dup, 1) := by decide +kernel
theorem dX2_countTick_61 : decode cX2_countTick 61 = .ok (.getfield 22, 3) := by decide +kernel
theorem dX2_countTick_64 : decode cX2_countTick 64 = .ok (.iconst 1, 1) := by decide +kernel
theorem dX2_countTick_65 : decode cX2_countTick 65 = .ok (.iadd, 1) := by decide +kernel
theorem dX2_countTick_66 : decode cX2_countTick 66 = .ok (.putfield 22, 3) := by decide +kernel
theorem dX2_countTick_69 : decode cX2_countTick 69 = .ok (.return_, 1) := by decide +kernel
set_option maxRecDepth 20000 in
theorem ggX2_narrow_X1_isEmpty : GoodIn wsX2_narrow wsX1_isEmpty := goodIn_r _ [8, 9, 25] (by decide +kernel) (by decide +kernel)
set_option maxRecDepth 20000 in
theorem gX2_narrow_X1_isEmpty : GoodIn wsX2_narrow (wsV RX2 56 RX1 yX1_isEmpty wsX1_isEmpty) := goodIn_app (goodIn_of _ (by decide +kernel)) ggX2_narrow_X1_isEmpty
set_option maxRecDepth 20000 in
theorem ggX2_narrow_X1_covers : GoodIn wsX2_narrow wsX1_covers := goodIn_r _ [13, 9, 14, 15, 16, 17, 18, 19, 20, 21, 26, 27, 28, 29, 25] (by decide +kernel) (by decide +kernel)
set_option maxRecDepth 20000 in
theorem gX2_narrow_X1_covers : GoodIn wsX2_narrow (wsV RX2 60 RX1 yX1_covers wsX1_covers) := goodIn_app (goodIn_of _ (by decide +kernel)) ggX2_narrow_X1_covers
theorem dX2_narrow_0 : decode cX2_narrow 0 = .ok (.aload_n 0, 1) := by decide +kernel
theorem dX2_narrow_1 : decode cX2_narrow 1 = .ok (.getfield 18, 3) := by decide +kernel
theorem dX2_narrow_4 : decode cX2_narrow 4 = .ok (.aload_n 0, 1) := by decide +kernel
theorem dX2_narrow_5 : decode cX2_narrow 5 = .ok (.getfield 22, 3) := by decide +kernel
theorem dX2_narrow_8 : decode cX2_narrow 8 = .ok (.if_icmp .ge 31, 3) := by decide +kernel
theorem dX2_narrow_11 : decode cX2_narrow 11 = .ok (.aload_n 0, 1) := by decide +kernel
theorem dX2_narrow_12 : decode cX2_narrow 12 = .ok (.getfield 11, 3) := by decide +kernel
theorem dX2_narrow_15 : decode cX2_narrow 15 = .ok (.aload_n 0, 1) := by decide +kernel
theorem dX2_narrow_16 : decode cX2_narrow 16 = .ok (.getfield 18, 3) := by decide +kernel
theorem dX2_narrow_19 : decode cX2_narrow 19 = .ok (.aaload, 1) := by decide +kernel
theorem dX2_narrow_20 : decode cX2_narrow 20 = .ok (.invokevirtual 56, 3) := by decide +kernel
theorem dX2_narrow_23 : decode cX2_narrow 23 = .ok (.ifCond .eq 16, 3) := by decide +kernel
theorem dX2_narrow_26 : decode cX2_narrow 26 = .ok (.aload_n 0, 1) := by decide +kernel
theorem dX2_narrow_27 : decode cX2_narrow 27 = .ok (.dup, 1) := by decide +kernel
theorem dX2_narrow_28 : decode cX2_narrow 28 = .ok (.getfield 18, 3) := by decide +kernel
theorem dX2_narrow_31 : decode cX2_narrow 31 = .ok (.iconst 1, 1) := by decide +kernel
theorem dX2_narrow_32 : decode cX2_narrow 32 = .ok (.iadd, 1) := by decide +kernel
theorem dX2_narrow_33 : decode cX2_narrow 33 = .ok (.putfield 18, 3) := by decide +kernel
theorem dX2_narrow_36 : decode cX2_narrow 36 = .ok (.goto (-36), 3) := by decide +kernel
theorem dX2_narrow_39 : decode cX2_narrow 39 = .ok (.aload_n 0, 1) := by decide +kernel
theorem dX2_narrow_40 : decode cX2_narrow 40 = .ok (.getfield 22, 3) := by decide +kernel
theorem dX2_narrow_43 : decode cX2_narrow 43 = .ok (.aload_n 0, 1) := by decide +kernel
theorem dX2_narrow_44 : decode cX2_narrow 44 = .ok (.getfield 18, 3) := by decide +kernel
theorem dX2_narrow_47 : decode cX2_narrow 47 = .ok (.if_icmp .le 34, 3) := by decide +kernel
theorem dX2_narrow_50 : decode cX2_narrow 50 = .ok (.aload_n 0, 1) := by decide +kernel
theorem dX2_narrow_51 : decode cX2_narrow 51 = .ok (.getfield 11, 3) := by decide +kernel
theorem dX2_narrow_54 : decode cX2_narrow 54 = .ok (.aload_n 0, 1) := by decide +kernel
theorem dX2_narrow_55 : decode cX2_narrow 55 = .ok (.getfield 22, 3) := by decide +kernel
theorem dX2_narrow_58 : decode cX2_narrow 58 = .ok (.iconst 1, 1) := by decide +kernel
theorem dX2_narrow_59 : decode cX2_narrow 59 = .ok (.isub, 1) := by decide +kernel
theorem dX2_narrow_60 : decode cX2_narrow 60 = .ok (.aaload, 1) := by decide +kernel
theorem dX2_narrow_61 : decode cX2_narrow 61 = .ok (.aload_n 1, 1) := by decide +kernel
theorem dX2_narrow_62 : decode cX2_narrow 62 = .ok (.invokevirtual 60, 3) := by decide +kernel
theorem dX2_narrow_65 : decode cX2_narrow 65 = .ok (.ifCond .eq 16, 3) := by decide +kernel
theorem dX2_narrow_68 : decode cX2_narrow 68 = .ok (.aload_n 0, 1) := by decide +kernel
theorem dX2_narrow_69 : decode cX2_narrow 69 = .ok (.dup, 1) := by decide +kernel
theorem dX2_narrow_70 : decode cX2_narrow 70 = .ok (.getfield 22, 3) := by decide +kernel
theorem dX2_narrow_73 : decode cX2_narrow 73 = .ok (.iconst 1, 1) := by decide +kernel
theorem dX2_narrow_74 : decode cX2_narrow 74 = .ok (.isub, 1) := by decide +kernel
theorem dX2_narrow_75 : decode cX2_narrow 75 = .ok (.putfield 22, 3) := by decide +kernel
theorem dX2_narrow_78 : decode cX2_narrow 78 = .ok (.goto (-39), 3) := by decide +kernel
theorem dX2_narrow_81 : decode cX2_narrow 81 = .ok (.return_, 1) := by decide +kernel
set_option maxRecDepth 20000 in
theorem ggX3_init_X0_init : GoodIn wsX3_init wsX0_init := goodIn_r _ [17, 18, 2, 3, 19, 20, 21, 22, 30, 31, 32, 33] (by decide +kernel) (by decide +kernel)
set_option maxRecDepth 20000 in
theorem gX3_init_X0_init : GoodIn wsX3_init (wsX0_init) := ggX3_init_X0_init
theorem dX3_init_0 : decode cX3_init 0 = .ok (.aload_n 0, 1) := by decide +kernel
theorem dX3_init_1 : decode cX3_init 1 = .ok (.invokespecial 3, 3) := by decide +kernel
theorem dX3_init_4 : decode cX3_init 4 = .ok (.aload_n 0, 1) := by decide +kernel
theorem dX3_init_5 : decode cX3_init 5 = .ok (.iload_n 1, 1) := by decide +kernel
theorem dX3_init_6 : decode cX3_init 6 = .ok (.putfield 9, 3) := by decide +kernel
theorem dX3_init_9 : decode cX3_init 9 = .ok (.aload_n 0, 1) := by decide +kernel
theorem dX3_init_10 : decode cX3_init 10 = .ok (.bipush 12, 2) := by decide +kernel
theorem dX3_init_12 : decode cX3_init 12 = .ok (.newarray .int, 2) := by decide +kernel
theorem dX3_init_14 : decode cX3_init 14 = .ok (.putfield 15, 3) := by decide +kernel
theorem dX3_init_17 : decode cX3_init 17 = .ok (.aload_n 0, 1) := by decide +kernel
theorem dX3_init_18 : decode cX3_init 18 = .ok (.bipush 12, 2) := by decide +kernel
theorem dX3_init_20 : decode cX3_init 20 = .ok (.newarray .int, 2) := by decide +kernel
theorem dX3_init_22 : decode cX3_init 22 = .ok (.putfield 19, 3) := by decide +kernel
theorem dX3_init_25 : decode cX3_init 25 = .ok (.aload_n 0, 1) := by decide +kernel
theorem dX3_init_26 : decode cX3_init 26 = .ok (.bipush 12, 2) := by decide +kernel
theorem dX3_init_28 : decode cX3_init 28 = .ok (.newarray .int, 2) := by decide +kernel
theorem dX3_init_30 : decode cX3_init 30 = .ok (.putfield 22, 3) := by decide +kernel
theorem dX3_init_33 : decode cX3_init 33 = .ok (.aload_n 0, 1) := by decide +kernel
theorem dX3_init_34 : decode cX3_init 34 = .ok (.bipush 80, 2) := by decide +kernel
theorem dX3_init_36 : decode cX3_init 36 = .ok (.anewarray 25, 3) := by decide +kernel
theorem dX3_init_39 : decode cX3_init 39 = .ok (.putfield 27, 3) := by decide +kernel
theorem dX3_init_42 : decode cX3_init 42 = .ok (.iconst 0, 1) := by decide +kernel
theorem dX3_init_43 : decode cX3_init 43 = .ok (.istore_n 2, 1) := by decide +kernel
theorem dX3_init_44 : decode cX3_init 44 = .ok (.iload_n 2, 1) := by decide +kernel
theorem dX3_init_45 : decode cX3_init 45 = .ok (.bipush 80, 2) := by decide +kernel
theorem dX3_init_47 : decode cX3_init 47 = .ok (.if_icmp .ge 28, 3) := by decide +kernel
theorem dX3_init_50 : decode cX3_init 50 = .ok (.aload_n 0, 1) := by decide +kernel
theorem dX3_init_51 : decode cX3_init 51 = .ok (.getfield 27, 3) := by decide +kernel
theorem dX3_init_54 : decode cX3_init 54 = .ok (.iload_n 2, 1) := by decide +kernel
theorem dX3_init_55 : decode cX3_init 55 = .ok (.new 25, 3) := by decide +kernel
theorem dX3_init_58 : decode cX3_init 58 = .ok (.dup, 1) := by decide +kernel
theorem dX3_init_59 : decode cX3_init 59 = .ok (.iconst 0, 1) := by decide +kernel
theorem dX3_init_60 : decode cX3_init 60 = .ok (.bipush 63, 2) := by decide +kernel
theorem dX3_init_62 : decode cX3_init 62 = .ok (.iconst 0, 1) := by decide +kernel
theorem dX3_init_63 : decode cX3_init 63 = .ok (.bipush 63, 2) := by decide +kernel
theorem dX3_init_65 : decode cX3_init 65 = .ok (.invokespecial 31, 3) := by decide +kernel
theorem dX3_init_68 : decode cX3_init 68 = .ok (.aastore, 1) := by decide +kernel
theorem dX3_init_69 : decode cX3_init 69 = .ok (.iinc 2 1, 3) := by decide +kernel
theorem dX3_init_72 : decode cX3_init 72 = .ok (.goto (-28), 3) := by decide +kernel
theorem dX3_init_75 : decode cX3_init 75 = .ok (.aload_n 0, 1) := by decide +kernel
theorem dX3_init_76 : decode cX3_init 76 = .ok (.iconst 0, 1) := by decide +kernel
theorem dX3_init_77 : decode cX3_init 77 = .ok (.putfield 34, 3) := by decide +kernel
theorem dX3_init_80 : decode cX3_init 80 = .ok (.aload_n 0, 1) := by decide +kernel
theorem dX3_init_81 : decode cX3_init 81 = .ok (.iconst 0, 1) := by decide +kernel
theorem dX3_init_82 : decode cX3_init 82 = .ok (.putfield 37, 3) := by decide +kernel
theorem dX3_init_85 : decode cX3_init 85 = .ok (.return_, 1) := by decide +kernel
theorem dX3_sights_0 : decode cX3_sights 0 = .ok (.aload_n 0, 1) := by decide +kernel
theorem dX3_sights_1 : decode cX3_sights 1 = .ok (.getfield 34, 3) := by decide +kernel
theorem dX3_sights_4 : decode cX3_sights 4 = .ok (.ireturn, 1) := by decide +kernel
theorem dX3_leftOut_0 : decode cX3_leftOut 0 = .ok (.aload_n 0, 1) := by decide +kernel
theorem dX3_leftOut_1 : decode cX3_leftOut 1 = .ok (.getfield 37, 3) := by decide +kernel
theorem dX3_leftOut_4 : decode cX3_leftOut 4 = .ok (.ireturn, 1) := by decide +kernel
theorem dX3_reachAt_0 : decode cX3_reachAt 0 = .ok (.aload_n 0, 1) := by decide +kernel
theorem dX3_reachAt_1 : decode cX3_reachAt 1 = .ok (.getfield 27, 3) := by decide +kernel
theorem dX3_reachAt_4 : decode cX3_reachAt 4 = .ok (.iload_n 1, 1) := by decide +kernel
theorem dX3_reachAt_5 : decode cX3_reachAt 5 = .ok (.aaload, 1) := by decide +kernel
theorem dX3_reachAt_6 : decode cX3_reachAt 6 = .ok (.areturn, 1) := by decide +kernel
set_option maxRecDepth 20000 in
theorem ggX3_takeSight_X3_settle : GoodIn wsX3_takeSight wsX3_settle := goodIn_r _ [10, 11, 1, 2, 3, 4, 12, 13, 14, 15, 16, 17, 18, 19, 20, 21, 22, 23, 24, 25, 26, 27, 28, 29, 30, 31, 32, 33, 34, 35, 36, 37, 38, 39, 40, 41, 50, 51, 52, 53, 54, 55, 56, 57, 58, 59, 60] (by decide +kernel) (by decide +kernel)
set_option maxRecDepth 20000 in
theorem gX3_takeSight_X3_settle : GoodIn wsX3_takeSight (wsV RX3 40 RX3 yX3_settle wsX3_settle) := goodIn_app (goodIn_of _ (by decide +kernel)) ggX3_takeSight_X3_settle
set_option maxRecDepth 20000 in
theorem ggX3_takeSight_X3_canMove : GoodIn wsX3_takeSight wsX3_canMove := goodIn_r _ [45, 11, 46, 47, 48, 16, 49, 18, 19, 20, 21, 50, 51, 52, 53, 54, 55, 56, 57, 58, 59, 60] (by decide +kernel) (by decide +kernel)
set_option maxRecDepth 20000 in
theorem gX3_takeSight_X3_canMove : GoodIn wsX3_takeSight (wsV RX3 43 RX3 yX3_canMove wsX3_canMove) := goodIn_app (goodIn_of _ (by decide +kernel)) ggX3_takeSight_X3_canMove
theorem dX3_takeSight_0 : decode cX3_takeSight 0 = .ok (.aload_n 0, 1) := by decide +kernel
theorem dX3_takeSight_1 : decode cX3_takeSight 1 = .ok (.getfield 34, 3) := by decide +kernel
theorem dX3_takeSight_4 : decode cX3_takeSight 4 = .ok (.bipush 12, 2) := by decide +kernel
theorem dX3_takeSight_6 : decode cX3_takeSight 6 = .ok (.if_icmp .lt 5, 3) := by decide +kernel
theorem dX3_takeSight_9 : decode cX3_takeSight 9 = .ok (.iconst 0, 1) := by decide +kernel
theorem dX3_takeSight_10 : decode cX3_takeSight 10 = .ok (.ireturn, 1) := by decide +kernel
theorem dX3_takeSight_11 : decode cX3_takeSight 11 = .ok (.aload_n 0, 1) := by decide +kernel
theorem dX3_takeSight_12 : decode cX3_takeSight 12 = .ok (.getfield 15, 3) := by decide +kernel
theorem dX3_takeSight_15 : decode cX3_takeSight 15 = .ok (.aload_n 0, 1) := by decide +kernel
theorem dX3_takeSight_16 : decode cX3_takeSight 16 = .ok (.getfield 34, 3) := by decide +kernel
theorem dX3_takeSight_19 : decode cX3_takeSight 19 = .ok (.iload_n 1, 1) := by decide +kernel
theorem dX3_takeSight_20 : decode cX3_takeSight 20 = .ok (.iastore, 1) := by decide +kernel
theorem dX3_takeSight_21 : decode cX3_takeSight 21 = .ok (.aload_n 0, 1) := by decide +kernel
theorem dX3_takeSight_22 : decode cX3_takeSight 22 = .ok (.getfield 19, 3) := by decide +kernel
theorem dX3_takeSight_25 : decode cX3_takeSight 25 = .ok (.aload_n 0, 1) := by decide +kernel
theorem dX3_takeSight_26 : decode cX3_takeSight 26 = .ok (.getfield 34, 3) := by decide +kernel
theorem dX3_takeSight_29 : decode cX3_takeSight 29 = .ok (.iload_n 2, 1) := by decide +kernel
theorem dX3_takeSight_30 : decode cX3_takeSight 30 = .ok (.iastore, 1) := by decide +kernel
theorem dX3_takeSight_31 : decode cX3_takeSight 31 = .ok (.aload_n 0, 1) := by decide +kernel
theorem dX3_takeSight_32 : decode cX3_takeSight 32 = .ok (.getfield 22, 3) := by decide +kernel
theorem dX3_takeSight_35 : decode cX3_takeSight 35 = .ok (.aload_n 0, 1) := by decide +kernel
theorem dX3_takeSight_36 : decode cX3_takeSight 36 = .ok (.getfield 34, 3) := by decide +kernel
theorem dX3_takeSight_39 : decode cX3_takeSight 39 = .ok (.iload_n 3, 1) := by decide +kernel
theorem dX3_takeSight_40 : decode cX3_takeSight 40 = .ok (.iastore, 1) := by decide +kernel
theorem dX3_takeSight_41 : decode cX3_takeSight 41 = .ok (.aload_n 0, 1) := by decide +kernel
theorem dX3_takeSight_42 : decode cX3_takeSight 42 = .ok (.dup, 1) := by decide +kernel
theorem dX3_takeSight_43 : decode cX3_takeSight 43 = .ok (.getfield 34, 3) := by decide +kernel
theorem dX3_takeSight_46 : decode cX3_takeSight 46 = .ok (.iconst 1, 1) := by decide +kernel
theorem dX3_takeSight_47 : decode cX3_takeSight 47 = .ok (.iadd, 1) := by decide +kernel
theorem dX3_takeSight_48 : decode cX3_takeSight 48 = .ok (.putfield 34, 3) := by decide +kernel
theorem dX3_takeSight_51 : decode cX3_takeSight 51 = .ok (.aload_n 0, 1) := by decide +kernel
theorem dX3_takeSight_52 : decode cX3_takeSight 52 = .ok (.invokevirtual 40, 3) := by decide +kernel
theorem dX3_takeSight_55 : decode cX3_takeSight 55 = .ok (.aload_n 0, 1) := by decide +kernel
theorem dX3_takeSight_56 : decode cX3_takeSight 56 = .ok (.invokevirtual 43, 3) := by decide +kernel
theorem dX3_takeSight_59 : decode cX3_takeSight 59 = .ok (.ifCond .ne 29, 3) := by decide +kernel
theorem dX3_takeSight_62 : decode cX3_takeSight 62 = .ok (.aload_n 0, 1) := by decide +kernel
theorem dX3_takeSight_63 : decode cX3_takeSight 63 = .ok (.dup, 1) := by decide +kernel
theorem dX3_takeSight_64 : decode cX3_takeSight 64 = .ok (.getfield 34, 3) := by decide +kernel
theorem dX3_takeSight_67 : decode cX3_takeSight 67 = .ok (.iconst 1, 1) := by decide +kernel
theorem dX3_takeSight_68 : decode cX3_takeSight 68 = .ok (.isub, 1) := by decide +kernel
theorem dX3_takeSight_69 : decode cX3_takeSight 69 = .ok (.putfield 34, 3) := by decide +kernel
theorem dX3_takeSight_72 : decode cX3_takeSight 72 = .ok (.aload_n 0, 1) := by decide +kernel
theorem dX3_takeSight_73 : decode cX3_takeSight 73 = .ok (.dup, 1) := by decide +kernel
theorem dX3_takeSight_74 : decode cX3_takeSight 74 = .ok (.getfield 37, 3) := by decide +kernel
theorem dX3_takeSight_77 : decode cX3_takeSight 77 = .ok (.iconst 1, 1) := by decide +kernel
theorem dX3_takeSight_78 : decode cX3_takeSight 78 = .ok (.iadd, 1) := by decide +kernel
theorem dX3_takeSight_79 : decode cX3_takeSight 79 = .ok (.putfield 37, 3) := by decide +kernel
theorem dX3_takeSight_82 : decode cX3_takeSight 82 = .ok (.aload_n 0, 1) := by decide +kernel
theorem dX3_takeSight_83 : decode cX3_takeSight 83 = .ok (.invokevirtual 40, 3) := by decide +kernel
theorem dX3_takeSight_86 : decode cX3_takeSight 86 = .ok (.iconst 0, 1) := by decide +kernel
theorem dX3_takeSight_87 : decode cX3_takeSight 87 = .ok (.ireturn, 1) := by decide +kernel
theorem dX3_takeSight_88 : decode cX3_takeSight 88 = .ok (.iconst 1, 1) := by decide +kernel
theorem dX3_takeSight_89 : decode cX3_takeSight 89 = .ok (.ireturn, 1) := by decide +kernel
set_option maxRecDepth 20000 in
theorem ggX3_dropSight_X3_settle : GoodIn wsX3_dropSight wsX3_settle := goodIn_r _ [6, 7, 1, 8, 9, 10, 11, 12, 13, 14, 15, 16, 17, 18, 19, 20, 21, 22, 23, 24, 25, 26, 27, 28, 29, 30, 31, 32, 33, 34, 35, 36, 37, 38, 39, 40, 41, 42, 43, 44, 45, 46, 47, 48, 49, 50, 51] (by decide +kernel) (by decide +kernel)
set_option maxRecDepth 20000 in
theorem gX3_dropSight_X3_settle : GoodIn wsX3_dropSight (wsV RX3 40 RX3 yX3_settle wsX3_settle) := goodIn_app (goodIn_of _ (by decide +kernel)) ggX3_dropSight_X3_settle
theorem dX3_dropSight_0 : decode cX3_dropSight 0 = .ok (.aload_n 0, 1) := by decide +kernel
theorem dX3_dropSight_1 : decode cX3_dropSight 1 = .ok (.getfield 34, 3) := by decide +kernel
theorem dX3_dropSight_4 : decode cX3_dropSight 4 = .ok (.ifCond .gt 5, 3) := by decide +kernel
theorem dX3_dropSight_7 : decode cX3_dropSight 7 = .ok (.iconst 0, 1) := by decide +kernel
theorem dX3_dropSight_8 : decode cX3_dropSight 8 = .ok (.ireturn, 1) := by decide +kernel
theorem dX3_dropSight_9 : decode cX3_dropSight 9 = .ok (.aload_n 0, 1) := by decide +kernel
theorem dX3_dropSight_10 : decode cX3_dropSight 10 = .ok (.dup, 1) := by decide +kernel
theorem dX3_dropSight_11 : decode cX3_dropSight 11 = .ok (.getfield 34, 3) := by decide +kernel
theorem dX3_dropSight_14 : decode cX3_dropSight 14 = .ok (.iconst 1, 1) := by decide +kernel
theorem dX3_dropSight_15 : decode cX3_dropSight 15 = .ok (.isub, 1) := by decide +kernel
theorem dX3_dropSight_16 : decode cX3_dropSight 16 = .ok (.putfield 34, 3) := by decide +kernel
theorem dX3_dropSight_19 : decode cX3_dropSight 19 = .ok (.aload_n 0, 1) := by decide +kernel
theorem dX3_dropSight_20 : decode cX3_dropSight 20 = .ok (.invokevirtual 40, 3) := by decide +kernel
theorem dX3_dropSight_23 : decode cX3_dropSight 23 = .ok (.iconst 1, 1) := by decide +kernel
theorem dX3_dropSight_24 : decode cX3_dropSight 24 = .ok (.ireturn, 1) := by decide +kernel
set_option maxRecDepth 20000 in
theorem ggX3_advance_X1_widen : GoodIn wsX3_advance wsX1_widen := goodIn_r _ [7, 8, 9, 10, 11, 12, 13, 14, 6, 15, 16, 36] (by decide +kernel) (by decide +kernel)
set_option maxRecDepth 20000 in
theorem gX3_advance_X1_widen : GoodIn wsX3_advance (wsV RX3 47 RX1 yX1_widen wsX1_widen) := goodIn_app (goodIn_of _ (by decide +kernel)) ggX3_advance_X1_widen
set_option maxRecDepth 20000 in
theorem ggX3_advance_X1_keep : GoodIn wsX3_advance wsX1_keep := goodIn_r _ [20, 16, 21, 22, 23, 24, 25, 26, 27, 28, 36, 37, 38, 39, 40] (by decide +kernel) (by decide +kernel)
set_option maxRecDepth 20000 in
theorem gX3_advance_X1_keep : GoodIn wsX3_advance (wsV RX3 53 RX1 yX1_keep wsX1_keep) := goodIn_app (goodIn_of _ (by decide +kernel)) ggX3_advance_X1_keep
theorem dX3_advance_0 : decode cX3_advance 0 = .ok (.aload_n 1, 1) := by decide +kernel
theorem dX3_advance_1 : decode cX3_advance 1 = .ok (.aload_n 0, 1) := by decide +kernel
theorem dX3_advance_2 : decode cX3_advance 2 = .ok (.getfield 9, 3) := by decide +kernel
theorem dX3_advance_5 : decode cX3_advance 5 = .ok (.invokevirtual 47, 3) := by decide +kernel
theorem dX3_advance_8 : decode cX3_advance 8 = .ok (.aload_n 1, 1) := by decide +kernel
theorem dX3_advance_9 : decode cX3_advance 9 = .ok (.aload_n 0, 1) := by decide +kernel
theorem dX3_advance_10 : decode cX3_advance 10 = .ok (.getfield 27, 3) := by decide +kernel
theorem dX3_advance_13 : decode cX3_advance 13 = .ok (.iload_n 2, 1) := by decide +kernel
theorem dX3_advance_14 : decode cX3_advance 14 = .ok (.aaload, 1) := by decide +kernel
theorem dX3_advance_15 : decode cX3_advance 15 = .ok (.invokevirtual 53, 3) := by decide +kernel
theorem dX3_advance_18 : decode cX3_advance 18 = .ok (.return_, 1) := by decide +kernel
set_option maxRecDepth 20000 in
theorem ggX3_canMove_X0_isEmpty : GoodIn wsX3_canMove wsX0_isEmpty := goodIn_r _ [6, 7, 8, 9, 10, 18, 19, 20, 21] (by decide +kernel) (by decide +kernel)
set_option maxRecDepth 20000 in
theorem gX3_canMove_X0_isEmpty : GoodIn wsX3_canMove (wsV RX3 57 RX0 yX0_isEmpty wsX0_isEmpty) := goodIn_app (goodIn_of _ (by decide +kernel)) ggX3_canMove_X0_isEmpty
theorem dX3_canMove_0 : decode cX3_canMove 0 = .ok (.iconst 0, 1) := by decide +kernel
theorem dX3_canMove_1 : decode cX3_canMove 1 = .ok (.istore_n 1, 1) := by decide +kernel
theorem dX3_canMove_2 : decode cX3_canMove 2 = .ok (.iload_n 1, 1) := by decide +kernel
theorem dX3_canMove_3 : decode cX3_canMove 3 = .ok (.bipush 80, 2) := by decide +kernel
theorem dX3_canMove_5 : decode cX3_canMove 5 = .ok (.if_icmp .ge 23, 3) := by decide +kernel
theorem dX3_canMove_8 : decode cX3_canMove 8 = .ok (.aload_n 0, 1) := by decide +kernel
theorem dX3_canMove_9 : decode cX3_canMove 9 = .ok (.getfield 27, 3) := by decide +kernel
theorem dX3_canMove_12 : decode cX3_canMove 12 = .ok (.iload_n 1, 1) := by decide +kernel
theorem dX3_canMove_13 : decode cX3_canMove 13 = .ok (.aaload, 1) := by decide +kernel
theorem dX3_canMove_14 : decode cX3_canMove 14 = .ok (.invokevirtual 57, 3) := by decide +kernel
theorem dX3_canMove_17 : decode cX3_canMove 17 = .ok (.ifCond .eq 5, 3) := by decide +kernel
theorem dX3_canMove_20 : decode cX3_canMove 20 = .ok (.iconst 0, 1) := by decide +kernel
theorem dX3_canMove_21 : decode cX3_canMove 21 = .ok (.ireturn, 1) := by decide +kernel
theorem dX3_canMove_22 : decode cX3_canMove 22 = .ok (.iinc 1 1, 3) := by decide +kernel
theorem dX3_canMove_25 : decode cX3_canMove 25 = .ok (.goto (-23), 3) := by decide +kernel
theorem dX3_canMove_28 : decode cX3_canMove 28 = .ok (.iconst 1, 1) := by decide +kernel
theorem dX3_canMove_29 : decode cX3_canMove 29 = .ok (.ireturn, 1) := by decide +kernel
set_option maxRecDepth 20000 in
theorem ggX3_settle_X0_setToField : GoodIn wsX3_settle wsX0_setToField := goodIn_r _ [11, 12, 13, 14, 15, 43, 44, 45, 46] (by decide +kernel) (by decide +kernel)
set_option maxRecDepth 20000 in
theorem gX3_settle_X0_setToField : GoodIn wsX3_settle (wsV RX3 60 RX0 yX0_setToField wsX0_setToField) := goodIn_app (goodIn_of _ (by decide +kernel)) ggX3_settle_X0_setToField
set_option maxRecDepth 20000 in
theorem ggX3_settle_X4_xOf : GoodIn wsX3_settle wsX4_xOf := goodIn_r _ [18] (by decide +kernel) (by decide +kernel)
set_option maxRecDepth 20000 in
theorem gX3_settle_X4_xOf_n63 : GoodIn wsX3_settle (wsX4_xOf) := ggX3_settle_X4_xOf
set_option maxRecDepth 20000 in
theorem ggX3_settle_X4_yOf : GoodIn wsX3_settle wsX4_yOf := goodIn_r _ [20] (by decide +kernel) (by decide +kernel)
set_option maxRecDepth 20000 in
theorem gX3_settle_X4_yOf_n67 : GoodIn wsX3_settle (wsX4_yOf) := ggX3_settle_X4_yOf
set_option maxRecDepth 20000 in
theorem ggX3_settle_X0_keepAround : GoodIn wsX3_settle wsX0_keepAround := goodIn_r _ [24, 12, 25, 26, 27, 28, 13, 29, 30, 31, 14, 15, 43, 44, 45, 46] (by decide +kernel) (by decide +kernel)
set_option maxRecDepth 20000 in
theorem gX3_settle_X0_keepAround : GoodIn wsX3_settle (wsV RX3 70 RX0 yX0_keepAround wsX0_keepAround) := goodIn_app (goodIn_of _ (by decide +kernel)) ggX3_settle_X0_keepAround
set_option maxRecDepth 20000 in
theorem ggX3_settle_X0_keepNear : GoodIn wsX3_settle wsX0_keepNear := goodIn_r _ [35, 12, 25, 26, 27, 28, 13, 29, 30, 31, 14, 15, 43, 44, 45, 46] (by decide +kernel) (by decide +kernel)
set_option maxRecDepth 20000 in
theorem gX3_settle_X0_keepNear : GoodIn wsX3_settle (wsV RX3 74 RX0 yX0_keepNear wsX0_keepNear) := goodIn_app (goodIn_of _ (by decide +kernel)) ggX3_settle_X0_keepNear
theorem dX3_settle_0 : decode cX3_settle 0 = .ok (.iconst 0, 1) := by decide +kernel
theorem dX3_settle_1 : decode cX3_settle 1 = .ok (.istore_n 1, 1) := by decide +kernel
theorem dX3_settle_2 : decode cX3_settle 2 = .ok (.iload_n 1, 1) := by decide +kernel
theorem dX3_settle_3 : decode cX3_settle 3 = .ok (.bipush 80, 2) := by decide +kernel
theorem dX3_settle_5 : decode cX3_settle 5 = .ok (.if_icmp .ge 18, 3) := by decide +kernel
theorem dX3_settle_8 : decode cX3_settle 8 = .ok (.aload_n 0, 1) := by decide +kernel
theorem dX3_settle_9 : decode cX3_settle 9 = .ok (.getfield 27, 3) := by decide +kernel
theorem dX3_settle_12 : decode cX3_settle 12 = .ok (.iload_n 1, 1) := by decide +kernel
theorem dX3_settle_13 : decode cX3_settle 13 = .ok (.aaload, 1) := by decide +kernel
theorem dX3_settle_14 : decode cX3_settle 14 = .ok (.invokevirtual 60, 3) := by decide +kernel
theorem dX3_settle_17 : decode cX3_settle 17 = .ok (.iinc 1 1, 3) := by decide +kernel
theorem dX3_settle_20 : decode cX3_settle 20 = .ok (.goto (-18), 3) := by decide +kernel
theorem dX3_settle_23 : decode cX3_settle 23 = .ok (.iconst 0, 1) := by decide +kernel
theorem dX3_settle_24 : decode cX3_settle 24 = .ok (.istore_n 1, 1) := by decide +kernel
theorem dX3_settle_25 : decode cX3_settle 25 = .ok (.iload_n 1, 1) := by decide +kernel
theorem dX3_settle_26 : decode cX3_settle 26 = .ok (.aload_n 0, 1) := by decide +kernel
theorem dX3_settle_27 : decode cX3_settle 27 = .ok (.getfield 34, 3) := by decide +kernel
theorem dX3_settle_30 : decode cX3_settle 30 = .ok (.if_icmp .ge 47, 3) := by decide +kernel
theorem dX3_settle_33 : decode cX3_settle 33 = .ok (.aload_n 0, 1) := by decide +kernel
theorem dX3_settle_34 : decode cX3_settle 34 = .ok (.getfield 27, 3) := by decide +kernel
theorem dX3_settle_37 : decode cX3_settle 37 = .ok (.aload_n 0, 1) := by decide +kernel
theorem dX3_settle_38 : decode cX3_settle 38 = .ok (.getfield 15, 3) := by decide +kernel
theorem dX3_settle_41 : decode cX3_settle 41 = .ok (.iload_n 1, 1) := by decide +kernel
theorem dX3_settle_42 : decode cX3_settle 42 = .ok (.iaload, 1) := by decide +kernel
theorem dX3_settle_43 : decode cX3_settle 43 = .ok (.aaload, 1) := by decide +kernel
theorem dX3_settle_44 : decode cX3_settle 44 = .ok (.aload_n 0, 1) := by decide +kernel
theorem dX3_settle_45 : decode cX3_settle 45 = .ok (.getfield 19, 3) := by decide +kernel
theorem dX3_settle_48 : decode cX3_settle 48 = .ok (.iload_n 1, 1) := by decide +kernel
theorem dX3_settle_49 : decode cX3_settle 49 = .ok (.iaload, 1) := by decide +kernel
theorem dX3_settle_50 : decode cX3_settle 50 = .ok (.invokestatic 63, 3) := by decide +kernel
theorem dX3_settle_53 : decode cX3_settle 53 = .ok (.aload_n 0, 1) := by decide +kernel
theorem dX3_settle_54 : decode cX3_settle 54 = .ok (.getfield 19, 3) := by decide +kernel
theorem dX3_settle_57 : decode cX3_settle 57 = .ok (.iload_n 1, 1) := by decide +kernel
theorem dX3_settle_58 : decode cX3_settle 58 = .ok (.iaload, 1) := by decide +kernel
theorem dX3_settle_59 : decode cX3_settle 59 = .ok (.invokestatic 67, 3) := by decide +kernel
theorem dX3_settle_62 : decode cX3_settle 62 = .ok (.aload_n 0, 1) := by decide +kernel
theorem dX3_settle_63 : decode cX3_settle 63 = .ok (.getfield 22, 3) := by decide +kernel
theorem dX3_settle_66 : decode cX3_settle 66 = .ok (.iload_n 1, 1) := by decide +kernel
theorem dX3_settle_67 : decode cX3_settle 67 = .ok (.iaload, 1) := by decide +kernel
theorem dX3_settle_68 : decode cX3_settle 68 = .ok (.invokevirtual 70, 3) := by decide +kernel
theorem dX3_settle_71 : decode cX3_settle 71 = .ok (.iinc 1 1, 3) := by decide +kernel
theorem dX3_settle_74 : decode cX3_settle 74 = .ok (.goto (-49), 3) := by decide +kernel
theorem dX3_settle_77 : decode cX3_settle 77 = .ok (.iconst 1, 1) := by decide +kernel
theorem dX3_settle_78 : decode cX3_settle 78 = .ok (.istore_n 1, 1) := by decide +kernel
theorem dX3_settle_79 : decode cX3_settle 79 = .ok (.iload_n 1, 1) := by decide +kernel
theorem dX3_settle_80 : decode cX3_settle 80 = .ok (.bipush 80, 2) := by decide +kernel
theorem dX3_settle_82 : decode cX3_settle 82 = .ok (.if_icmp .ge 30, 3) := by decide +kernel
theorem dX3_settle_85 : decode cX3_settle 85 = .ok (.aload_n 0, 1) := by decide +kernel
theorem dX3_settle_86 : decode cX3_settle 86 = .ok (.getfield 27, 3) := by decide +kernel
theorem dX3_settle_89 : decode cX3_settle 89 = .ok (.iload_n 1, 1) := by decide +kernel
theorem dX3_settle_90 : decode cX3_settle 90 = .ok (.aaload, 1) := by decide +kernel
theorem dX3_settle_91 : decode cX3_settle 91 = .ok (.aload_n 0, 1) := by decide +kernel
theorem dX3_settle_92 : decode cX3_settle 92 = .ok (.getfield 27, 3) := by decide +kernel
theorem dX3_settle_95 : decode cX3_settle 95 = .ok (.iload_n 1, 1) := by decide +kernel
theorem dX3_settle_96 : decode cX3_settle 96 = .ok (.iconst 1, 1) := by decide +kernel
theorem dX3_settle_97 : decode cX3_settle 97 = .ok (.isub, 1) := by decide +kernel
theorem dX3_settle_98 : decode cX3_settle 98 = .ok (.aaload, 1) := by decide +kernel
theorem dX3_settle_99 : decode cX3_settle 99 = .ok (.aload_n 0, 1) := by decide +kernel
theorem dX3_settle_100 : decode cX3_settle 100 = .ok (.getfield 9, 3) := by decide +kernel
theorem dX3_settle_103 : decode cX3_settle 103 = .ok (.invokevirtual 74, 3) := by decide +kernel
theorem dX3_settle_106 : decode cX3_settle 106 = .ok (.iinc 1 1, 3) := by decide +kernel
theorem dX3_settle_109 : decode cX3_settle 109 = .ok (.goto (-30), 3) := by decide +kernel
theorem dX3_settle_112 : decode cX3_settle 112 = .ok (.bipush 78, 2) := by decide +kernel
theorem dX3_settle_114 : decode cX3_settle 114 = .ok (.istore_n 1, 1) := by decide +kernel
theorem dX3_settle_115 : decode cX3_settle 115 = .ok (.iload_n 1, 1) := by decide +kernel
theorem dX3_settle_116 : decode cX3_settle 116 = .ok (.ifCond .lt 30, 3) := by decide +kernel
theorem dX3_settle_119 : decode cX3_settle 119 = .ok (.aload_n 0, 1) := by decide +kernel
theorem dX3_settle_120 : decode cX3_settle 120 = .ok (.getfield 27, 3) := by decide +kernel
theorem dX3_settle_123 : decode cX3_settle 123 = .ok (.iload_n 1, 1) := by decide +kernel
theorem dX3_settle_124 : decode cX3_settle 124 = .ok (.aaload, 1) := by decide +kernel
theorem dX3_settle_125 : decode cX3_settle 125 = .ok (.aload_n 0, 1) := by decide +kernel
theorem dX3_settle_126 : decode cX3_settle 126 = .ok (.getfield 27, 3) := by decide +kernel
theorem dX3_settle_129 : decode cX3_settle 129 = .ok (.iload_n 1, 1) := by decide +kernel
theorem dX3_settle_130 : decode cX3_settle 130 = .ok (.iconst 1, 1) := by decide +kernel
theorem dX3_settle_131 : decode cX3_settle 131 = .ok (.iadd, 1) := by decide +kernel
theorem dX3_settle_132 : decode cX3_settle 132 = .ok (.aaload, 1) := by decide +kernel
theorem dX3_settle_133 : decode cX3_settle 133 = .ok (.aload_n 0, 1) := by decide +kernel
theorem dX3_settle_134 : decode cX3_settle 134 = .ok (.getfield 9, 3) := by decide +kernel
theorem dX3_settle_137 : decode cX3_settle 137 = .ok (.invokevirtual 74, 3) := by decide +kernel
theorem dX3_settle_140 : decode cX3_settle 140 = .ok (.iinc 1 (-1), 3) := by decide +kernel
theorem dX3_settle_143 : decode cX3_settle 143 = .ok (.goto (-28), 3) := by decide +kernel
theorem dX3_settle_146 : decode cX3_settle 146 = .ok (.return_, 1) := by decide +kernel
set_option maxRecDepth 20000 in
theorem ggX4_init_X1_init : GoodIn wsX4_init wsX1_init := goodIn_r _ [19, 20, 2, 3, 21, 22, 38] (by decide +kernel) (by decide +kernel)
set_option maxRecDepth 20000 in
theorem gX4_init_X1_init : GoodIn wsX4_init (wsX1_init) := ggX4_init_X1_init
set_option maxRecDepth 20000 in
theorem ggX4_init_X2_init : GoodIn wsX4_init wsX2_init := goodIn_r _ [25, 26, 2, 3, 27, 28, 8, 9, 29, 30, 31, 18, 19, 20, 21, 22, 39, 40, 41, 38] (by decide +kernel) (by decide +kernel)
set_option maxRecDepth 20000 in
theorem gX4_init_X2_init : GoodIn wsX4_init (wsX2_init) := ggX4_init_X2_init
theorem dX4_init_0 : decode cX4_init 0 = .ok (.aload_n 0, 1) := by decide +kernel
theorem dX4_init_1 : decode cX4_init 1 = .ok (.invokespecial 3, 3) := by decide +kernel
theorem dX4_init_4 : decode cX4_init 4 = .ok (.aload_n 0, 1) := by decide +kernel
theorem dX4_init_5 : decode cX4_init 5 = .ok (.bipush 6, 2) := by decide +kernel
theorem dX4_init_7 : decode cX4_init 7 = .ok (.anewarray 9, 3) := by decide +kernel
theorem dX4_init_10 : decode cX4_init 10 = .ok (.putfield 11, 3) := by decide +kernel
theorem dX4_init_13 : decode cX4_init 13 = .ok (.aload_n 0, 1) := by decide +kernel
theorem dX4_init_14 : decode cX4_init 14 = .ok (.iconst 4, 1) := by decide +kernel
theorem dX4_init_15 : decode cX4_init 15 = .ok (.anewarray 15, 3) := by decide +kernel
theorem dX4_init_18 : decode cX4_init 18 = .ok (.putfield 17, 3) := by decide +kernel
theorem dX4_init_21 : decode cX4_init 21 = .ok (.aload_n 0, 1) := by decide +kernel
theorem dX4_init_22 : decode cX4_init 22 = .ok (.new 15, 3) := by decide +kernel
theorem dX4_init_25 : decode cX4_init 25 = .ok (.dup, 1) := by decide +kernel
theorem dX4_init_26 : decode cX4_init 26 = .ok (.invokespecial 21, 3) := by decide +kernel
theorem dX4_init_29 : decode cX4_init 29 = .ok (.putfield 22, 3) := by decide +kernel
theorem dX4_init_32 : decode cX4_init 32 = .ok (.aload_n 0, 1) := by decide +kernel
theorem dX4_init_33 : decode cX4_init 33 = .ok (.new 26, 3) := by decide +kernel
theorem dX4_init_36 : decode cX4_init 36 = .ok (.dup, 1) := by decide +kernel
theorem dX4_init_37 : decode cX4_init 37 = .ok (.invokespecial 28, 3) := by decide +kernel
theorem dX4_init_40 : decode cX4_init 40 = .ok (.putfield 29, 3) := by decide +kernel
theorem dX4_init_43 : decode cX4_init 43 = .ok (.aload_n 0, 1) := by decide +kernel
theorem dX4_init_44 : decode cX4_init 44 = .ok (.iconst 0, 1) := by decide +kernel
theorem dX4_init_45 : decode cX4_init 45 = .ok (.putfield 33, 3) := by decide +kernel
theorem dX4_init_48 : decode cX4_init 48 = .ok (.aload_n 0, 1) := by decide +kernel
theorem dX4_init_49 : decode cX4_init 49 = .ok (.iconst 0, 1) := by decide +kernel
theorem dX4_init_50 : decode cX4_init 50 = .ok (.putfield 37, 3) := by decide +kernel
theorem dX4_init_53 : decode cX4_init 53 = .ok (.return_, 1) := by decide +kernel
set_option maxRecDepth 20000 in
theorem ggX4_thing_X3_init : GoodIn wsX4_thing wsX3_init := goodIn_r _ [8, 9, 10, 11, 12, 13, 14, 15, 16, 17, 18, 19, 20, 21, 22, 23, 24, 25, 26, 27, 28, 29, 30, 37, 38, 39, 40, 41, 42, 43, 44, 45, 46, 47] (by decide +kernel) (by decide +kernel)
set_option maxRecDepth 20000 in
theorem gX4_thing_X3_init : GoodIn wsX4_thing (wsX3_init) := ggX4_thing_X3_init
theorem dX4_thing_0 : decode cX4_thing 0 = .ok (.iload_n 1, 1) := by decide +kernel
theorem dX4_thing_1 : decode cX4_thing 1 = .ok (.ifCond .lt 18, 3) := by decide +kernel
theorem dX4_thing_4 : decode cX4_thing 4 = .ok (.iload_n 1, 1) := by decide +kernel
theorem dX4_thing_5 : decode cX4_thing 5 = .ok (.bipush 7, 2) := by decide +kernel
theorem dX4_thing_7 : decode cX4_thing 7 = .ok (.if_icmp .gt 12, 3) := by decide +kernel
theorem dX4_thing_10 : decode cX4_thing 10 = .ok (.aload_n 0, 1) := by decide +kernel
theorem dX4_thing_11 : decode cX4_thing 11 = .ok (.getfield 33, 3) := by decide +kernel
theorem dX4_thing_14 : decode cX4_thing 14 = .ok (.bipush 6, 2) := by decide +kernel
theorem dX4_thing_16 : decode cX4_thing 16 = .ok (.if_icmp .lt 5, 3) := by decide +kernel
theorem dX4_thing_19 : decode cX4_thing 19 = .ok (.iconst (-1), 1) := by decide +kernel
theorem dX4_thing_20 : decode cX4_thing 20 = .ok (.ireturn, 1) := by decide +kernel
theorem dX4_thing_21 : decode cX4_thing 21 = .ok (.aload_n 0, 1) := by decide +kernel
theorem dX4_thing_22 : decode cX4_thing 22 = .ok (.getfield 11, 3) := by decide +kernel
theorem dX4_thing_25 : decode cX4_thing 25 = .ok (.aload_n 0, 1) := by decide +kernel
theorem dX4_thing_26 : decode cX4_thing 26 = .ok (.getfield 33, 3) := by decide +kernel
theorem dX4_thing_29 : decode cX4_thing 29 = .ok (.new 9, 3) := by decide +kernel
theorem dX4_thing_32 : decode cX4_thing 32 = .ok (.dup, 1) := by decide +kernel
theorem dX4_thing_33 : decode cX4_thing 33 = .ok (.iload_n 1, 1) := by decide +kernel
theorem dX4_thing_34 : decode cX4_thing 34 = .ok (.invokespecial 40, 3) := by decide +kernel
theorem dX4_thing_37 : decode cX4_thing 37 = .ok (.aastore, 1) := by decide +kernel
theorem dX4_thing_38 : decode cX4_thing 38 = .ok (.aload_n 0, 1) := by decide +kernel
theorem dX4_thing_39 : decode cX4_thing 39 = .ok (.dup, 1) := by decide +kernel
theorem dX4_thing_40 : decode cX4_thing 40 = .ok (.getfield 33, 3) := by decide +kernel
theorem dX4_thing_43 : decode cX4_thing 43 = .ok (.iconst 1, 1) := by decide +kernel
theorem dX4_thing_44 : decode cX4_thing 44 = .ok (.iadd, 1) := by decide +kernel
theorem dX4_thing_45 : decode cX4_thing 45 = .ok (.putfield 33, 3) := by decide +kernel
theorem dX4_thing_48 : decode cX4_thing 48 = .ok (.aload_n 0, 1) := by decide +kernel
theorem dX4_thing_49 : decode cX4_thing 49 = .ok (.getfield 33, 3) := by decide +kernel
theorem dX4_thing_52 : decode cX4_thing 52 = .ok (.iconst 1, 1) := by decide +kernel
theorem dX4_thing_53 : decode cX4_thing 53 = .ok (.isub, 1) := by decide +kernel
theorem dX4_thing_54 : decode cX4_thing 54 = .ok (.ireturn, 1) := by decide +kernel
set_option maxRecDepth 20000 in
theorem ggX4_see_X4_thingOf : GoodIn wsX4_see wsX4_thingOf := goodIn_r _ [5, 6, 7, 70, 71, 72, 73, 74, 75] (by decide +kernel) (by decide +kernel)
set_option maxRecDepth 20000 in
theorem gX4_see_X4_thingOf : GoodIn wsX4_see (wsV RX4 43 RX4 yX4_thingOf wsX4_thingOf) := goodIn_app (goodIn_of _ (by decide +kernel)) ggX4_see_X4_thingOf
set_option maxRecDepth 20000 in
theorem ggX4_see_X4_isTick : GoodIn wsX4_see wsX4_isTick := goodIn_r _ [10] (by decide +kernel) (by decide +kernel)
set_option maxRecDepth 20000 in
theorem gX4_see_X4_isTick : GoodIn wsX4_see (va_wsS RX4 47 yX4_isTick wsX4_isTick) := goodIn_app (goodIn_of _ (by decide +kernel)) ggX4_see_X4_isTick
set_option maxRecDepth 20000 in
theorem ggX4_see_X4_isPlace : GoodIn wsX4_see wsX4_isPlace := goodIn_r _ [13] (by decide +kernel) (by decide +kernel)
set_option maxRecDepth 20000 in
theorem gX4_see_X4_isPlace : GoodIn wsX4_see (va_wsS RX4 51 yX4_isPlace wsX4_isPlace) := goodIn_app (goodIn_of _ (by decide +kernel)) ggX4_see_X4_isPlace
set_option maxRecDepth 20000 in
theorem ggX4_see_X3_takeSight : GoodIn wsX4_see wsX3_takeSight := goodIn_r _ [18, 19, 20, 21, 22, 23, 24, 25, 26, 17, 27, 28, 29, 30, 31, 32, 33, 34, 35, 36, 37, 38, 39, 4, 40, 41, 42, 43, 44, 45, 46, 47, 48, 49, 50, 51, 52, 53, 54, 55, 56, 57, 58, 59, 60, 61, 62, 63, 64, 65, 76, 77, 78, 79, 80, 81, 82, 83, 84, 85, 86] (by decide +kernel) (by decide +kernel)
set_option maxRecDepth 20000 in
theorem gX4_see_X3_takeSight : GoodIn wsX4_see (wsV RX4 54 RX3 yX3_takeSight wsX3_takeSight) := goodIn_app (goodIn_of _ (by decide +kernel)) ggX4_see_X3_takeSight
set_option maxRecDepth 20000 in
theorem ggX4_see_X3_sights : GoodIn wsX4_see wsX3_sights := goodIn_r _ [69, 19, 76, 77, 78, 79, 80, 81, 82] (by decide +kernel) (by decide +kernel)
set_option maxRecDepth 20000 in
theorem gX4_see_X3_sights : GoodIn wsX4_see (wsV RX4 58 RX3 yX3_sights wsX3_sights) := goodIn_app (goodIn_of _ (by decide +kernel)) ggX4_see_X3_sights
theorem dX4_see_0 : decode cX4_see 0 = .ok (.aload_n 0, 1) := by decide +kernel
theorem dX4_see_1 : decode cX4_see 1 = .ok (.iload_n 1, 1) := by decide +kernel
theorem dX4_see_2 : decode cX4_see 2 = .ok (.invokevirtual 43, 3) := by decide +kernel
theorem dX4_see_5 : decode cX4_see 5 = .ok (.astore 5, 2) := by decide +kernel
theorem dX4_see_7 : decode cX4_see 7 = .ok (.aload 5, 2) := by decide +kernel
theorem dX4_see_9 : decode cX4_see 9 = .ok (.ifnull 29, 3) := by decide +kernel
theorem dX4_see_12 : decode cX4_see 12 = .ok (.iload_n 2, 1) := by decide +kernel
theorem dX4_see_13 : decode cX4_see 13 = .ok (.invokestatic 47, 3) := by decide +kernel
theorem dX4_see_16 : decode cX4_see 16 = .ok (.ifCond .eq 22, 3) := by decide +kernel
theorem dX4_see_19 : decode cX4_see 19 = .ok (.iload_n 3, 1) := by decide +kernel
theorem dX4_see_20 : decode cX4_see 20 = .ok (.invokestatic 51, 3) := by decide +kernel
theorem dX4_see_23 : decode cX4_see 23 = .ok (.ifCond .eq 15, 3) := by decide +kernel
theorem dX4_see_26 : decode cX4_see 26 = .ok (.iload 4, 2) := by decide +kernel
theorem dX4_see_28 : decode cX4_see 28 = .ok (.ifCond .lt 10, 3) := by decide +kernel
theorem dX4_see_31 : decode cX4_see 31 = .ok (.iload 4, 2) := by decide +kernel
theorem dX4_see_33 : decode cX4_see 33 = .ok (.bipush 64, 2) := by decide +kernel
theorem dX4_see_35 : decode cX4_see 35 = .ok (.if_icmp .lt 5, 3) := by decide +kernel
theorem dX4_see_38 : decode cX4_see 38 = .ok (.iconst (-1), 1) := by decide +kernel
theorem dX4_see_39 : decode cX4_see 39 = .ok (.ireturn, 1) := by decide +kernel
theorem dX4_see_40 : decode cX4_see 40 = .ok (.aload 5, 2) := by decide +kernel
theorem dX4_see_42 : decode cX4_see 42 = .ok (.iload_n 2, 1) := by decide +kernel
theorem dX4_see_43 : decode cX4_see 43 = .ok (.iload_n 3, 1) := by decide +kernel
theorem dX4_see_44 : decode cX4_see 44 = .ok (.iload 4, 2) := by decide +kernel
theorem dX4_see_46 : decode cX4_see 46 = .ok (.invokevirtual 54, 3) := by decide +kernel
theorem dX4_see_49 : decode cX4_see 49 = .ok (.ifCond .eq 11, 3) := by decide +kernel
theorem dX4_see_52 : decode cX4_see 52 = .ok (.aload 5, 2) := by decide +kernel
theorem dX4_see_54 : decode cX4_see 54 = .ok (.invokevirtual 58, 3) := by decide +kernel
theorem dX4_see_57 : decode cX4_see 57 = .ok (.goto 4, 3) := by decide +kernel
theorem dX4_see_60 : decode cX4_see 60 = .ok (.iconst (-1), 1) := by decide +kernel
theorem dX4_see_61 : decode cX4_see 61 = .ok (.ireturn, 1) := by decide +kernel
set_option maxRecDepth 20000 in
theorem ggX4_back_X4_thingOf : GoodIn wsX4_back wsX4_thingOf := goodIn_r _ [5, 6, 7, 51, 52, 53, 54, 55, 56] (by decide +kernel) (by decide +kernel)
set_option maxRecDepth 20000 in
theorem gX4_back_X4_thingOf : GoodIn wsX4_back (wsV RX4 43 RX4 yX4_thingOf wsX4_thingOf) := goodIn_app (goodIn_of _ (by decide +kernel)) ggX4_back_X4_thingOf
set_option maxRecDepth 20000 in
theorem ggX4_back_X3_dropSight : GoodIn wsX4_back wsX3_dropSight := goodIn_r _ [12, 13, 14, 15, 16, 11, 17, 18, 19, 20, 21, 22, 23, 24, 25, 26, 27, 28, 29, 30, 31, 32, 4, 33, 34, 35, 36, 37, 38, 39, 40, 41, 42, 43, 44, 45, 46, 47, 48, 49, 50, 57, 58, 59, 60, 61, 62, 63, 64, 65, 66, 67] (by decide +kernel) (by decide +kernel)
set_option maxRecDepth 20000 in
theorem gX4_back_X3_dropSight : GoodIn wsX4_back (wsV RX4 62 RX3 yX3_dropSight wsX3_dropSight) := goodIn_app (goodIn_of _ (by decide +kernel)) ggX4_back_X3_dropSight
theorem dX4_back_0 : decode cX4_back 0 = .ok (.aload_n 0, 1) := by decide +kernel
theorem dX4_back_1 : decode cX4_back 1 = .ok (.iload_n 1, 1) := by decide +kernel
theorem dX4_back_2 : decode cX4_back 2 = .ok (.invokevirtual 43, 3) := by decide +kernel
theorem dX4_back_5 : decode cX4_back 5 = .ok (.astore_n 2, 1) := by decide +kernel
theorem dX4_back_6 : decode cX4_back 6 = .ok (.aload_n 2, 1) := by decide +kernel
theorem dX4_back_7 : decode cX4_back 7 = .ok (.ifnull 14, 3) := by decide +kernel
theorem dX4_back_10 : decode cX4_back 10 = .ok (.aload_n 2, 1) := by decide +kernel
theorem dX4_back_11 : decode cX4_back 11 = .ok (.invokevirtual 62, 3) := by decide +kernel
theorem dX4_back_14 : decode cX4_back 14 = .ok (.ifCond .eq 7, 3) := by decide +kernel
theorem dX4_back_17 : decode cX4_back 17 = .ok (.iconst 1, 1) := by decide +kernel
theorem dX4_back_18 : decode cX4_back 18 = .ok (.goto 4, 3) := by decide +kernel
theorem dX4_back_21 : decode cX4_back 21 = .ok (.iconst 0, 1) := by decide +kernel
theorem dX4_back_22 : decode cX4_back 22 = .ok (.ireturn, 1) := by decide +kernel
set_option maxRecDepth 20000 in
theorem ggX4_jumps_X4_thingOf : GoodIn wsX4_jumps wsX4_thingOf := goodIn_r _ [5, 6, 7, 14, 15, 16, 17, 18, 19] (by decide +kernel) (by decide +kernel)
set_option maxRecDepth 20000 in
theorem gX4_jumps_X4_thingOf : GoodIn wsX4_jumps (wsV RX4 43 RX4 yX4_thingOf wsX4_thingOf) := goodIn_app (goodIn_of _ (by decide +kernel)) ggX4_jumps_X4_thingOf
set_option maxRecDepth 20000 in
theorem ggX4_jumps_X3_leftOut : GoodIn wsX4_jumps wsX3_leftOut := goodIn_r _ [12, 13, 20, 21, 22, 23, 24, 25, 26] (by decide +kernel) (by decide +kernel)
set_option maxRecDepth 20000 in
theorem gX4_jumps_X3_leftOut : GoodIn wsX4_jumps (wsV RX4 66 RX3 yX3_leftOut wsX3_leftOut) := goodIn_app (goodIn_of _ (by decide +kernel)) ggX4_jumps_X3_leftOut
end
section
theorem dX4_jumps_0 : decode cX4_jumps 0 = .ok (.aload_n 0, 1) := by decide +kernel
theorem dX4_jumps_1 : decode cX4_jumps 1 = .ok (.iload_n 1, 1) := by decide +kernel
theorem dX4_jumps_2 : decode cX4_jumps 2 = .ok (.invokevirtual 43, 3) := by decide +kernel
theorem dX4_jumps_5 : decode cX4_jumps 5 = .ok (.astore_n 2, 1) := by decide +kernel
theorem dX4_jumps_6 : decode cX4_jumps 6 = .ok (.aload_n 2, 1) := by decide +kernel
theorem dX4_jumps_7 : decode cX4_jumps 7 = .ok (.ifnonnull 7, 3) := by decide +kernel
theorem dX4_jumps_10 : decode cX4_jumps 10 = .ok (.iconst (-1), 1) := by decide +kernel
theorem dX4_jumps_11 : decode cX4_jumps 11 = .ok (.goto 7, 3) := by decide +kernel
theorem dX4_jumps_14 : decode cX4_jumps 14 = .ok (.aload_n 2, 1) := by decide +kernel
theorem dX4_jumps_15 : decode cX4_jumps 15 = .ok (.invokevirtual 66, 3) := by decide +kernel
theorem dX4_jumps_18 : decode cX4_jumps 18 = .ok (.ireturn, 1) := by decide +kernel
set_option maxRecDepth 20000 in
theorem ggX4_where_X4_thingOf : GoodIn wsX4_where wsX4_thingOf := goodIn_r _ [5, 6, 7, 30, 31, 32, 33, 34, 35] (by decide +kernel) (by decide +kernel)
set_option maxRecDepth 20000 in
theorem gX4_where_X4_thingOf : GoodIn wsX4_where (wsV RX4 43 RX4 yX4_thingOf wsX4_thingOf) := goodIn_app (goodIn_of _ (by decide +kernel)) ggX4_where_X4_thingOf
set_option maxRecDepth 20000 in
theorem ggX4_where_X4_isTick : GoodIn wsX4_where wsX4_isTick := goodIn_r _ [10] (by decide +kernel) (by decide +kernel)
set_option maxRecDepth 20000 in
theorem gX4_where_X4_isTick : GoodIn wsX4_where (va_wsS RX4 47 yX4_isTick wsX4_isTick) := goodIn_app (goodIn_of _ (by decide +kernel)) ggX4_where_X4_isTick
set_option maxRecDepth 20000 in
theorem ggX4_where_X3_reachAt : GoodIn wsX4_where wsX3_reachAt := goodIn_r _ [15, 16, 36, 37, 38, 39, 40, 41, 42] (by decide +kernel) (by decide +kernel)
set_option maxRecDepth 20000 in
theorem gX4_where_X3_reachAt : GoodIn wsX4_where (wsV RX4 69 RX3 yX3_reachAt wsX3_reachAt) := goodIn_app (goodIn_of _ (by decide +kernel)) ggX4_where_X3_reachAt
set_option maxRecDepth 20000 in
theorem ggX4_where_X0_size : GoodIn wsX4_where wsX0_size := goodIn_r _ [21, 22, 23, 24, 25, 26, 27, 28, 29] (by decide +kernel) (by decide +kernel)
set_option maxRecDepth 20000 in
theorem gX4_where_X0_size : GoodIn wsX4_where (wsV RX4 87 RX0 yX0_size wsX0_size) := goodIn_app (goodIn_of _ (by decide +kernel)) ggX4_where_X0_size
theorem dX4_where_0 : decode cX4_where 0 = .ok (.aload_n 0, 1) := by decide +kernel
theorem dX4_where_1 : decode cX4_where 1 = .ok (.iload_n 1, 1) := by decide +kernel
theorem dX4_where_2 : decode cX4_where 2 = .ok (.invokevirtual 43, 3) := by decide +kernel
theorem dX4_where_5 : decode cX4_where 5 = .ok (.astore 4, 2) := by decide +kernel
theorem dX4_where_7 : decode cX4_where 7 = .ok (.aload 4, 2) := by decide +kernel
theorem dX4_where_9 : decode cX4_where 9 = .ok (.ifnull 10, 3) := by decide +kernel
theorem dX4_where_12 : decode cX4_where 12 = .ok (.iload_n 2, 1) := by decide +kernel
theorem dX4_where_13 : decode cX4_where 13 = .ok (.invokestatic 47, 3) := by decide +kernel
theorem dX4_where_16 : decode cX4_where 16 = .ok (.ifCond .ne 5, 3) := by decide +kernel
theorem dX4_where_19 : decode cX4_where 19 = .ok (.iconst (-1), 1) := by decide +kernel
theorem dX4_where_20 : decode cX4_where 20 = .ok (.ireturn, 1) := by decide +kernel
theorem dX4_where_21 : decode cX4_where 21 = .ok (.aload 4, 2) := by decide +kernel
theorem dX4_where_23 : decode cX4_where 23 = .ok (.iload_n 2, 1) := by decide +kernel
theorem dX4_where_24 : decode cX4_where 24 = .ok (.invokevirtual 69, 3) := by decide +kernel
theorem dX4_where_27 : decode cX4_where 27 = .ok (.astore 5, 2) := by decide +kernel
theorem dX4_where_29 : decode cX4_where 29 = .ok (.iload_n 3, 1) := by decide +kernel
theorem dX4_where_30 : decode cX4_where 30 = .ok (.tableswitch 64 0 4 #[34, 40, 46, 52, 58], 34) := by decide +kernel
theorem dX4_where_64 : decode cX4_where 64 = .ok (.aload 5, 2) := by decide +kernel
theorem dX4_where_66 : decode cX4_where 66 = .ok (.getfield 73, 3) := by decide +kernel
theorem dX4_where_69 : decode cX4_where 69 = .ok (.ireturn, 1) := by decide +kernel
theorem dX4_where_70 : decode cX4_where 70 = .ok (.aload 5, 2) := by decide +kernel
theorem dX4_where_72 : decode cX4_where 72 = .ok (.getfield 78, 3) := by decide +kernel
theorem dX4_where_75 : decode cX4_where 75 = .ok (.ireturn, 1) := by decide +kernel
theorem dX4_where_76 : decode cX4_where 76 = .ok (.aload 5, 2) := by decide +kernel
theorem dX4_where_78 : decode cX4_where 78 = .ok (.getfield 81, 3) := by decide +kernel
theorem dX4_where_81 : decode cX4_where 81 = .ok (.ireturn, 1) := by decide +kernel
theorem dX4_where_82 : decode cX4_where 82 = .ok (.aload 5, 2) := by decide +kernel
theorem dX4_where_84 : decode cX4_where 84 = .ok (.getfield 84, 3) := by decide +kernel
theorem dX4_where_87 : decode cX4_where 87 = .ok (.ireturn, 1) := by decide +kernel
theorem dX4_where_88 : decode cX4_where 88 = .ok (.aload 5, 2) := by decide +kernel
theorem dX4_where_90 : decode cX4_where 90 = .ok (.invokevirtual 87, 3) := by decide +kernel
theorem dX4_where_93 : decode cX4_where 93 = .ok (.ireturn, 1) := by decide +kernel
theorem dX4_where_94 : decode cX4_where 94 = .ok (.iconst (-1), 1) := by decide +kernel
theorem dX4_where_95 : decode cX4_where 95 = .ok (.ireturn, 1) := by decide +kernel
set_option maxRecDepth 20000 in
theorem ggX4_ground_X1_init : GoodIn wsX4_ground wsX1_init := goodIn_r _ [8, 9, 10, 11, 12, 13, 20] (by decide +kernel) (by decide +kernel)
set_option maxRecDepth 20000 in
theorem gX4_ground_X1_init : GoodIn wsX4_ground (wsX1_init) := ggX4_ground_X1_init
theorem dX4_ground_0 : decode cX4_ground 0 = .ok (.aload_n 0, 1) := by decide +kernel
theorem dX4_ground_1 : decode cX4_ground 1 = .ok (.getfield 37, 3) := by decide +kernel
theorem dX4_ground_4 : decode cX4_ground 4 = .ok (.iconst 4, 1) := by decide +kernel
theorem dX4_ground_5 : decode cX4_ground 5 = .ok (.if_icmp .lt 5, 3) := by decide +kernel
theorem dX4_ground_8 : decode cX4_ground 8 = .ok (.iconst (-1), 1) := by decide +kernel
theorem dX4_ground_9 : decode cX4_ground 9 = .ok (.ireturn, 1) := by decide +kernel
theorem dX4_ground_10 : decode cX4_ground 10 = .ok (.aload_n 0, 1) := by decide +kernel
theorem dX4_ground_11 : decode cX4_ground 11 = .ok (.getfield 17, 3) := by decide +kernel
theorem dX4_ground_14 : decode cX4_ground 14 = .ok (.aload_n 0, 1) := by decide +kernel
theorem dX4_ground_15 : decode cX4_ground 15 = .ok (.getfield 37, 3) := by decide +kernel
theorem dX4_ground_18 : decode cX4_ground 18 = .ok (.new 15, 3) := by decide +kernel
theorem dX4_ground_21 : decode cX4_ground 21 = .ok (.dup, 1) := by decide +kernel
theorem dX4_ground_22 : decode cX4_ground 22 = .ok (.invokespecial 21, 3) := by decide +kernel
theorem dX4_ground_25 : decode cX4_ground 25 = .ok (.aastore, 1) := by decide +kernel
theorem dX4_ground_26 : decode cX4_ground 26 = .ok (.aload_n 0, 1) := by decide +kernel
theorem dX4_ground_27 : decode cX4_ground 27 = .ok (.dup, 1) := by decide +kernel
theorem dX4_ground_28 : decode cX4_ground 28 = .ok (.getfield 37, 3) := by decide +kernel
theorem dX4_ground_31 : decode cX4_ground 31 = .ok (.iconst 1, 1) := by decide +kernel
theorem dX4_ground_32 : decode cX4_ground 32 = .ok (.iadd, 1) := by decide +kernel
theorem dX4_ground_33 : decode cX4_ground 33 = .ok (.putfield 37, 3) := by decide +kernel
theorem dX4_ground_36 : decode cX4_ground 36 = .ok (.aload_n 0, 1) := by decide +kernel
theorem dX4_ground_37 : decode cX4_ground 37 = .ok (.getfield 37, 3) := by decide +kernel
theorem dX4_ground_40 : decode cX4_ground 40 = .ok (.iconst 1, 1) := by decide +kernel
theorem dX4_ground_41 : decode cX4_ground 41 = .ok (.isub, 1) := by decide +kernel
theorem dX4_ground_42 : decode cX4_ground 42 = .ok (.ireturn, 1) := by decide +kernel
set_option maxRecDepth 20000 in
theorem ggX4_draw_X4_groundOf : GoodIn wsX4_draw wsX4_groundOf := goodIn_r _ [8, 9, 10, 65, 66, 67, 68, 69, 70] (by decide +kernel) (by decide +kernel)
set_option maxRecDepth 20000 in
theorem gX4_draw_X4_groundOf : GoodIn wsX4_draw (wsV RX4 90 RX4 yX4_groundOf wsX4_groundOf) := goodIn_app (goodIn_of _ (by decide +kernel)) ggX4_draw_X4_groundOf
set_option maxRecDepth 20000 in
theorem ggX4_draw_X4_isPlace : GoodIn wsX4_draw wsX4_isPlace := goodIn_r _ [13] (by decide +kernel) (by decide +kernel)
set_option maxRecDepth 20000 in
theorem gX4_draw_X4_isPlace : GoodIn wsX4_draw (va_wsS RX4 51 yX4_isPlace wsX4_isPlace) := goodIn_app (goodIn_of _ (by decide +kernel)) ggX4_draw_X4_isPlace
set_option maxRecDepth 20000 in
theorem ggX4_draw_X4_xOf : GoodIn wsX4_draw wsX4_xOf := goodIn_r _ [16] (by decide +kernel) (by decide +kernel)
set_option maxRecDepth 20000 in
theorem gX4_draw_X4_xOf : GoodIn wsX4_draw (va_wsS RX4 94 yX4_xOf wsX4_xOf) := goodIn_app (goodIn_of _ (by decide +kernel)) ggX4_draw_X4_xOf
set_option maxRecDepth 20000 in
theorem ggX4_draw_X4_yOf : GoodIn wsX4_draw wsX4_yOf := goodIn_r _ [19] (by decide +kernel) (by decide +kernel)
set_option maxRecDepth 20000 in
theorem gX4_draw_X4_yOf : GoodIn wsX4_draw (va_wsS RX4 98 yX4_yOf wsX4_yOf) := goodIn_app (goodIn_of _ (by decide +kernel)) ggX4_draw_X4_yOf
set_option maxRecDepth 20000 in
theorem ggX4_draw_X0_init : GoodIn wsX4_draw wsX0_init := goodIn_r _ [22, 23, 24, 25, 26, 27, 28, 29, 61, 62, 63, 64] (by decide +kernel) (by decide +kernel)
set_option maxRecDepth 20000 in
theorem gX4_draw_X0_init : GoodIn wsX4_draw (wsX0_init) := ggX4_draw_X0_init
set_option maxRecDepth 20000 in
theorem ggX4_draw_X0_isEmpty : GoodIn wsX4_draw wsX0_isEmpty := goodIn_r _ [33, 26, 27, 28, 29, 61, 62, 63, 64] (by decide +kernel) (by decide +kernel)
set_option maxRecDepth 20000 in
theorem gX4_draw_X0_isEmpty : GoodIn wsX4_draw (wsV RX4 104 RX0 yX0_isEmpty wsX0_isEmpty) := goodIn_app (goodIn_of _ (by decide +kernel)) ggX4_draw_X0_isEmpty
set_option maxRecDepth 20000 in
theorem ggX4_draw_X1_add : GoodIn wsX4_draw wsX1_add := goodIn_r _ [38, 39, 40, 41, 42, 3, 43, 44, 29, 28, 61, 62, 63, 64, 71] (by decide +kernel) (by decide +kernel)
set_option maxRecDepth 20000 in
theorem gX4_draw_X1_add : GoodIn wsX4_draw (wsV RX4 107 RX1 yX1_add wsX1_add) := goodIn_app (goodIn_of _ (by decide +kernel)) ggX4_draw_X1_add
set_option maxRecDepth 20000 in
theorem ggX4_draw_X1_remove : GoodIn wsX4_draw wsX1_remove := goodIn_r _ [48, 39, 49, 40, 41, 42, 3, 43, 44, 29, 28, 61, 62, 63, 64, 71] (by decide +kernel) (by decide +kernel)
set_option maxRecDepth 20000 in
theorem gX4_draw_X1_remove : GoodIn wsX4_draw (wsV RX4 111 RX1 yX1_remove wsX1_remove) := goodIn_app (goodIn_of _ (by decide +kernel)) ggX4_draw_X1_remove
set_option maxRecDepth 20000 in
theorem ggX4_draw_X1_size : GoodIn wsX4_draw wsX1_size := goodIn_r _ [53, 39, 54, 55, 56, 57, 58, 59, 60, 71] (by decide +kernel) (by decide +kernel)
set_option maxRecDepth 20000 in
theorem gX4_draw_X1_size : GoodIn wsX4_draw (wsV RX4 114 RX1 yX1_size wsX1_size) := goodIn_app (goodIn_of _ (by decide +kernel)) ggX4_draw_X1_size
theorem dX4_draw_0 : decode cX4_draw 0 = .ok (.aload_n 0, 1) := by decide +kernel
theorem dX4_draw_1 : decode cX4_draw 1 = .ok (.iload_n 1, 1) := by decide +kernel
theorem dX4_draw_2 : decode cX4_draw 2 = .ok (.invokevirtual 90, 3) := by decide +kernel
theorem dX4_draw_5 : decode cX4_draw 5 = .ok (.astore 5, 2) := by decide +kernel
theorem dX4_draw_7 : decode cX4_draw 7 = .ok (.aload 5, 2) := by decide +kernel
theorem dX4_draw_9 : decode cX4_draw 9 = .ok (.ifnull 17, 3) := by decide +kernel
theorem dX4_draw_12 : decode cX4_draw 12 = .ok (.iload_n 2, 1) := by decide +kernel
theorem dX4_draw_13 : decode cX4_draw 13 = .ok (.invokestatic 51, 3) := by decide +kernel
theorem dX4_draw_16 : decode cX4_draw 16 = .ok (.ifCond .eq 10, 3) := by decide +kernel
theorem dX4_draw_19 : decode cX4_draw 19 = .ok (.iload_n 3, 1) := by decide +kernel
theorem dX4_draw_20 : decode cX4_draw 20 = .ok (.invokestatic 51, 3) := by decide +kernel
theorem dX4_draw_23 : decode cX4_draw 23 = .ok (.ifCond .ne 5, 3) := by decide +kernel
theorem dX4_draw_26 : decode cX4_draw 26 = .ok (.iconst (-1), 1) := by decide +kernel
theorem dX4_draw_27 : decode cX4_draw 27 = .ok (.ireturn, 1) := by decide +kernel
theorem dX4_draw_28 : decode cX4_draw 28 = .ok (.new 74, 3) := by decide +kernel
theorem dX4_draw_31 : decode cX4_draw 31 = .ok (.dup, 1) := by decide +kernel
theorem dX4_draw_32 : decode cX4_draw 32 = .ok (.iload_n 2, 1) := by decide +kernel
theorem dX4_draw_33 : decode cX4_draw 33 = .ok (.invokestatic 94, 3) := by decide +kernel
theorem dX4_draw_36 : decode cX4_draw 36 = .ok (.iload_n 3, 1) := by decide +kernel
theorem dX4_draw_37 : decode cX4_draw 37 = .ok (.invokestatic 94, 3) := by decide +kernel
theorem dX4_draw_40 : decode cX4_draw 40 = .ok (.iload_n 2, 1) := by decide +kernel
theorem dX4_draw_41 : decode cX4_draw 41 = .ok (.invokestatic 98, 3) := by decide +kernel
theorem dX4_draw_44 : decode cX4_draw 44 = .ok (.iload_n 3, 1) := by decide +kernel
theorem dX4_draw_45 : decode cX4_draw 45 = .ok (.invokestatic 98, 3) := by decide +kernel
theorem dX4_draw_48 : decode cX4_draw 48 = .ok (.invokespecial 101, 3) := by decide +kernel
theorem dX4_draw_51 : decode cX4_draw 51 = .ok (.astore 6, 2) := by decide +kernel
theorem dX4_draw_53 : decode cX4_draw 53 = .ok (.aload 6, 2) := by decide +kernel
theorem dX4_draw_55 : decode cX4_draw 55 = .ok (.invokevirtual 104, 3) := by decide +kernel
theorem dX4_draw_58 : decode cX4_draw 58 = .ok (.ifCond .eq 5, 3) := by decide +kernel
theorem dX4_draw_61 : decode cX4_draw 61 = .ok (.iconst (-1), 1) := by decide +kernel
theorem dX4_draw_62 : decode cX4_draw 62 = .ok (.ireturn, 1) := by decide +kernel
theorem dX4_draw_63 : decode cX4_draw 63 = .ok (.iload 4, 2) := by decide +kernel
theorem dX4_draw_65 : decode cX4_draw 65 = .ok (.ifCond .eq 13, 3) := by decide +kernel
theorem dX4_draw_68 : decode cX4_draw 68 = .ok (.aload 5, 2) := by decide +kernel
theorem dX4_draw_70 : decode cX4_draw 70 = .ok (.aload 6, 2) := by decide +kernel
theorem dX4_draw_72 : decode cX4_draw 72 = .ok (.invokevirtual 107, 3) := by decide +kernel
theorem dX4_draw_75 : decode cX4_draw 75 = .ok (.goto 10, 3) := by decide +kernel
theorem dX4_draw_78 : decode cX4_draw 78 = .ok (.aload 5, 2) := by decide +kernel
theorem dX4_draw_80 : decode cX4_draw 80 = .ok (.aload 6, 2) := by decide +kernel
theorem dX4_draw_82 : decode cX4_draw 82 = .ok (.invokevirtual 111, 3) := by decide +kernel
theorem dX4_draw_85 : decode cX4_draw 85 = .ok (.aload 5, 2) := by decide +kernel
theorem dX4_draw_87 : decode cX4_draw 87 = .ok (.invokevirtual 114, 3) := by decide +kernel
theorem dX4_draw_90 : decode cX4_draw 90 = .ok (.ireturn, 1) := by decide +kernel
set_option maxRecDepth 20000 in
theorem ggX4_has_X4_groundOf : GoodIn wsX4_has wsX4_groundOf := goodIn_r _ [5, 6, 7, 23, 24, 25, 26, 27, 28] (by decide +kernel) (by decide +kernel)
set_option maxRecDepth 20000 in
theorem gX4_has_X4_groundOf : GoodIn wsX4_has (wsV RX4 90 RX4 yX4_groundOf wsX4_groundOf) := goodIn_app (goodIn_of _ (by decide +kernel)) ggX4_has_X4_groundOf
set_option maxRecDepth 20000 in
theorem ggX4_has_X4_isPlace : GoodIn wsX4_has wsX4_isPlace := goodIn_r _ [10] (by decide +kernel) (by decide +kernel)
set_option maxRecDepth 20000 in
theorem gX4_has_X4_isPlace : GoodIn wsX4_has (va_wsS RX4 51 yX4_isPlace wsX4_isPlace) := goodIn_app (goodIn_of _ (by decide +kernel)) ggX4_has_X4_isPlace
set_option maxRecDepth 20000 in
theorem ggX4_has_X4_xOf : GoodIn wsX4_has wsX4_xOf := goodIn_r _ [13] (by decide +kernel) (by decide +kernel)
set_option maxRecDepth 20000 in
theorem gX4_has_X4_xOf : GoodIn wsX4_has (va_wsS RX4 94 yX4_xOf wsX4_xOf) := goodIn_app (goodIn_of _ (by decide +kernel)) ggX4_has_X4_xOf
set_option maxRecDepth 20000 in
theorem ggX4_has_X4_yOf : GoodIn wsX4_has wsX4_yOf := goodIn_r _ [16] (by decide +kernel) (by decide +kernel)
set_option maxRecDepth 20000 in
theorem gX4_has_X4_yOf : GoodIn wsX4_has (va_wsS RX4 98 yX4_yOf wsX4_yOf) := goodIn_app (goodIn_of _ (by decide +kernel)) ggX4_has_X4_yOf
set_option maxRecDepth 20000 in
theorem ggX4_has_X1_holds : GoodIn wsX4_has wsX1_holds := goodIn_r _ [21, 22, 29] (by decide +kernel) (by decide +kernel)
set_option maxRecDepth 20000 in
theorem gX4_has_X1_holds : GoodIn wsX4_has (wsV RX4 115 RX1 yX1_holds wsX1_holds) := goodIn_app (goodIn_of _ (by decide +kernel)) ggX4_has_X1_holds
theorem dX4_has_0 : decode cX4_has 0 = .ok (.aload_n 0, 1) := by decide +kernel
theorem dX4_has_1 : decode cX4_has 1 = .ok (.iload_n 1, 1) := by decide +kernel
theorem dX4_has_2 : decode cX4_has 2 = .ok (.invokevirtual 90, 3) := by decide +kernel
theorem dX4_has_5 : decode cX4_has 5 = .ok (.astore_n 3, 1) := by decide +kernel
theorem dX4_has_6 : decode cX4_has 6 = .ok (.aload_n 3, 1) := by decide +kernel
theorem dX4_has_7 : decode cX4_has 7 = .ok (.ifnull 29, 3) := by decide +kernel
theorem dX4_has_10 : decode cX4_has 10 = .ok (.iload_n 2, 1) := by decide +kernel
theorem dX4_has_11 : decode cX4_has 11 = .ok (.invokestatic 51, 3) := by decide +kernel
theorem dX4_has_14 : decode cX4_has 14 = .ok (.ifCond .eq 22, 3) := by decide +kernel
theorem dX4_has_17 : decode cX4_has 17 = .ok (.aload_n 3, 1) := by decide +kernel
theorem dX4_has_18 : decode cX4_has 18 = .ok (.iload_n 2, 1) := by decide +kernel
theorem dX4_has_19 : decode cX4_has 19 = .ok (.invokestatic 94, 3) := by decide +kernel
theorem dX4_has_22 : decode cX4_has 22 = .ok (.iload_n 2, 1) := by decide +kernel
theorem dX4_has_23 : decode cX4_has 23 = .ok (.invokestatic 98, 3) := by decide +kernel
theorem dX4_has_26 : decode cX4_has 26 = .ok (.invokevirtual 115, 3) := by decide +kernel
theorem dX4_has_29 : decode cX4_has 29 = .ok (.ifCond .eq 7, 3) := by decide +kernel
theorem dX4_has_32 : decode cX4_has 32 = .ok (.iconst 1, 1) := by decide +kernel
theorem dX4_has_33 : decode cX4_has 33 = .ok (.goto 4, 3) := by decide +kernel
theorem dX4_has_36 : decode cX4_has 36 = .ok (.iconst 0, 1) := by decide +kernel
theorem dX4_has_37 : decode cX4_has 37 = .ok (.ireturn, 1) := by decide +kernel
set_option maxRecDepth 20000 in
theorem ggX4_state_X4_thingOf : GoodIn wsX4_state wsX4_thingOf := goodIn_r _ [5, 6, 7, 44, 45, 46, 47, 48, 49] (by decide +kernel) (by decide +kernel)
set_option maxRecDepth 20000 in
theorem gX4_state_X4_thingOf : GoodIn wsX4_state (wsV RX4 43 RX4 yX4_thingOf wsX4_thingOf) := goodIn_app (goodIn_of _ (by decide +kernel)) ggX4_state_X4_thingOf
set_option maxRecDepth 20000 in
theorem ggX4_state_X4_groundOf : GoodIn wsX4_state wsX4_groundOf := goodIn_r _ [11, 12, 13, 44, 45, 46, 47, 48, 49] (by decide +kernel) (by decide +kernel)
set_option maxRecDepth 20000 in
theorem gX4_state_X4_groundOf : GoodIn wsX4_state (wsV RX4 90 RX4 yX4_groundOf wsX4_groundOf) := goodIn_app (goodIn_of _ (by decide +kernel)) ggX4_state_X4_groundOf
set_option maxRecDepth 20000 in
theorem ggX4_state_X4_isTick : GoodIn wsX4_state wsX4_isTick := goodIn_r _ [16] (by decide +kernel) (by decide +kernel)
set_option maxRecDepth 20000 in
theorem gX4_state_X4_isTick : GoodIn wsX4_state (va_wsS RX4 47 yX4_isTick wsX4_isTick) := goodIn_app (goodIn_of _ (by decide +kernel)) ggX4_state_X4_isTick
set_option maxRecDepth 20000 in
theorem ggX4_state_X4_stateOf : GoodIn wsX4_state wsX4_stateOf := goodIn_r _ [19, 20, 21, 22, 23, 24, 25, 26, 27, 28, 29, 30, 31, 32, 33, 34, 35, 36, 37, 38, 39, 40, 41, 42, 43, 50, 51, 52, 53, 54, 55, 56, 57, 58, 59, 60, 61] (by decide +kernel) (by decide +kernel)
set_option maxRecDepth 20000 in
theorem gX4_state_X4_stateOf : GoodIn wsX4_state (va_wsS RX4 119 yX4_stateOf wsX4_stateOf) := goodIn_app (goodIn_of _ (by decide +kernel)) ggX4_state_X4_stateOf
theorem dX4_state_0 : decode cX4_state 0 = .ok (.aload_n 0, 1) := by decide +kernel
theorem dX4_state_1 : decode cX4_state 1 = .ok (.iload_n 1, 1) := by decide +kernel
theorem dX4_state_2 : decode cX4_state 2 = .ok (.invokevirtual 43, 3) := by decide +kernel
theorem dX4_state_5 : decode cX4_state 5 = .ok (.astore 4, 2) := by decide +kernel
theorem dX4_state_7 : decode cX4_state 7 = .ok (.aload_n 0, 1) := by decide +kernel
theorem dX4_state_8 : decode cX4_state 8 = .ok (.iload_n 2, 1) := by decide +kernel
theorem dX4_state_9 : decode cX4_state 9 = .ok (.invokevirtual 90, 3) := by decide +kernel
theorem dX4_state_12 : decode cX4_state 12 = .ok (.astore 5, 2) := by decide +kernel
theorem dX4_state_14 : decode cX4_state 14 = .ok (.aload 4, 2) := by decide +kernel
theorem dX4_state_16 : decode cX4_state 16 = .ok (.ifnull 15, 3) := by decide +kernel
theorem dX4_state_19 : decode cX4_state 19 = .ok (.aload 5, 2) := by decide +kernel
theorem dX4_state_21 : decode cX4_state 21 = .ok (.ifnull 10, 3) := by decide +kernel
theorem dX4_state_24 : decode cX4_state 24 = .ok (.iload_n 3, 1) := by decide +kernel
theorem dX4_state_25 : decode cX4_state 25 = .ok (.invokestatic 47, 3) := by decide +kernel
theorem dX4_state_28 : decode cX4_state 28 = .ok (.ifCond .ne 5, 3) := by decide +kernel
theorem dX4_state_31 : decode cX4_state 31 = .ok (.iconst (-1), 1) := by decide +kernel
theorem dX4_state_32 : decode cX4_state 32 = .ok (.ireturn, 1) := by decide +kernel
theorem dX4_state_33 : decode cX4_state 33 = .ok (.aload 4, 2) := by decide +kernel
theorem dX4_state_35 : decode cX4_state 35 = .ok (.aload 5, 2) := by decide +kernel
theorem dX4_state_37 : decode cX4_state 37 = .ok (.iload_n 3, 1) := by decide +kernel
theorem dX4_state_38 : decode cX4_state 38 = .ok (.invokestatic 119, 3) := by decide +kernel
theorem dX4_state_41 : decode cX4_state 41 = .ok (.ireturn, 1) := by decide +kernel
set_option maxRecDepth 20000 in
theorem ggX4_entered_X4_thingOf : GoodIn wsX4_entered wsX4_thingOf := goodIn_r _ [6, 7, 8, 71, 72, 73, 74, 75, 76] (by decide +kernel) (by decide +kernel)
set_option maxRecDepth 20000 in
theorem gX4_entered_X4_thingOf : GoodIn wsX4_entered (wsV RX4 43 RX4 yX4_thingOf wsX4_thingOf) := goodIn_app (goodIn_of _ (by decide +kernel)) ggX4_entered_X4_thingOf
set_option maxRecDepth 20000 in
theorem ggX4_entered_X4_groundOf : GoodIn wsX4_entered wsX4_groundOf := goodIn_r _ [12, 13, 14, 71, 72, 73, 74, 75, 76] (by decide +kernel) (by decide +kernel)
set_option maxRecDepth 20000 in
theorem gX4_entered_X4_groundOf : GoodIn wsX4_entered (wsV RX4 90 RX4 yX4_groundOf wsX4_groundOf) := goodIn_app (goodIn_of _ (by decide +kernel)) ggX4_entered_X4_groundOf
set_option maxRecDepth 20000 in
theorem ggX4_entered_X4_isStretch : GoodIn wsX4_entered wsX4_isStretch := goodIn_r _ [17, 18, 19, 5, 20] (by decide +kernel) (by decide +kernel)
set_option maxRecDepth 20000 in
theorem gX4_entered_X4_isStretch : GoodIn wsX4_entered (va_wsS RX4 123 yX4_isStretch wsX4_isStretch) := goodIn_app (goodIn_of _ (by decide +kernel)) ggX4_entered_X4_isStretch
set_option maxRecDepth 20000 in
theorem ggX4_entered_X3_reachAt : GoodIn wsX4_entered wsX3_reachAt := goodIn_r _ [25, 26, 77, 78, 79, 80, 81, 82, 83] (by decide +kernel) (by decide +kernel)
set_option maxRecDepth 20000 in
theorem gX4_entered_X3_reachAt : GoodIn wsX4_entered (wsV RX4 69 RX3 yX3_reachAt wsX3_reachAt) := goodIn_app (goodIn_of _ (by decide +kernel)) ggX4_entered_X3_reachAt
set_option maxRecDepth 20000 in
theorem ggX4_entered_X1_setTo : GoodIn wsX4_entered wsX1_setTo := goodIn_r _ [31, 32, 33, 34, 35, 36, 37, 38, 39, 40, 84, 85, 86, 87, 88] (by decide +kernel) (by decide +kernel)
set_option maxRecDepth 20000 in
theorem gX4_entered_X1_setTo : GoodIn wsX4_entered (wsV RX4 126 RX1 yX1_setTo wsX1_setTo) := goodIn_app (goodIn_of _ (by decide +kernel)) ggX4_entered_X1_setTo
set_option maxRecDepth 20000 in
theorem ggX4_entered_X1_drop : GoodIn wsX4_entered wsX1_drop := goodIn_r _ [44, 32, 45, 84] (by decide +kernel) (by decide +kernel)
set_option maxRecDepth 20000 in
theorem gX4_entered_X1_drop : GoodIn wsX4_entered (wsV RX4 129 RX1 yX1_drop wsX1_drop) := goodIn_app (goodIn_of _ (by decide +kernel)) ggX4_entered_X1_drop
set_option maxRecDepth 20000 in
theorem ggX4_entered_X1_isEmpty : GoodIn wsX4_entered wsX1_isEmpty := goodIn_r _ [49, 32, 84] (by decide +kernel) (by decide +kernel)
set_option maxRecDepth 20000 in
theorem gX4_entered_X1_isEmpty : GoodIn wsX4_entered (wsV RX4 133 RX1 yX1_isEmpty wsX1_isEmpty) := goodIn_app (goodIn_of _ (by decide +kernel)) ggX4_entered_X1_isEmpty
set_option maxRecDepth 20000 in
theorem ggX4_entered_X3_advance : GoodIn wsX4_entered wsX3_advance := goodIn_r _ [53, 54, 26, 55, 56, 57, 30, 58, 59, 60, 61, 62, 63, 64, 65, 66, 32, 67, 68, 69, 70, 33, 34, 35, 36, 37, 38, 39, 40, 77, 78, 79, 80, 81, 82, 83, 84, 85, 86, 87, 88] (by decide +kernel) (by decide +kernel)
set_option maxRecDepth 20000 in
theorem gX4_entered_X3_advance : GoodIn wsX4_entered (wsV RX4 134 RX3 yX3_advance wsX3_advance) := goodIn_app (goodIn_of _ (by decide +kernel)) ggX4_entered_X3_advance
theorem dX4_entered_0 : decode cX4_entered 0 = .ok (.aload_n 0, 1) := by decide +kernel
theorem dX4_entered_1 : decode cX4_entered 1 = .ok (.iload_n 1, 1) := by decide +kernel
theorem dX4_entered_2 : decode cX4_entered 2 = .ok (.invokevirtual 43, 3) := by decide +kernel
theorem dX4_entered_5 : decode cX4_entered 5 = .ok (.astore 5, 2) := by decide +kernel
theorem dX4_entered_7 : decode cX4_entered 7 = .ok (.aload_n 0, 1) := by decide +kernel
theorem dX4_entered_8 : decode cX4_entered 8 = .ok (.iload_n 2, 1) := by decide +kernel
theorem dX4_entered_9 : decode cX4_entered 9 = .ok (.invokevirtual 90, 3) := by decide +kernel
theorem dX4_entered_12 : decode cX4_entered 12 = .ok (.astore 6, 2) := by decide +kernel
theorem dX4_entered_14 : decode cX4_entered 14 = .ok (.aload 5, 2) := by decide +kernel
theorem dX4_entered_16 : decode cX4_entered 16 = .ok (.ifnull 17, 3) := by decide +kernel
theorem dX4_entered_19 : decode cX4_entered 19 = .ok (.aload 6, 2) := by decide +kernel
theorem dX4_entered_21 : decode cX4_entered 21 = .ok (.ifnull 12, 3) := by decide +kernel
theorem dX4_entered_24 : decode cX4_entered 24 = .ok (.iload_n 3, 1) := by decide +kernel
theorem dX4_entered_25 : decode cX4_entered 25 = .ok (.iload 4, 2) := by decide +kernel
theorem dX4_entered_27 : decode cX4_entered 27 = .ok (.invokestatic 123, 3) := by decide +kernel
theorem dX4_entered_30 : decode cX4_entered 30 = .ok (.ifCond .ne 5, 3) := by decide +kernel
theorem dX4_entered_33 : decode cX4_entered 33 = .ok (.iconst (-1), 1) := by decide +kernel
theorem dX4_entered_34 : decode cX4_entered 34 = .ok (.ireturn, 1) := by decide +kernel
theorem dX4_entered_35 : decode cX4_entered 35 = .ok (.aload_n 0, 1) := by decide +kernel
theorem dX4_entered_36 : decode cX4_entered 36 = .ok (.getfield 22, 3) := by decide +kernel
theorem dX4_entered_39 : decode cX4_entered 39 = .ok (.aload 5, 2) := by decide +kernel
theorem dX4_entered_41 : decode cX4_entered 41 = .ok (.iload_n 3, 1) := by decide +kernel
theorem dX4_entered_42 : decode cX4_entered 42 = .ok (.invokevirtual 69, 3) := by decide +kernel
theorem dX4_entered_45 : decode cX4_entered 45 = .ok (.invokevirtual 126, 3) := by decide +kernel
theorem dX4_entered_48 : decode cX4_entered 48 = .ok (.aload_n 0, 1) := by decide +kernel
theorem dX4_entered_49 : decode cX4_entered 49 = .ok (.getfield 22, 3) := by decide +kernel
theorem dX4_entered_52 : decode cX4_entered 52 = .ok (.aload 6, 2) := by decide +kernel
theorem dX4_entered_54 : decode cX4_entered 54 = .ok (.invokevirtual 129, 3) := by decide +kernel
theorem dX4_entered_57 : decode cX4_entered 57 = .ok (.iload_n 3, 1) := by decide +kernel
theorem dX4_entered_58 : decode cX4_entered 58 = .ok (.istore 7, 2) := by decide +kernel
theorem dX4_entered_60 : decode cX4_entered 60 = .ok (.iload 7, 2) := by decide +kernel
theorem dX4_entered_62 : decode cX4_entered 62 = .ok (.iload 4, 2) := by decide +kernel
theorem dX4_entered_64 : decode cX4_entered 64 = .ok (.if_icmp .ge 39, 3) := by decide +kernel
theorem dX4_entered_67 : decode cX4_entered 67 = .ok (.aload_n 0, 1) := by decide +kernel
theorem dX4_entered_68 : decode cX4_entered 68 = .ok (.getfield 22, 3) := by decide +kernel
theorem dX4_entered_71 : decode cX4_entered 71 = .ok (.invokevirtual 133, 3) := by decide +kernel
theorem dX4_entered_74 : decode cX4_entered 74 = .ok (.ifCond .ne 29, 3) := by decide +kernel
theorem dX4_entered_77 : decode cX4_entered 77 = .ok (.iinc 7 1, 3) := by decide +kernel
theorem dX4_entered_80 : decode cX4_entered 80 = .ok (.aload 5, 2) := by decide +kernel
theorem dX4_entered_82 : decode cX4_entered 82 = .ok (.aload_n 0, 1) := by decide +kernel
theorem dX4_entered_83 : decode cX4_entered 83 = .ok (.getfield 22, 3) := by decide +kernel
theorem dX4_entered_86 : decode cX4_entered 86 = .ok (.iload 7, 2) := by decide +kernel
theorem dX4_entered_88 : decode cX4_entered 88 = .ok (.invokevirtual 134, 3) := by decide +kernel
theorem dX4_entered_91 : decode cX4_entered 91 = .ok (.aload_n 0, 1) := by decide +kernel
theorem dX4_entered_92 : decode cX4_entered 92 = .ok (.getfield 22, 3) := by decide +kernel
theorem dX4_entered_95 : decode cX4_entered 95 = .ok (.aload 6, 2) := by decide +kernel
theorem dX4_entered_97 : decode cX4_entered 97 = .ok (.invokevirtual 129, 3) := by decide +kernel
theorem dX4_entered_100 : decode cX4_entered 100 = .ok (.goto (-40), 3) := by decide +kernel
theorem dX4_entered_103 : decode cX4_entered 103 = .ok (.aload_n 0, 1) := by decide +kernel
theorem dX4_entered_104 : decode cX4_entered 104 = .ok (.getfield 22, 3) := by decide +kernel
theorem dX4_entered_107 : decode cX4_entered 107 = .ok (.invokevirtual 133, 3) := by decide +kernel
theorem dX4_entered_110 : decode cX4_entered 110 = .ok (.ifCond .eq 8, 3) := by decide +kernel
theorem dX4_entered_113 : decode cX4_entered 113 = .ok (.iload 7, 2) := by decide +kernel
theorem dX4_entered_115 : decode cX4_entered 115 = .ok (.goto 4, 3) := by decide +kernel
theorem dX4_entered_118 : decode cX4_entered 118 = .ok (.iconst (-1), 1) := by decide +kernel
theorem dX4_entered_119 : decode cX4_entered 119 = .ok (.ireturn, 1) := by decide +kernel
set_option maxRecDepth 20000 in
theorem ggX4_stay_X4_thingOf : GoodIn wsX4_stay wsX4_thingOf := goodIn_r _ [7, 8, 9, 104, 105, 106, 107, 108, 109] (by decide +kernel) (by decide +kernel)
set_option maxRecDepth 20000 in
theorem gX4_stay_X4_thingOf : GoodIn wsX4_stay (wsV RX4 43 RX4 yX4_thingOf wsX4_thingOf) := goodIn_app (goodIn_of _ (by decide +kernel)) ggX4_stay_X4_thingOf
set_option maxRecDepth 20000 in
theorem ggX4_stay_X4_groundOf : GoodIn wsX4_stay wsX4_groundOf := goodIn_r _ [13, 14, 15, 104, 105, 106, 107, 108, 109] (by decide +kernel) (by decide +kernel)
set_option maxRecDepth 20000 in
theorem gX4_stay_X4_groundOf : GoodIn wsX4_stay (wsV RX4 90 RX4 yX4_groundOf wsX4_groundOf) := goodIn_app (goodIn_of _ (by decide +kernel)) ggX4_stay_X4_groundOf
set_option maxRecDepth 20000 in
theorem ggX4_stay_X4_isStretch : GoodIn wsX4_stay wsX4_isStretch := goodIn_r _ [18, 19, 20, 6, 21] (by decide +kernel) (by decide +kernel)
set_option maxRecDepth 20000 in
theorem gX4_stay_X4_isStretch : GoodIn wsX4_stay (va_wsS RX4 123 yX4_isStretch wsX4_isStretch) := goodIn_app (goodIn_of _ (by decide +kernel)) ggX4_stay_X4_isStretch
set_option maxRecDepth 20000 in
theorem ggX4_stay_X2_fewest : GoodIn wsX4_stay wsX2_fewest := goodIn_r _ [26, 27, 28, 29, 30, 31, 25, 32, 33, 34, 35, 36, 37, 38, 39, 40, 41, 42, 43, 44, 45, 46, 47, 48, 49, 50, 51, 52, 53, 54, 55, 56, 57, 58, 59, 60, 61, 62, 63, 64, 65, 66, 67, 68, 69, 70, 71, 72, 73, 74, 75, 76, 77, 78, 79, 80, 81, 82, 83, 84, 85, 86, 87, 88, 89, 90, 91, 92, 93, 94, 95, 96, 97, 98, 99, 110, 111, 112, 113, 114, 115, 116, 117, 118, 119, 120, 121, 122, 123, 124] (by decide +kernel) (by decide +kernel)
set_option maxRecDepth 20000 in
theorem gX4_stay_X2_fewest : GoodIn wsX4_stay (wsV RX4 138 RX2 yX2_fewest wsX2_fewest) := goodIn_app (goodIn_of _ (by decide +kernel)) ggX4_stay_X2_fewest
set_option maxRecDepth 20000 in
theorem ggX4_stay_X1_setToAllBut : GoodIn wsX4_stay wsX1_setToAllBut := goodIn_r _ [103, 54, 83, 120] (by decide +kernel) (by decide +kernel)
set_option maxRecDepth 20000 in
theorem gX4_stay_X1_setToAllBut : GoodIn wsX4_stay (wsV RX4 142 RX1 yX1_setToAllBut wsX1_setToAllBut) := goodIn_app (goodIn_of _ (by decide +kernel)) ggX4_stay_X1_setToAllBut
theorem dX4_stay_0 : decode cX4_stay 0 = .ok (.aload_n 0, 1) := by decide +kernel
theorem dX4_stay_1 : decode cX4_stay 1 = .ok (.iload_n 1, 1) := by decide +kernel
theorem dX4_stay_2 : decode cX4_stay 2 = .ok (.invokevirtual 43, 3) := by decide +kernel
theorem dX4_stay_5 : decode cX4_stay 5 = .ok (.astore 6, 2) := by decide +kernel
theorem dX4_stay_7 : decode cX4_stay 7 = .ok (.aload_n 0, 1) := by decide +kernel
theorem dX4_stay_8 : decode cX4_stay 8 = .ok (.iload_n 2, 1) := by decide +kernel
theorem dX4_stay_9 : decode cX4_stay 9 = .ok (.invokevirtual 90, 3) := by decide +kernel
theorem dX4_stay_12 : decode cX4_stay 12 = .ok (.astore 7, 2) := by decide +kernel
theorem dX4_stay_14 : decode cX4_stay 14 = .ok (.aload 6, 2) := by decide +kernel
theorem dX4_stay_16 : decode cX4_stay 16 = .ok (.ifnull 17, 3) := by decide +kernel
theorem dX4_stay_19 : decode cX4_stay 19 = .ok (.aload 7, 2) := by decide +kernel
theorem dX4_stay_21 : decode cX4_stay 21 = .ok (.ifnull 12, 3) := by decide +kernel
theorem dX4_stay_24 : decode cX4_stay 24 = .ok (.iload_n 3, 1) := by decide +kernel
theorem dX4_stay_25 : decode cX4_stay 25 = .ok (.iload 4, 2) := by decide +kernel
theorem dX4_stay_27 : decode cX4_stay 27 = .ok (.invokestatic 123, 3) := by decide +kernel
theorem dX4_stay_30 : decode cX4_stay 30 = .ok (.ifCond .ne 5, 3) := by decide +kernel
theorem dX4_stay_33 : decode cX4_stay 33 = .ok (.iconst (-1), 1) := by decide +kernel
theorem dX4_stay_34 : decode cX4_stay 34 = .ok (.ireturn, 1) := by decide +kernel
theorem dX4_stay_35 : decode cX4_stay 35 = .ok (.iload 5, 2) := by decide +kernel
theorem dX4_stay_37 : decode cX4_stay 37 = .ok (.lookupswitch 75 #[(0, 27), (1, 42)], 27) := by decide +kernel
theorem dX4_stay_64 : decode cX4_stay 64 = .ok (.aload_n 0, 1) := by decide +kernel
theorem dX4_stay_65 : decode cX4_stay 65 = .ok (.getfield 29, 3) := by decide +kernel
theorem dX4_stay_68 : decode cX4_stay 68 = .ok (.aload 6, 2) := by decide +kernel
theorem dX4_stay_70 : decode cX4_stay 70 = .ok (.aload 7, 2) := by decide +kernel
theorem dX4_stay_72 : decode cX4_stay 72 = .ok (.iload_n 3, 1) := by decide +kernel
theorem dX4_stay_73 : decode cX4_stay 73 = .ok (.iload 4, 2) := by decide +kernel
theorem dX4_stay_75 : decode cX4_stay 75 = .ok (.invokevirtual 138, 3) := by decide +kernel
theorem dX4_stay_78 : decode cX4_stay 78 = .ok (.ireturn, 1) := by decide +kernel
theorem dX4_stay_79 : decode cX4_stay 79 = .ok (.aload_n 0, 1) := by decide +kernel
theorem dX4_stay_80 : decode cX4_stay 80 = .ok (.getfield 22, 3) := by decide +kernel
theorem dX4_stay_83 : decode cX4_stay 83 = .ok (.aload 7, 2) := by decide +kernel
theorem dX4_stay_85 : decode cX4_stay 85 = .ok (.invokevirtual 142, 3) := by decide +kernel
theorem dX4_stay_88 : decode cX4_stay 88 = .ok (.iload 4, 2) := by decide +kernel
theorem dX4_stay_90 : decode cX4_stay 90 = .ok (.iload_n 3, 1) := by decide +kernel
theorem dX4_stay_91 : decode cX4_stay 91 = .ok (.isub, 1) := by decide +kernel
theorem dX4_stay_92 : decode cX4_stay 92 = .ok (.iconst 1, 1) := by decide +kernel
theorem dX4_stay_93 : decode cX4_stay 93 = .ok (.iadd, 1) := by decide +kernel
theorem dX4_stay_94 : decode cX4_stay 94 = .ok (.aload_n 0, 1) := by decide +kernel
theorem dX4_stay_95 : decode cX4_stay 95 = .ok (.getfield 29, 3) := by decide +kernel
theorem dX4_stay_98 : decode cX4_stay 98 = .ok (.aload 6, 2) := by decide +kernel
theorem dX4_stay_100 : decode cX4_stay 100 = .ok (.aload_n 0, 1) := by decide +kernel
theorem dX4_stay_101 : decode cX4_stay 101 = .ok (.getfield 22, 3) := by decide +kernel
theorem dX4_stay_104 : decode cX4_stay 104 = .ok (.iload_n 3, 1) := by decide +kernel
theorem dX4_stay_105 : decode cX4_stay 105 = .ok (.iload 4, 2) := by decide +kernel
theorem dX4_stay_107 : decode cX4_stay 107 = .ok (.invokevirtual 138, 3) := by decide +kernel
theorem dX4_stay_110 : decode cX4_stay 110 = .ok (.isub, 1) := by decide +kernel
theorem dX4_stay_111 : decode cX4_stay 111 = .ok (.ireturn, 1) := by decide +kernel
theorem dX4_stay_112 : decode cX4_stay 112 = .ok (.iconst (-1), 1) := by decide +kernel
theorem dX4_stay_113 : decode cX4_stay 113 = .ok (.ireturn, 1) := by decide +kernel
set_option maxRecDepth 20000 in
theorem ggX4_look_X4_thingOf : GoodIn wsX4_look wsX4_thingOf := goodIn_r _ [9, 10, 11, 48, 49, 50, 51, 52, 53] (by decide +kernel) (by decide +kernel)
set_option maxRecDepth 20000 in
theorem gX4_look_X4_thingOf : GoodIn wsX4_look (wsV RX4 43 RX4 yX4_thingOf wsX4_thingOf) := goodIn_app (goodIn_of _ (by decide +kernel)) ggX4_look_X4_thingOf
set_option maxRecDepth 20000 in
theorem ggX4_look_X4_groundOf : GoodIn wsX4_look wsX4_groundOf := goodIn_r _ [15, 16, 17, 48, 49, 50, 51, 52, 53] (by decide +kernel) (by decide +kernel)
set_option maxRecDepth 20000 in
theorem gX4_look_X4_groundOf : GoodIn wsX4_look (wsV RX4 90 RX4 yX4_groundOf wsX4_groundOf) := goodIn_app (goodIn_of _ (by decide +kernel)) ggX4_look_X4_groundOf
set_option maxRecDepth 20000 in
theorem ggX4_look_X4_isTick : GoodIn wsX4_look wsX4_isTick := goodIn_r _ [20] (by decide +kernel) (by decide +kernel)
set_option maxRecDepth 20000 in
theorem gX4_look_X4_isTick : GoodIn wsX4_look (va_wsS RX4 47 yX4_isTick wsX4_isTick) := goodIn_app (goodIn_of _ (by decide +kernel)) ggX4_look_X4_isTick
set_option maxRecDepth 20000 in
theorem ggX4_look_X4_stateOf : GoodIn wsX4_look wsX4_stateOf := goodIn_r _ [23, 24, 25, 26, 27, 28, 29, 30, 31, 32, 33, 34, 35, 36, 37, 38, 39, 40, 41, 42, 43, 44, 45, 46, 47, 54, 55, 56, 57, 58, 59, 60, 61, 62, 63, 64, 65] (by decide +kernel) (by decide +kernel)
set_option maxRecDepth 20000 in
theorem gX4_look_X4_stateOf : GoodIn wsX4_look (va_wsS RX4 119 yX4_stateOf wsX4_stateOf) := goodIn_app (goodIn_of _ (by decide +kernel)) ggX4_look_X4_stateOf
theorem dX4_look_0 : decode cX4_look 0 = .ok (.aload_n 0, 1) := by decide +kernel
theorem dX4_look_1 : decode cX4_look 1 = .ok (.iload_n 1, 1) := by decide +kernel
theorem dX4_look_2 : decode cX4_look 2 = .ok (.invokevirtual 43, 3) := by decide +kernel
theorem dX4_look_5 : decode cX4_look 5 = .ok (.astore 5, 2) := by decide +kernel
theorem dX4_look_7 : decode cX4_look 7 = .ok (.aload_n 0, 1) := by decide +kernel
theorem dX4_look_8 : decode cX4_look 8 = .ok (.iload_n 2, 1) := by decide +kernel
theorem dX4_look_9 : decode cX4_look 9 = .ok (.invokevirtual 90, 3) := by decide +kernel
theorem dX4_look_12 : decode cX4_look 12 = .ok (.astore 6, 2) := by decide +kernel
theorem dX4_look_14 : decode cX4_look 14 = .ok (.aload 5, 2) := by decide +kernel
theorem dX4_look_16 : decode cX4_look 16 = .ok (.ifnull 15, 3) := by decide +kernel
theorem dX4_look_19 : decode cX4_look 19 = .ok (.aload 6, 2) := by decide +kernel
theorem dX4_look_21 : decode cX4_look 21 = .ok (.ifnull 10, 3) := by decide +kernel
theorem dX4_look_24 : decode cX4_look 24 = .ok (.iload_n 3, 1) := by decide +kernel
theorem dX4_look_25 : decode cX4_look 25 = .ok (.invokestatic 47, 3) := by decide +kernel
theorem dX4_look_28 : decode cX4_look 28 = .ok (.ifCond .ne 5, 3) := by decide +kernel
theorem dX4_look_31 : decode cX4_look 31 = .ok (.iconst (-1), 1) := by decide +kernel
theorem dX4_look_32 : decode cX4_look 32 = .ok (.ireturn, 1) := by decide +kernel
theorem dX4_look_33 : decode cX4_look 33 = .ok (.iload 4, 2) := by decide +kernel
theorem dX4_look_35 : decode cX4_look 35 = .ok (.ifCond .lt 21, 3) := by decide +kernel
theorem dX4_look_38 : decode cX4_look 38 = .ok (.iload 4, 2) := by decide +kernel
theorem dX4_look_40 : decode cX4_look 40 = .ok (.bipush 79, 2) := by decide +kernel
theorem dX4_look_42 : decode cX4_look 42 = .ok (.if_icmp .gt 14, 3) := by decide +kernel
theorem dX4_look_45 : decode cX4_look 45 = .ok (.aload 5, 2) := by decide +kernel
theorem dX4_look_47 : decode cX4_look 47 = .ok (.aload 6, 2) := by decide +kernel
theorem dX4_look_49 : decode cX4_look 49 = .ok (.iload_n 3, 1) := by decide +kernel
theorem dX4_look_50 : decode cX4_look 50 = .ok (.invokestatic 119, 3) := by decide +kernel
theorem dX4_look_53 : decode cX4_look 53 = .ok (.ifCond .eq 5, 3) := by decide +kernel
theorem dX4_look_56 : decode cX4_look 56 = .ok (.iconst (-1), 1) := by decide +kernel
theorem dX4_look_57 : decode cX4_look 57 = .ok (.ireturn, 1) := by decide +kernel
theorem dX4_look_58 : decode cX4_look 58 = .ok (.iload_n 3, 1) := by decide +kernel
theorem dX4_look_59 : decode cX4_look 59 = .ok (.iconst 1, 1) := by decide +kernel
theorem dX4_look_60 : decode cX4_look 60 = .ok (.iadd, 1) := by decide +kernel
theorem dX4_look_61 : decode cX4_look 61 = .ok (.istore 7, 2) := by decide +kernel
theorem dX4_look_63 : decode cX4_look 63 = .ok (.iload 7, 2) := by decide +kernel
theorem dX4_look_65 : decode cX4_look 65 = .ok (.bipush 80, 2) := by decide +kernel
theorem dX4_look_67 : decode cX4_look 67 = .ok (.if_icmp .ge 32, 3) := by decide +kernel
theorem dX4_look_70 : decode cX4_look 70 = .ok (.aload 5, 2) := by decide +kernel
theorem dX4_look_72 : decode cX4_look 72 = .ok (.aload 6, 2) := by decide +kernel
theorem dX4_look_74 : decode cX4_look 74 = .ok (.iload 7, 2) := by decide +kernel
theorem dX4_look_76 : decode cX4_look 76 = .ok (.invokestatic 119, 3) := by decide +kernel
theorem dX4_look_79 : decode cX4_look 79 = .ok (.ifCond .eq 14, 3) := by decide +kernel
theorem dX4_look_82 : decode cX4_look 82 = .ok (.iload 7, 2) := by decide +kernel
theorem dX4_look_84 : decode cX4_look 84 = .ok (.iload 4, 2) := by decide +kernel
theorem dX4_look_86 : decode cX4_look 86 = .ok (.iadd, 1) := by decide +kernel
theorem dX4_look_87 : decode cX4_look 87 = .ok (.bipush 79, 2) := by decide +kernel
theorem dX4_look_89 : decode cX4_look 89 = .ok (.invokestatic 145, 3) := by decide +kernel
theorem dX4_look_92 : decode cX4_look 92 = .ok (.ireturn, 1) := by decide +kernel
theorem dX4_look_93 : decode cX4_look 93 = .ok (.iinc 7 1, 3) := by decide +kernel
theorem dX4_look_96 : decode cX4_look 96 = .ok (.goto (-33), 3) := by decide +kernel
theorem dX4_look_99 : decode cX4_look 99 = .ok (.bipush 79, 2) := by decide +kernel
theorem dX4_look_101 : decode cX4_look 101 = .ok (.ireturn, 1) := by decide +kernel
set_option maxRecDepth 20000 in
theorem ggX4_apart_X4_thingOf : GoodIn wsX4_apart wsX4_thingOf := goodIn_r _ [5, 6, 7, 34, 35, 36, 37, 38, 39] (by decide +kernel) (by decide +kernel)
set_option maxRecDepth 20000 in
theorem gX4_apart_X4_thingOf : GoodIn wsX4_apart (wsV RX4 43 RX4 yX4_thingOf wsX4_thingOf) := goodIn_app (goodIn_of _ (by decide +kernel)) ggX4_apart_X4_thingOf
set_option maxRecDepth 20000 in
theorem ggX4_apart_X4_isTick : GoodIn wsX4_apart wsX4_isTick := goodIn_r _ [10] (by decide +kernel) (by decide +kernel)
set_option maxRecDepth 20000 in
theorem gX4_apart_X4_isTick : GoodIn wsX4_apart (va_wsS RX4 47 yX4_isTick wsX4_isTick) := goodIn_app (goodIn_of _ (by decide +kernel)) ggX4_apart_X4_isTick
set_option maxRecDepth 20000 in
theorem ggX4_apart_X3_reachAt : GoodIn wsX4_apart wsX3_reachAt := goodIn_r _ [15, 16, 40, 41, 42, 43, 44, 45, 46] (by decide +kernel) (by decide +kernel)
set_option maxRecDepth 20000 in
theorem gX4_apart_X3_reachAt : GoodIn wsX4_apart (wsV RX4 69 RX3 yX3_reachAt wsX3_reachAt) := goodIn_app (goodIn_of _ (by decide +kernel)) ggX4_apart_X3_reachAt
set_option maxRecDepth 20000 in
theorem ggX4_apart_X0_leastApart : GoodIn wsX4_apart wsX0_leastApart := goodIn_r _ [21, 22, 23, 24, 25, 26, 27, 28, 29, 47, 48, 49, 50] (by decide +kernel) (by decide +kernel)
set_option maxRecDepth 20000 in
theorem gX4_apart_X0_leastApart : GoodIn wsX4_apart (wsV RX4 151 RX0 yX0_leastApart wsX0_leastApart) := goodIn_app (goodIn_of _ (by decide +kernel)) ggX4_apart_X0_leastApart
set_option maxRecDepth 20000 in
theorem ggX4_apart_X0_mostApart : GoodIn wsX4_apart wsX0_mostApart := goodIn_r _ [33, 23, 22, 24, 25, 26, 27, 29, 28, 47, 48, 49, 50] (by decide +kernel) (by decide +kernel)
set_option maxRecDepth 20000 in
theorem gX4_apart_X0_mostApart : GoodIn wsX4_apart (wsV RX4 155 RX0 yX0_mostApart wsX0_mostApart) := goodIn_app (goodIn_of _ (by decide +kernel)) ggX4_apart_X0_mostApart
theorem dX4_apart_0 : decode cX4_apart 0 = .ok (.aload_n 0, 1) := by decide +kernel
theorem dX4_apart_1 : decode cX4_apart 1 = .ok (.iload_n 1, 1) := by decide +kernel
theorem dX4_apart_2 : decode cX4_apart 2 = .ok (.invokevirtual 43, 3) := by decide +kernel
theorem dX4_apart_5 : decode cX4_apart 5 = .ok (.astore 5, 2) := by decide +kernel
theorem dX4_apart_7 : decode cX4_apart 7 = .ok (.aload_n 0, 1) := by decide +kernel
theorem dX4_apart_8 : decode cX4_apart 8 = .ok (.iload_n 2, 1) := by decide +kernel
theorem dX4_apart_9 : decode cX4_apart 9 = .ok (.invokevirtual 43, 3) := by decide +kernel
theorem dX4_apart_12 : decode cX4_apart 12 = .ok (.astore 6, 2) := by decide +kernel
theorem dX4_apart_14 : decode cX4_apart 14 = .ok (.aload 5, 2) := by decide +kernel
theorem dX4_apart_16 : decode cX4_apart 16 = .ok (.ifnull 20, 3) := by decide +kernel
theorem dX4_apart_19 : decode cX4_apart 19 = .ok (.aload 6, 2) := by decide +kernel
theorem dX4_apart_21 : decode cX4_apart 21 = .ok (.ifnull 15, 3) := by decide +kernel
theorem dX4_apart_24 : decode cX4_apart 24 = .ok (.iload_n 1, 1) := by decide +kernel
theorem dX4_apart_25 : decode cX4_apart 25 = .ok (.iload_n 2, 1) := by decide +kernel
theorem dX4_apart_26 : decode cX4_apart 26 = .ok (.if_icmp .eq 10, 3) := by decide +kernel
theorem dX4_apart_29 : decode cX4_apart 29 = .ok (.iload_n 3, 1) := by decide +kernel
theorem dX4_apart_30 : decode cX4_apart 30 = .ok (.invokestatic 47, 3) := by decide +kernel
theorem dX4_apart_33 : decode cX4_apart 33 = .ok (.ifCond .ne 5, 3) := by decide +kernel
theorem dX4_apart_36 : decode cX4_apart 36 = .ok (.iconst (-1), 1) := by decide +kernel
theorem dX4_apart_37 : decode cX4_apart 37 = .ok (.ireturn, 1) := by decide +kernel
theorem dX4_apart_38 : decode cX4_apart 38 = .ok (.aload 5, 2) := by decide +kernel
theorem dX4_apart_40 : decode cX4_apart 40 = .ok (.iload_n 3, 1) := by decide +kernel
theorem dX4_apart_41 : decode cX4_apart 41 = .ok (.invokevirtual 69, 3) := by decide +kernel
theorem dX4_apart_44 : decode cX4_apart 44 = .ok (.astore 7, 2) := by decide +kernel
theorem dX4_apart_46 : decode cX4_apart 46 = .ok (.aload 6, 2) := by decide +kernel
theorem dX4_apart_48 : decode cX4_apart 48 = .ok (.iload_n 3, 1) := by decide +kernel
theorem dX4_apart_49 : decode cX4_apart 49 = .ok (.invokevirtual 69, 3) := by decide +kernel
theorem dX4_apart_52 : decode cX4_apart 52 = .ok (.astore 8, 2) := by decide +kernel
theorem dX4_apart_54 : decode cX4_apart 54 = .ok (.iload 4, 2) := by decide +kernel
theorem dX4_apart_56 : decode cX4_apart 56 = .ok (.lookupswitch 44 #[(0, 28), (1, 36)], 28) := by decide +kernel
theorem dX4_apart_84 : decode cX4_apart 84 = .ok (.aload 7, 2) := by decide +kernel
theorem dX4_apart_86 : decode cX4_apart 86 = .ok (.aload 8, 2) := by decide +kernel
theorem dX4_apart_88 : decode cX4_apart 88 = .ok (.invokevirtual 151, 3) := by decide +kernel
theorem dX4_apart_91 : decode cX4_apart 91 = .ok (.ireturn, 1) := by decide +kernel
theorem dX4_apart_92 : decode cX4_apart 92 = .ok (.aload 7, 2) := by decide +kernel
theorem dX4_apart_94 : decode cX4_apart 94 = .ok (.aload 8, 2) := by decide +kernel
theorem dX4_apart_96 : decode cX4_apart 96 = .ok (.invokevirtual 155, 3) := by decide +kernel
theorem dX4_apart_99 : decode cX4_apart 99 = .ok (.ireturn, 1) := by decide +kernel
theorem dX4_apart_100 : decode cX4_apart 100 = .ok (.iconst (-1), 1) := by decide +kernel
theorem dX4_apart_101 : decode cX4_apart 101 = .ok (.ireturn, 1) := by decide +kernel
set_option maxRecDepth 20000 in
theorem ggX4_count_X4_sightsOfAll : GoodIn wsX4_count wsX4_sightsOfAll := goodIn_r _ [7, 1, 8, 9, 10, 11, 12, 13, 14, 15, 16, 17, 18, 19, 20, 21, 22, 23, 24, 25, 26, 27] (by decide +kernel) (by decide +kernel)
set_option maxRecDepth 20000 in
theorem gX4_count_X4_sightsOfAll : GoodIn wsX4_count (wsV RX4 158 RX4 yX4_sightsOfAll wsX4_sightsOfAll) := goodIn_app (goodIn_of _ (by decide +kernel)) ggX4_count_X4_sightsOfAll
theorem dX4_count_0 : decode cX4_count 0 = .ok (.iload_n 1, 1) := by decide +kernel
theorem dX4_count_1 : decode cX4_count 1 = .ok (.tableswitch 42 0 2 #[27, 32, 37], 27) := by decide +kernel
theorem dX4_count_28 : decode cX4_count 28 = .ok (.aload_n 0, 1) := by decide +kernel
theorem dX4_count_29 : decode cX4_count 29 = .ok (.getfield 33, 3) := by decide +kernel
theorem dX4_count_32 : decode cX4_count 32 = .ok (.ireturn, 1) := by decide +kernel
theorem dX4_count_33 : decode cX4_count 33 = .ok (.aload_n 0, 1) := by decide +kernel
theorem dX4_count_34 : decode cX4_count 34 = .ok (.invokevirtual 158, 3) := by decide +kernel
theorem dX4_count_37 : decode cX4_count 37 = .ok (.ireturn, 1) := by decide +kernel
theorem dX4_count_38 : decode cX4_count 38 = .ok (.aload_n 0, 1) := by decide +kernel
theorem dX4_count_39 : decode cX4_count 39 = .ok (.getfield 37, 3) := by decide +kernel
theorem dX4_count_42 : decode cX4_count 42 = .ok (.ireturn, 1) := by decide +kernel
theorem dX4_count_43 : decode cX4_count 43 = .ok (.iconst (-1), 1) := by decide +kernel
theorem dX4_count_44 : decode cX4_count 44 = .ok (.ireturn, 1) := by decide +kernel
set_option maxRecDepth 20000 in
theorem ggX4_sightsOfAll_X3_sights : GoodIn wsX4_sightsOfAll wsX3_sights := goodIn_r _ [7, 8, 15, 16, 17, 18, 19, 20, 21] (by decide +kernel) (by decide +kernel)
set_option maxRecDepth 20000 in
theorem gX4_sightsOfAll_X3_sights : GoodIn wsX4_sightsOfAll (wsV RX4 58 RX3 yX3_sights wsX3_sights) := goodIn_app (goodIn_of _ (by decide +kernel)) ggX4_sightsOfAll_X3_sights
theorem dX4_sightsOfAll_0 : decode cX4_sightsOfAll 0 = .ok (.iconst 0, 1) := by decide +kernel
theorem dX4_sightsOfAll_1 : decode cX4_sightsOfAll 1 = .ok (.istore_n 1, 1) := by decide +kernel
theorem dX4_sightsOfAll_2 : decode cX4_sightsOfAll 2 = .ok (.iconst 0, 1) := by decide +kernel
theorem dX4_sightsOfAll_3 : decode cX4_sightsOfAll 3 = .ok (.istore_n 2, 1) := by decide +kernel
theorem dX4_sightsOfAll_4 : decode cX4_sightsOfAll 4 = .ok (.iload_n 2, 1) := by decide +kernel
theorem dX4_sightsOfAll_5 : decode cX4_sightsOfAll 5 = .ok (.aload_n 0, 1) := by decide +kernel
theorem dX4_sightsOfAll_6 : decode cX4_sightsOfAll 6 = .ok (.getfield 33, 3) := by decide +kernel
theorem dX4_sightsOfAll_9 : decode cX4_sightsOfAll 9 = .ok (.if_icmp .ge 21, 3) := by decide +kernel
theorem dX4_sightsOfAll_12 : decode cX4_sightsOfAll 12 = .ok (.iload_n 1, 1) := by decide +kernel
theorem dX4_sightsOfAll_13 : decode cX4_sightsOfAll 13 = .ok (.aload_n 0, 1) := by decide +kernel
theorem dX4_sightsOfAll_14 : decode cX4_sightsOfAll 14 = .ok (.getfield 11, 3) := by decide +kernel
theorem dX4_sightsOfAll_17 : decode cX4_sightsOfAll 17 = .ok (.iload_n 2, 1) := by decide +kernel
theorem dX4_sightsOfAll_18 : decode cX4_sightsOfAll 18 = .ok (.aaload, 1) := by decide +kernel
theorem dX4_sightsOfAll_19 : decode cX4_sightsOfAll 19 = .ok (.invokevirtual 58, 3) := by decide +kernel
theorem dX4_sightsOfAll_22 : decode cX4_sightsOfAll 22 = .ok (.iadd, 1) := by decide +kernel
theorem dX4_sightsOfAll_23 : decode cX4_sightsOfAll 23 = .ok (.istore_n 1, 1) := by decide +kernel
theorem dX4_sightsOfAll_24 : decode cX4_sightsOfAll 24 = .ok (.iinc 2 1, 3) := by decide +kernel
theorem dX4_sightsOfAll_27 : decode cX4_sightsOfAll 27 = .ok (.goto (-23), 3) := by decide +kernel
theorem dX4_sightsOfAll_30 : decode cX4_sightsOfAll 30 = .ok (.iload_n 1, 1) := by decide +kernel
theorem dX4_sightsOfAll_31 : decode cX4_sightsOfAll 31 = .ok (.ireturn, 1) := by decide +kernel
theorem dX4_thingOf_0 : decode cX4_thingOf 0 = .ok (.iload_n 1, 1) := by decide +kernel
theorem dX4_thingOf_1 : decode cX4_thingOf 1 = .ok (.ifCond .lt 20, 3) := by decide +kernel
theorem dX4_thingOf_4 : decode cX4_thingOf 4 = .ok (.iload_n 1, 1) := by decide +kernel
theorem dX4_thingOf_5 : decode cX4_thingOf 5 = .ok (.aload_n 0, 1) := by decide +kernel
theorem dX4_thingOf_6 : decode cX4_thingOf 6 = .ok (.getfield 33, 3) := by decide +kernel
theorem dX4_thingOf_9 : decode cX4_thingOf 9 = .ok (.if_icmp .ge 12, 3) := by decide +kernel
theorem dX4_thingOf_12 : decode cX4_thingOf 12 = .ok (.aload_n 0, 1) := by decide +kernel
theorem dX4_thingOf_13 : decode cX4_thingOf 13 = .ok (.getfield 11, 3) := by decide +kernel
theorem dX4_thingOf_16 : decode cX4_thingOf 16 = .ok (.iload_n 1, 1) := by decide +kernel
theorem dX4_thingOf_17 : decode cX4_thingOf 17 = .ok (.aaload, 1) := by decide +kernel
theorem dX4_thingOf_18 : decode cX4_thingOf 18 = .ok (.goto 4, 3) := by decide +kernel
theorem dX4_thingOf_21 : decode cX4_thingOf 21 = .ok (.aconst_null, 1) := by decide +kernel
theorem dX4_thingOf_22 : decode cX4_thingOf 22 = .ok (.areturn, 1) := by decide +kernel
theorem dX4_groundOf_0 : decode cX4_groundOf 0 = .ok (.iload_n 1, 1) := by decide +kernel
theorem dX4_groundOf_1 : decode cX4_groundOf 1 = .ok (.ifCond .lt 20, 3) := by decide +kernel
theorem dX4_groundOf_4 : decode cX4_groundOf 4 = .ok (.iload_n 1, 1) := by decide +kernel
theorem dX4_groundOf_5 : decode cX4_groundOf 5 = .ok (.aload_n 0, 1) := by decide +kernel
theorem dX4_groundOf_6 : decode cX4_groundOf 6 = .ok (.getfield 37, 3) := by decide +kernel
theorem dX4_groundOf_9 : decode cX4_groundOf 9 = .ok (.if_icmp .ge 12, 3) := by decide +kernel
theorem dX4_groundOf_12 : decode cX4_groundOf 12 = .ok (.aload_n 0, 1) := by decide +kernel
theorem dX4_groundOf_13 : decode cX4_groundOf 13 = .ok (.getfield 17, 3) := by decide +kernel
theorem dX4_groundOf_16 : decode cX4_groundOf 16 = .ok (.iload_n 1, 1) := by decide +kernel
theorem dX4_groundOf_17 : decode cX4_groundOf 17 = .ok (.aaload, 1) := by decide +kernel
theorem dX4_groundOf_18 : decode cX4_groundOf 18 = .ok (.goto 4, 3) := by decide +kernel
theorem dX4_groundOf_21 : decode cX4_groundOf 21 = .ok (.aconst_null, 1) := by decide +kernel
theorem dX4_groundOf_22 : decode cX4_groundOf 22 = .ok (.areturn, 1) := by decide +kernel
set_option maxRecDepth 20000 in
theorem ggX4_stateOf_X3_reachAt : GoodIn wsX4_stateOf wsX3_reachAt := goodIn_r _ [5, 6, 25, 26, 27, 28, 29, 30, 31] (by decide +kernel) (by decide +kernel)
set_option maxRecDepth 20000 in
theorem gX4_stateOf_X3_reachAt : GoodIn wsX4_stateOf (wsV RX4 69 RX3 yX3_reachAt wsX3_reachAt) := goodIn_app (goodIn_of _ (by decide +kernel)) ggX4_stateOf_X3_reachAt
set_option maxRecDepth 20000 in
theorem ggX4_stateOf_X1_meets : GoodIn wsX4_stateOf wsX1_meets := goodIn_r _ [11, 12, 13, 14, 15, 16, 17, 18, 19, 20, 32, 33, 34, 35, 36] (by decide +kernel) (by decide +kernel)
set_option maxRecDepth 20000 in
theorem gX4_stateOf_X1_meets : GoodIn wsX4_stateOf (wsV RX4 161 RX1 yX1_meets wsX1_meets) := goodIn_app (goodIn_of _ (by decide +kernel)) ggX4_stateOf_X1_meets
set_option maxRecDepth 20000 in
theorem ggX4_stateOf_X1_covers : GoodIn wsX4_stateOf wsX1_covers := goodIn_r _ [24, 12, 13, 14, 15, 16, 17, 18, 19, 20, 32, 33, 34, 35, 36] (by decide +kernel) (by decide +kernel)
set_option maxRecDepth 20000 in
theorem gX4_stateOf_X1_covers : GoodIn wsX4_stateOf (wsV RX4 165 RX1 yX1_covers wsX1_covers) := goodIn_app (goodIn_of _ (by decide +kernel)) ggX4_stateOf_X1_covers
theorem dX4_stateOf_0 : decode cX4_stateOf 0 = .ok (.aload_n 0, 1) := by decide +kernel
theorem dX4_stateOf_1 : decode cX4_stateOf 1 = .ok (.iload_n 2, 1) := by decide +kernel
theorem dX4_stateOf_2 : decode cX4_stateOf 2 = .ok (.invokevirtual 69, 3) := by decide +kernel
theorem dX4_stateOf_5 : decode cX4_stateOf 5 = .ok (.astore_n 3, 1) := by decide +kernel
theorem dX4_stateOf_6 : decode cX4_stateOf 6 = .ok (.aload_n 1, 1) := by decide +kernel
theorem dX4_stateOf_7 : decode cX4_stateOf 7 = .ok (.aload_n 3, 1) := by decide +kernel
theorem dX4_stateOf_8 : decode cX4_stateOf 8 = .ok (.invokevirtual 161, 3) := by decide +kernel
theorem dX4_stateOf_11 : decode cX4_stateOf 11 = .ok (.ifCond .ne 5, 3) := by decide +kernel
theorem dX4_stateOf_14 : decode cX4_stateOf 14 = .ok (.iconst 0, 1) := by decide +kernel
theorem dX4_stateOf_15 : decode cX4_stateOf 15 = .ok (.ireturn, 1) := by decide +kernel
theorem dX4_stateOf_16 : decode cX4_stateOf 16 = .ok (.aload_n 1, 1) := by decide +kernel
theorem dX4_stateOf_17 : decode cX4_stateOf 17 = .ok (.aload_n 3, 1) := by decide +kernel
theorem dX4_stateOf_18 : decode cX4_stateOf 18 = .ok (.invokevirtual 165, 3) := by decide +kernel
theorem dX4_stateOf_21 : decode cX4_stateOf 21 = .ok (.ifCond .eq 7, 3) := by decide +kernel
theorem dX4_stateOf_24 : decode cX4_stateOf 24 = .ok (.iconst 2, 1) := by decide +kernel
theorem dX4_stateOf_25 : decode cX4_stateOf 25 = .ok (.goto 4, 3) := by decide +kernel
theorem dX4_stateOf_28 : decode cX4_stateOf 28 = .ok (.iconst 1, 1) := by decide +kernel
theorem dX4_stateOf_29 : decode cX4_stateOf 29 = .ok (.ireturn, 1) := by decide +kernel
theorem dX4_isTick_0 : decode cX4_isTick 0 = .ok (.iload_n 0, 1) := by decide +kernel
theorem dX4_isTick_1 : decode cX4_isTick 1 = .ok (.ifCond .lt 13, 3) := by decide +kernel
theorem dX4_isTick_4 : decode cX4_isTick 4 = .ok (.iload_n 0, 1) := by decide +kernel
theorem dX4_isTick_5 : decode cX4_isTick 5 = .ok (.bipush 80, 2) := by decide +kernel
theorem dX4_isTick_7 : decode cX4_isTick 7 = .ok (.if_icmp .ge 7, 3) := by decide +kernel
theorem dX4_isTick_10 : decode cX4_isTick 10 = .ok (.iconst 1, 1) := by decide +kernel
theorem dX4_isTick_11 : decode cX4_isTick 11 = .ok (.goto 4, 3) := by decide +kernel
theorem dX4_isTick_14 : decode cX4_isTick 14 = .ok (.iconst 0, 1) := by decide +kernel
theorem dX4_isTick_15 : decode cX4_isTick 15 = .ok (.ireturn, 1) := by decide +kernel
set_option maxRecDepth 20000 in
theorem ggX4_isStretch_X4_isTick : GoodIn wsX4_isStretch wsX4_isTick := goodIn_r _ [4] (by decide +kernel) (by decide +kernel)
set_option maxRecDepth 20000 in
theorem gX4_isStretch_X4_isTick : GoodIn wsX4_isStretch (va_wsS RX4 47 yX4_isTick wsX4_isTick) := goodIn_app (goodIn_of _ (by decide +kernel)) ggX4_isStretch_X4_isTick
theorem dX4_isStretch_0 : decode cX4_isStretch 0 = .ok (.iload_n 0, 1) := by decide +kernel
theorem dX4_isStretch_1 : decode cX4_isStretch 1 = .ok (.invokestatic 47, 3) := by decide +kernel
theorem dX4_isStretch_4 : decode cX4_isStretch 4 = .ok (.ifCond .eq 19, 3) := by decide +kernel
theorem dX4_isStretch_7 : decode cX4_isStretch 7 = .ok (.iload_n 1, 1) := by decide +kernel
theorem dX4_isStretch_8 : decode cX4_isStretch 8 = .ok (.invokestatic 47, 3) := by decide +kernel
theorem dX4_isStretch_11 : decode cX4_isStretch 11 = .ok (.ifCond .eq 12, 3) := by decide +kernel
theorem dX4_isStretch_14 : decode cX4_isStretch 14 = .ok (.iload_n 0, 1) := by decide +kernel
theorem dX4_isStretch_15 : decode cX4_isStretch 15 = .ok (.iload_n 1, 1) := by decide +kernel
theorem dX4_isStretch_16 : decode cX4_isStretch 16 = .ok (.if_icmp .gt 7, 3) := by decide +kernel
theorem dX4_isStretch_19 : decode cX4_isStretch 19 = .ok (.iconst 1, 1) := by decide +kernel
theorem dX4_isStretch_20 : decode cX4_isStretch 20 = .ok (.goto 4, 3) := by decide +kernel
theorem dX4_isStretch_23 : decode cX4_isStretch 23 = .ok (.iconst 0, 1) := by decide +kernel
theorem dX4_isStretch_24 : decode cX4_isStretch 24 = .ok (.ireturn, 1) := by decide +kernel
theorem dX4_isPlace_0 : decode cX4_isPlace 0 = .ok (.iload_n 0, 1) := by decide +kernel
theorem dX4_isPlace_1 : decode cX4_isPlace 1 = .ok (.ifCond .lt 14, 3) := by decide +kernel
theorem dX4_isPlace_4 : decode cX4_isPlace 4 = .ok (.iload_n 0, 1) := by decide +kernel
theorem dX4_isPlace_5 : decode cX4_isPlace 5 = .ok (.sipush 4096, 3) := by decide +kernel
theorem dX4_isPlace_8 : decode cX4_isPlace 8 = .ok (.if_icmp .ge 7, 3) := by decide +kernel
theorem dX4_isPlace_11 : decode cX4_isPlace 11 = .ok (.iconst 1, 1) := by decide +kernel
theorem dX4_isPlace_12 : decode cX4_isPlace 12 = .ok (.goto 4, 3) := by decide +kernel
theorem dX4_isPlace_15 : decode cX4_isPlace 15 = .ok (.iconst 0, 1) := by decide +kernel
theorem dX4_isPlace_16 : decode cX4_isPlace 16 = .ok (.ireturn, 1) := by decide +kernel
theorem dX4_xOf_0 : decode cX4_xOf 0 = .ok (.iload_n 0, 1) := by decide +kernel
theorem dX4_xOf_1 : decode cX4_xOf 1 = .ok (.bipush 64, 2) := by decide +kernel
theorem dX4_xOf_3 : decode cX4_xOf 3 = .ok (.idiv, 1) := by decide +kernel
theorem dX4_xOf_4 : decode cX4_xOf 4 = .ok (.ireturn, 1) := by decide +kernel
theorem dX4_yOf_0 : decode cX4_yOf 0 = .ok (.iload_n 0, 1) := by decide +kernel
theorem dX4_yOf_1 : decode cX4_yOf 1 = .ok (.bipush 64, 2) := by decide +kernel
theorem dX4_yOf_3 : decode cX4_yOf 3 = .ok (.irem, 1) := by decide +kernel
theorem dX4_yOf_4 : decode cX4_yOf 4 = .ok (.ireturn, 1) := by decide +kernel
theorem dX5_init_0 : decode cX5_init 0 = .ok (.aload_n 0, 1) := by decide +kernel
theorem dX5_init_1 : decode cX5_init 1 = .ok (.invokespecial 1, 3) := by decide +kernel
theorem dX5_init_4 : decode cX5_init 4 = .ok (.aload_n 0, 1) := by decide +kernel
theorem dX5_init_5 : decode cX5_init 5 = .ok (.bipush 6, 2) := by decide +kernel
theorem dX5_init_7 : decode cX5_init 7 = .ok (.newarray .int, 2) := by decide +kernel
theorem dX5_init_9 : decode cX5_init 9 = .ok (.putfield 9, 3) := by decide +kernel
theorem dX5_init_12 : decode cX5_init 12 = .ok (.aload_n 0, 1) := by decide +kernel
theorem dX5_init_13 : decode cX5_init 13 = .ok (.bipush 6, 2) := by decide +kernel
theorem dX5_init_15 : decode cX5_init 15 = .ok (.newarray .int, 2) := by decide +kernel
theorem dX5_init_17 : decode cX5_init 17 = .ok (.putfield 13, 3) := by decide +kernel
theorem dX5_init_20 : decode cX5_init 20 = .ok (.aload_n 0, 1) := by decide +kernel
theorem dX5_init_21 : decode cX5_init 21 = .ok (.bipush 6, 2) := by decide +kernel
theorem dX5_init_23 : decode cX5_init 23 = .ok (.newarray .int, 2) := by decide +kernel
theorem dX5_init_25 : decode cX5_init 25 = .ok (.putfield 16, 3) := by decide +kernel
theorem dX5_init_28 : decode cX5_init 28 = .ok (.aload_n 0, 1) := by decide +kernel
theorem dX5_init_29 : decode cX5_init 29 = .ok (.bipush 72, 2) := by decide +kernel
theorem dX5_init_31 : decode cX5_init 31 = .ok (.newarray .int, 2) := by decide +kernel
theorem dX5_init_33 : decode cX5_init 33 = .ok (.putfield 19, 3) := by decide +kernel
theorem dX5_init_36 : decode cX5_init 36 = .ok (.aload_n 0, 1) := by decide +kernel
theorem dX5_init_37 : decode cX5_init 37 = .ok (.bipush 72, 2) := by decide +kernel
theorem dX5_init_39 : decode cX5_init 39 = .ok (.newarray .int, 2) := by decide +kernel
theorem dX5_init_41 : decode cX5_init 41 = .ok (.putfield 22, 3) := by decide +kernel
theorem dX5_init_44 : decode cX5_init 44 = .ok (.aload_n 0, 1) := by decide +kernel
theorem dX5_init_45 : decode cX5_init 45 = .ok (.bipush 72, 2) := by decide +kernel
theorem dX5_init_47 : decode cX5_init 47 = .ok (.newarray .int, 2) := by decide +kernel
theorem dX5_init_49 : decode cX5_init 49 = .ok (.putfield 25, 3) := by decide +kernel
theorem dX5_init_52 : decode cX5_init 52 = .ok (.aload_n 0, 1) := by decide +kernel
theorem dX5_init_53 : decode cX5_init 53 = .ok (.bipush 72, 2) := by decide +kernel
theorem dX5_init_55 : decode cX5_init 55 = .ok (.newarray .int, 2) := by decide +kernel
theorem dX5_init_57 : decode cX5_init 57 = .ok (.putfield 28, 3) := by decide +kernel
theorem dX5_init_60 : decode cX5_init 60 = .ok (.aload_n 0, 1) := by decide +kernel
theorem dX5_init_61 : decode cX5_init 61 = .ok (.sipush 16384, 3) := by decide +kernel
theorem dX5_init_64 : decode cX5_init 64 = .ok (.newarray .boolean, 2) := by decide +kernel
theorem dX5_init_66 : decode cX5_init 66 = .ok (.putfield 31, 3) := by decide +kernel
theorem dX5_init_69 : decode cX5_init 69 = .ok (.aload_n 0, 1) := by decide +kernel
theorem dX5_init_70 : decode cX5_init 70 = .ok (.sipush 4096, 3) := by decide +kernel
theorem dX5_init_73 : decode cX5_init 73 = .ok (.newarray .int, 2) := by decide +kernel
theorem dX5_init_75 : decode cX5_init 75 = .ok (.putfield 35, 3) := by decide +kernel
theorem dX5_init_78 : decode cX5_init 78 = .ok (.aload_n 0, 1) := by decide +kernel
theorem dX5_init_79 : decode cX5_init 79 = .ok (.sipush 4096, 3) := by decide +kernel
theorem dX5_init_82 : decode cX5_init 82 = .ok (.newarray .int, 2) := by decide +kernel
theorem dX5_init_84 : decode cX5_init 84 = .ok (.putfield 38, 3) := by decide +kernel
theorem dX5_init_87 : decode cX5_init 87 = .ok (.return_, 1) := by decide +kernel
theorem dX5_in_0 : decode cX5_in 0 = .ok (.iload_n 0, 1) := by decide +kernel
theorem dX5_in_1 : decode cX5_in 1 = .ok (.iload_n 1, 1) := by decide +kernel
theorem dX5_in_2 : decode cX5_in 2 = .ok (.if_icmp .lt 12, 3) := by decide +kernel
theorem dX5_in_5 : decode cX5_in 5 = .ok (.iload_n 0, 1) := by decide +kernel
theorem dX5_in_6 : decode cX5_in 6 = .ok (.iload_n 2, 1) := by decide +kernel
theorem dX5_in_7 : decode cX5_in 7 = .ok (.if_icmp .gt 7, 3) := by decide +kernel
theorem dX5_in_10 : decode cX5_in 10 = .ok (.iconst 1, 1) := by decide +kernel
theorem dX5_in_11 : decode cX5_in 11 = .ok (.goto 4, 3) := by decide +kernel
theorem dX5_in_14 : decode cX5_in 14 = .ok (.iconst 0, 1) := by decide +kernel
theorem dX5_in_15 : decode cX5_in 15 = .ok (.ireturn, 1) := by decide +kernel
set_option maxRecDepth 20000 in
theorem ggX5_isThing_X5_in : GoodIn wsX5_isThing wsX5_in := goodIn_r _ [5] (by decide +kernel) (by decide +kernel)
set_option maxRecDepth 20000 in
theorem gX5_isThing_X5_in : GoodIn wsX5_isThing (va_wsS RX5 45 yX5_in wsX5_in) := goodIn_app (goodIn_of _ (by decide +kernel)) ggX5_isThing_X5_in
theorem dX5_isThing_0 : decode cX5_isThing 0 = .ok (.iload_n 1, 1) := by decide +kernel
theorem dX5_isThing_1 : decode cX5_isThing 1 = .ok (.iconst 0, 1) := by decide +kernel
theorem dX5_isThing_2 : decode cX5_isThing 2 = .ok (.aload_n 0, 1) := by decide +kernel
theorem dX5_isThing_3 : decode cX5_isThing 3 = .ok (.getfield 41, 3) := by decide +kernel
theorem dX5_isThing_6 : decode cX5_isThing 6 = .ok (.iconst 1, 1) := by decide +kernel
theorem dX5_isThing_7 : decode cX5_isThing 7 = .ok (.isub, 1) := by decide +kernel
theorem dX5_isThing_8 : decode cX5_isThing 8 = .ok (.invokestatic 45, 3) := by decide +kernel
theorem dX5_isThing_11 : decode cX5_isThing 11 = .ok (.ireturn, 1) := by decide +kernel
set_option maxRecDepth 20000 in
theorem ggX5_isGround_X5_in : GoodIn wsX5_isGround wsX5_in := goodIn_r _ [5] (by decide +kernel) (by decide +kernel)
set_option maxRecDepth 20000 in
theorem gX5_isGround_X5_in : GoodIn wsX5_isGround (va_wsS RX5 45 yX5_in wsX5_in) := goodIn_app (goodIn_of _ (by decide +kernel)) ggX5_isGround_X5_in
theorem dX5_isGround_0 : decode cX5_isGround 0 = .ok (.iload_n 1, 1) := by decide +kernel
theorem dX5_isGround_1 : decode cX5_isGround 1 = .ok (.iconst 0, 1) := by decide +kernel
theorem dX5_isGround_2 : decode cX5_isGround 2 = .ok (.aload_n 0, 1) := by decide +kernel
theorem dX5_isGround_3 : decode cX5_isGround 3 = .ok (.getfield 49, 3) := by decide +kernel
theorem dX5_isGround_6 : decode cX5_isGround 6 = .ok (.iconst 1, 1) := by decide +kernel
theorem dX5_isGround_7 : decode cX5_isGround 7 = .ok (.isub, 1) := by decide +kernel
theorem dX5_isGround_8 : decode cX5_isGround 8 = .ok (.invokestatic 45, 3) := by decide +kernel
theorem dX5_isGround_11 : decode cX5_isGround 11 = .ok (.ireturn, 1) := by decide +kernel
set_option maxRecDepth 20000 in
theorem ggX5_isTick_X5_in : GoodIn wsX5_isTick wsX5_in := goodIn_r _ [4] (by decide +kernel) (by decide +kernel)
set_option maxRecDepth 20000 in
theorem gX5_isTick_X5_in : GoodIn wsX5_isTick (va_wsS RX5 45 yX5_in wsX5_in) := goodIn_app (goodIn_of _ (by decide +kernel)) ggX5_isTick_X5_in
theorem dX5_isTick_0 : decode cX5_isTick 0 = .ok (.iload_n 0, 1) := by decide +kernel
theorem dX5_isTick_1 : decode cX5_isTick 1 = .ok (.iconst 0, 1) := by decide +kernel
theorem dX5_isTick_2 : decode cX5_isTick 2 = .ok (.bipush 79, 2) := by decide +kernel
theorem dX5_isTick_4 : decode cX5_isTick 4 = .ok (.invokestatic 45, 3) := by decide +kernel
theorem dX5_isTick_7 : decode cX5_isTick 7 = .ok (.ireturn, 1) := by decide +kernel
set_option maxRecDepth 20000 in
theorem ggX5_thing_X5_in : GoodIn wsX5_thing wsX5_in := goodIn_r _ [6] (by decide +kernel) (by decide +kernel)
set_option maxRecDepth 20000 in
theorem gX5_thing_X5_in : GoodIn wsX5_thing (va_wsS RX5 45 yX5_in wsX5_in) := goodIn_app (goodIn_of _ (by decide +kernel)) ggX5_thing_X5_in
theorem dX5_thing_0 : decode cX5_thing 0 = .ok (.iload_n 1, 1) := by decide +kernel
theorem dX5_thing_1 : decode cX5_thing 1 = .ok (.iconst 0, 1) := by decide +kernel
theorem dX5_thing_2 : decode cX5_thing 2 = .ok (.bipush 7, 2) := by decide +kernel
theorem dX5_thing_4 : decode cX5_thing 4 = .ok (.invokestatic 45, 3) := by decide +kernel
theorem dX5_thing_7 : decode cX5_thing 7 = .ok (.ifCond .eq 12, 3) := by decide +kernel
theorem dX5_thing_10 : decode cX5_thing 10 = .ok (.aload_n 0, 1) := by decide +kernel
theorem dX5_thing_11 : decode cX5_thing 11 = .ok (.getfield 41, 3) := by decide +kernel
theorem dX5_thing_14 : decode cX5_thing 14 = .ok (.bipush 6, 2) := by decide +kernel
theorem dX5_thing_16 : decode cX5_thing 16 = .ok (.if_icmp .ne 5, 3) := by decide +kernel
theorem dX5_thing_19 : decode cX5_thing 19 = .ok (.iconst (-1), 1) := by decide +kernel
theorem dX5_thing_20 : decode cX5_thing 20 = .ok (.ireturn, 1) := by decide +kernel
theorem dX5_thing_21 : decode cX5_thing 21 = .ok (.aload_n 0, 1) := by decide +kernel
theorem dX5_thing_22 : decode cX5_thing 22 = .ok (.getfield 9, 3) := by decide +kernel
theorem dX5_thing_25 : decode cX5_thing 25 = .ok (.aload_n 0, 1) := by decide +kernel
theorem dX5_thing_26 : decode cX5_thing 26 = .ok (.getfield 41, 3) := by decide +kernel
theorem dX5_thing_29 : decode cX5_thing 29 = .ok (.iload_n 1, 1) := by decide +kernel
theorem dX5_thing_30 : decode cX5_thing 30 = .ok (.iastore, 1) := by decide +kernel
theorem dX5_thing_31 : decode cX5_thing 31 = .ok (.aload_n 0, 1) := by decide +kernel
theorem dX5_thing_32 : decode cX5_thing 32 = .ok (.dup, 1) := by decide +kernel
theorem dX5_thing_33 : decode cX5_thing 33 = .ok (.getfield 41, 3) := by decide +kernel
theorem dX5_thing_36 : decode cX5_thing 36 = .ok (.iconst 1, 1) := by decide +kernel
theorem dX5_thing_37 : decode cX5_thing 37 = .ok (.iadd, 1) := by decide +kernel
theorem dX5_thing_38 : decode cX5_thing 38 = .ok (.putfield 41, 3) := by decide +kernel
theorem dX5_thing_41 : decode cX5_thing 41 = .ok (.aload_n 0, 1) := by decide +kernel
theorem dX5_thing_42 : decode cX5_thing 42 = .ok (.getfield 41, 3) := by decide +kernel
theorem dX5_thing_45 : decode cX5_thing 45 = .ok (.iconst 1, 1) := by decide +kernel
theorem dX5_thing_46 : decode cX5_thing 46 = .ok (.isub, 1) := by decide +kernel
theorem dX5_thing_47 : decode cX5_thing 47 = .ok (.ireturn, 1) := by decide +kernel
theorem dX5_low_0 : decode cX5_low 0 = .ok (.iconst 0, 1) := by decide +kernel
theorem dX5_low_1 : decode cX5_low 1 = .ok (.istore 4, 2) := by decide +kernel
theorem dX5_low_3 : decode cX5_low 3 = .ok (.bipush 12, 2) := by decide +kernel
theorem dX5_low_5 : decode cX5_low 5 = .ok (.iload_n 1, 1) := by decide +kernel
theorem dX5_low_6 : decode cX5_low 6 = .ok (.imul, 1) := by decide +kernel
theorem dX5_low_7 : decode cX5_low 7 = .ok (.istore 5, 2) := by decide +kernel
theorem dX5_low_9 : decode cX5_low 9 = .ok (.iload 5, 2) := by decide +kernel
theorem dX5_low_11 : decode cX5_low 11 = .ok (.bipush 12, 2) := by decide +kernel
theorem dX5_low_13 : decode cX5_low 13 = .ok (.iload_n 1, 1) := by decide +kernel
theorem dX5_low_14 : decode cX5_low 14 = .ok (.imul, 1) := by decide +kernel
theorem dX5_low_15 : decode cX5_low 15 = .ok (.aload_n 0, 1) := by decide +kernel
theorem dX5_low_16 : decode cX5_low 16 = .ok (.getfield 13, 3) := by decide +kernel
theorem dX5_low_19 : decode cX5_low 19 = .ok (.iload_n 1, 1) := by decide +kernel
theorem dX5_low_20 : decode cX5_low 20 = .ok (.iaload, 1) := by decide +kernel
theorem dX5_low_21 : decode cX5_low 21 = .ok (.iadd, 1) := by decide +kernel
theorem dX5_low_22 : decode cX5_low 22 = .ok (.if_icmp .ge 95, 3) := by decide +kernel
theorem dX5_low_25 : decode cX5_low 25 = .ok (.iload_n 2, 1) := by decide +kernel
theorem dX5_low_26 : decode cX5_low 26 = .ok (.aload_n 0, 1) := by decide +kernel
theorem dX5_low_27 : decode cX5_low 27 = .ok (.getfield 19, 3) := by decide +kernel
theorem dX5_low_30 : decode cX5_low 30 = .ok (.iload 5, 2) := by decide +kernel
theorem dX5_low_32 : decode cX5_low 32 = .ok (.iaload, 1) := by decide +kernel
theorem dX5_low_33 : decode cX5_low 33 = .ok (.if_icmp .ge 15, 3) := by decide +kernel
theorem dX5_low_36 : decode cX5_low 36 = .ok (.aload_n 0, 1) := by decide +kernel
theorem dX5_low_37 : decode cX5_low 37 = .ok (.getfield 19, 3) := by decide +kernel
theorem dX5_low_40 : decode cX5_low 40 = .ok (.iload 5, 2) := by decide +kernel
theorem dX5_low_42 : decode cX5_low 42 = .ok (.iaload, 1) := by decide +kernel
theorem dX5_low_43 : decode cX5_low 43 = .ok (.iload_n 2, 1) := by decide +kernel
theorem dX5_low_44 : decode cX5_low 44 = .ok (.isub, 1) := by decide +kernel
theorem dX5_low_45 : decode cX5_low 45 = .ok (.goto 12, 3) := by decide +kernel
theorem dX5_low_48 : decode cX5_low 48 = .ok (.iload_n 2, 1) := by decide +kernel
theorem dX5_low_49 : decode cX5_low 49 = .ok (.aload_n 0, 1) := by decide +kernel
theorem dX5_low_50 : decode cX5_low 50 = .ok (.getfield 19, 3) := by decide +kernel
theorem dX5_low_53 : decode cX5_low 53 = .ok (.iload 5, 2) := by decide +kernel
theorem dX5_low_55 : decode cX5_low 55 = .ok (.iaload, 1) := by decide +kernel
theorem dX5_low_56 : decode cX5_low 56 = .ok (.isub, 1) := by decide +kernel
theorem dX5_low_57 : decode cX5_low 57 = .ok (.istore 6, 2) := by decide +kernel
theorem dX5_low_59 : decode cX5_low 59 = .ok (.iload_n 3, 1) := by decide +kernel
theorem dX5_low_60 : decode cX5_low 60 = .ok (.ifCond .eq 13, 3) := by decide +kernel
theorem dX5_low_63 : decode cX5_low 63 = .ok (.aload_n 0, 1) := by decide +kernel
theorem dX5_low_64 : decode cX5_low 64 = .ok (.getfield 22, 3) := by decide +kernel
theorem dX5_low_67 : decode cX5_low 67 = .ok (.iload 5, 2) := by decide +kernel
theorem dX5_low_69 : decode cX5_low 69 = .ok (.iaload, 1) := by decide +kernel
theorem dX5_low_70 : decode cX5_low 70 = .ok (.goto 10, 3) := by decide +kernel
theorem dX5_low_73 : decode cX5_low 73 = .ok (.aload_n 0, 1) := by decide +kernel
theorem dX5_low_74 : decode cX5_low 74 = .ok (.getfield 25, 3) := by decide +kernel
theorem dX5_low_77 : decode cX5_low 77 = .ok (.iload 5, 2) := by decide +kernel
theorem dX5_low_79 : decode cX5_low 79 = .ok (.iaload, 1) := by decide +kernel
theorem dX5_low_80 : decode cX5_low 80 = .ok (.aload_n 0, 1) := by decide +kernel
theorem dX5_low_81 : decode cX5_low 81 = .ok (.getfield 28, 3) := by decide +kernel
theorem dX5_low_84 : decode cX5_low 84 = .ok (.iload 5, 2) := by decide +kernel
theorem dX5_low_86 : decode cX5_low 86 = .ok (.iaload, 1) := by decide +kernel
theorem dX5_low_87 : decode cX5_low 87 = .ok (.isub, 1) := by decide +kernel
theorem dX5_low_88 : decode cX5_low 88 = .ok (.aload_n 0, 1) := by decide +kernel
theorem dX5_low_89 : decode cX5_low 89 = .ok (.getfield 9, 3) := by decide +kernel
theorem dX5_low_92 : decode cX5_low 92 = .ok (.iload_n 1, 1) := by decide +kernel
theorem dX5_low_93 : decode cX5_low 93 = .ok (.iaload, 1) := by decide +kernel
theorem dX5_low_94 : decode cX5_low 94 = .ok (.iload 6, 2) := by decide +kernel
theorem dX5_low_96 : decode cX5_low 96 = .ok (.imul, 1) := by decide +kernel
theorem dX5_low_97 : decode cX5_low 97 = .ok (.isub, 1) := by decide +kernel
theorem dX5_low_98 : decode cX5_low 98 = .ok (.istore 7, 2) := by decide +kernel
theorem dX5_low_100 : decode cX5_low 100 = .ok (.iload 7, 2) := by decide +kernel
theorem dX5_low_102 : decode cX5_low 102 = .ok (.iload 4, 2) := by decide +kernel
theorem dX5_low_104 : decode cX5_low 104 = .ok (.if_icmp .le 7, 3) := by decide +kernel
theorem dX5_low_107 : decode cX5_low 107 = .ok (.iload 7, 2) := by decide +kernel
theorem dX5_low_109 : decode cX5_low 109 = .ok (.istore 4, 2) := by decide +kernel
theorem dX5_low_111 : decode cX5_low 111 = .ok (.iinc 5 1, 3) := by decide +kernel
theorem dX5_low_114 : decode cX5_low 114 = .ok (.goto (-105), 3) := by decide +kernel
theorem dX5_low_117 : decode cX5_low 117 = .ok (.iload 4, 2) := by decide +kernel
theorem dX5_low_119 : decode cX5_low 119 = .ok (.ireturn, 1) := by decide +kernel
theorem dX5_high_0 : decode cX5_high 0 = .ok (.bipush 63, 2) := by decide +kernel
theorem dX5_high_2 : decode cX5_high 2 = .ok (.istore 4, 2) := by decide +kernel
theorem dX5_high_4 : decode cX5_high 4 = .ok (.bipush 12, 2) := by decide +kernel
theorem dX5_high_6 : decode cX5_high 6 = .ok (.iload_n 1, 1) := by decide +kernel
theorem dX5_high_7 : decode cX5_high 7 = .ok (.imul, 1) := by decide +kernel
theorem dX5_high_8 : decode cX5_high 8 = .ok (.istore 5, 2) := by decide +kernel
theorem dX5_high_10 : decode cX5_high 10 = .ok (.iload 5, 2) := by decide +kernel
theorem dX5_high_12 : decode cX5_high 12 = .ok (.bipush 12, 2) := by decide +kernel
theorem dX5_high_14 : decode cX5_high 14 = .ok (.iload_n 1, 1) := by decide +kernel
theorem dX5_high_15 : decode cX5_high 15 = .ok (.imul, 1) := by decide +kernel
theorem dX5_high_16 : decode cX5_high 16 = .ok (.aload_n 0, 1) := by decide +kernel
theorem dX5_high_17 : decode cX5_high 17 = .ok (.getfield 13, 3) := by decide +kernel
theorem dX5_high_20 : decode cX5_high 20 = .ok (.iload_n 1, 1) := by decide +kernel
theorem dX5_high_21 : decode cX5_high 21 = .ok (.iaload, 1) := by decide +kernel
theorem dX5_high_22 : decode cX5_high 22 = .ok (.iadd, 1) := by decide +kernel
theorem dX5_high_23 : decode cX5_high 23 = .ok (.if_icmp .ge 95, 3) := by decide +kernel
theorem dX5_high_26 : decode cX5_high 26 = .ok (.iload_n 2, 1) := by decide +kernel
theorem dX5_high_27 : decode cX5_high 27 = .ok (.aload_n 0, 1) := by decide +kernel
theorem dX5_high_28 : decode cX5_high 28 = .ok (.getfield 19, 3) := by decide +kernel
theorem dX5_high_31 : decode cX5_high 31 = .ok (.iload 5, 2) := by decide +kernel
theorem dX5_high_33 : decode cX5_high 33 = .ok (.iaload, 1) := by decide +kernel
theorem dX5_high_34 : decode cX5_high 34 = .ok (.if_icmp .ge 15, 3) := by decide +kernel
theorem dX5_high_37 : decode cX5_high 37 = .ok (.aload_n 0, 1) := by decide +kernel
theorem dX5_high_38 : decode cX5_high 38 = .ok (.getfield 19, 3) := by decide +kernel
theorem dX5_high_41 : decode cX5_high 41 = .ok (.iload 5, 2) := by decide +kernel
theorem dX5_high_43 : decode cX5_high 43 = .ok (.iaload, 1) := by decide +kernel
theorem dX5_high_44 : decode cX5_high 44 = .ok (.iload_n 2, 1) := by decide +kernel
theorem dX5_high_45 : decode cX5_high 45 = .ok (.isub, 1) := by decide +kernel
theorem dX5_high_46 : decode cX5_high 46 = .ok (.goto 12, 3) := by decide +kernel
theorem dX5_high_49 : decode cX5_high 49 = .ok (.iload_n 2, 1) := by decide +kernel
theorem dX5_high_50 : decode cX5_high 50 = .ok (.aload_n 0, 1) := by decide +kernel
theorem dX5_high_51 : decode cX5_high 51 = .ok (.getfield 19, 3) := by decide +kernel
theorem dX5_high_54 : decode cX5_high 54 = .ok (.iload 5, 2) := by decide +kernel
theorem dX5_high_56 : decode cX5_high 56 = .ok (.iaload, 1) := by decide +kernel
theorem dX5_high_57 : decode cX5_high 57 = .ok (.isub, 1) := by decide +kernel
theorem dX5_high_58 : decode cX5_high 58 = .ok (.istore 6, 2) := by decide +kernel
theorem dX5_high_60 : decode cX5_high 60 = .ok (.iload_n 3, 1) := by decide +kernel
theorem dX5_high_61 : decode cX5_high 61 = .ok (.ifCond .eq 13, 3) := by decide +kernel
theorem dX5_high_64 : decode cX5_high 64 = .ok (.aload_n 0, 1) := by decide +kernel
theorem dX5_high_65 : decode cX5_high 65 = .ok (.getfield 22, 3) := by decide +kernel
theorem dX5_high_68 : decode cX5_high 68 = .ok (.iload 5, 2) := by decide +kernel
theorem dX5_high_70 : decode cX5_high 70 = .ok (.iaload, 1) := by decide +kernel
theorem dX5_high_71 : decode cX5_high 71 = .ok (.goto 10, 3) := by decide +kernel
theorem dX5_high_74 : decode cX5_high 74 = .ok (.aload_n 0, 1) := by decide +kernel
theorem dX5_high_75 : decode cX5_high 75 = .ok (.getfield 25, 3) := by decide +kernel
theorem dX5_high_78 : decode cX5_high 78 = .ok (.iload 5, 2) := by decide +kernel
theorem dX5_high_80 : decode cX5_high 80 = .ok (.iaload, 1) := by decide +kernel
theorem dX5_high_81 : decode cX5_high 81 = .ok (.aload_n 0, 1) := by decide +kernel
theorem dX5_high_82 : decode cX5_high 82 = .ok (.getfield 28, 3) := by decide +kernel
theorem dX5_high_85 : decode cX5_high 85 = .ok (.iload 5, 2) := by decide +kernel
theorem dX5_high_87 : decode cX5_high 87 = .ok (.iaload, 1) := by decide +kernel
theorem dX5_high_88 : decode cX5_high 88 = .ok (.iadd, 1) := by decide +kernel
theorem dX5_high_89 : decode cX5_high 89 = .ok (.aload_n 0, 1) := by decide +kernel
theorem dX5_high_90 : decode cX5_high 90 = .ok (.getfield 9, 3) := by decide +kernel
theorem dX5_high_93 : decode cX5_high 93 = .ok (.iload_n 1, 1) := by decide +kernel
theorem dX5_high_94 : decode cX5_high 94 = .ok (.iaload, 1) := by decide +kernel
theorem dX5_high_95 : decode cX5_high 95 = .ok (.iload 6, 2) := by decide +kernel
theorem dX5_high_97 : decode cX5_high 97 = .ok (.imul, 1) := by decide +kernel
theorem dX5_high_98 : decode cX5_high 98 = .ok (.iadd, 1) := by decide +kernel
theorem dX5_high_99 : decode cX5_high 99 = .ok (.istore 7, 2) := by decide +kernel
theorem dX5_high_101 : decode cX5_high 101 = .ok (.iload 7, 2) := by decide +kernel
theorem dX5_high_103 : decode cX5_high 103 = .ok (.iload 4, 2) := by decide +kernel
theorem dX5_high_105 : decode cX5_high 105 = .ok (.if_icmp .ge 7, 3) := by decide +kernel
theorem dX5_high_108 : decode cX5_high 108 = .ok (.iload 7, 2) := by decide +kernel
theorem dX5_high_110 : decode cX5_high 110 = .ok (.istore 4, 2) := by decide +kernel
theorem dX5_high_112 : decode cX5_high 112 = .ok (.iinc 5 1, 3) := by decide +kernel
theorem dX5_high_115 : decode cX5_high 115 = .ok (.goto (-105), 3) := by decide +kernel
theorem dX5_high_118 : decode cX5_high 118 = .ok (.iload 4, 2) := by decide +kernel
theorem dX5_high_120 : decode cX5_high 120 = .ok (.ireturn, 1) := by decide +kernel
set_option maxRecDepth 20000 in
theorem ggX5_see_X5_isThing : GoodIn wsX5_see wsX5_isThing := goodIn_r _ [11, 12, 13, 14, 10, 15, 28, 29, 30, 31, 32, 33, 34, 35, 36, 37, 38, 39] (by decide +kernel) (by decide +kernel)
set_option maxRecDepth 20000 in
theorem gX5_see_X5_isThing : GoodIn wsX5_see (wsV RX5 52 RX5 yX5_isThing wsX5_isThing) := goodIn_app (goodIn_of _ (by decide +kernel)) ggX5_see_X5_isThing
set_option maxRecDepth 20000 in
theorem ggX5_see_X5_isTick : GoodIn wsX5_see wsX5_isTick := goodIn_r _ [18, 13, 14, 10, 15] (by decide +kernel) (by decide +kernel)
set_option maxRecDepth 20000 in
theorem gX5_see_X5_isTick : GoodIn wsX5_see (va_wsS RX5 56 yX5_isTick wsX5_isTick) := goodIn_app (goodIn_of _ (by decide +kernel)) ggX5_see_X5_isTick
set_option maxRecDepth 20000 in
theorem ggX5_see_X5_in : GoodIn wsX5_see wsX5_in := goodIn_r _ [15] (by decide +kernel) (by decide +kernel)
set_option maxRecDepth 20000 in
theorem gX5_see_X5_in : GoodIn wsX5_see (va_wsS RX5 45 yX5_in wsX5_in) := goodIn_app (goodIn_of _ (by decide +kernel)) ggX5_see_X5_in
set_option maxRecDepth 20000 in
theorem ggX5_see_X5_low : GoodIn wsX5_see wsX5_low := goodIn_r _ [22, 1, 2, 3, 4, 5, 23, 28, 29, 30, 31, 32, 33, 34, 35, 36, 37, 38, 39] (by decide +kernel) (by decide +kernel)
set_option maxRecDepth 20000 in
theorem gX5_see_X5_low : GoodIn wsX5_see (wsV RX5 59 RX5 yX5_low wsX5_low) := goodIn_app (goodIn_of _ (by decide +kernel)) ggX5_see_X5_low
set_option maxRecDepth 20000 in
theorem ggX5_see_X5_high : GoodIn wsX5_see wsX5_high := goodIn_r _ [27, 1, 2, 3, 4, 5, 23, 28, 29, 30, 31, 32, 33, 34, 35, 36, 37, 38, 39] (by decide +kernel) (by decide +kernel)
set_option maxRecDepth 20000 in
theorem gX5_see_X5_high : GoodIn wsX5_see (wsV RX5 63 RX5 yX5_high wsX5_high) := goodIn_app (goodIn_of _ (by decide +kernel)) ggX5_see_X5_high
theorem dX5_see_0 : decode cX5_see 0 = .ok (.aload_n 0, 1) := by decide +kernel
theorem dX5_see_1 : decode cX5_see 1 = .ok (.iload_n 1, 1) := by decide +kernel
theorem dX5_see_2 : decode cX5_see 2 = .ok (.invokevirtual 52, 3) := by decide +kernel
theorem dX5_see_5 : decode cX5_see 5 = .ok (.ifCond .eq 43, 3) := by decide +kernel
theorem dX5_see_8 : decode cX5_see 8 = .ok (.iload_n 2, 1) := by decide +kernel
theorem dX5_see_9 : decode cX5_see 9 = .ok (.invokestatic 56, 3) := by decide +kernel
theorem dX5_see_12 : decode cX5_see 12 = .ok (.ifCond .eq 36, 3) := by decide +kernel
theorem dX5_see_15 : decode cX5_see 15 = .ok (.iload_n 3, 1) := by decide +kernel
theorem dX5_see_16 : decode cX5_see 16 = .ok (.iconst 0, 1) := by decide +kernel
theorem dX5_see_17 : decode cX5_see 17 = .ok (.sipush 4095, 3) := by decide +kernel
theorem dX5_see_20 : decode cX5_see 20 = .ok (.invokestatic 45, 3) := by decide +kernel
theorem dX5_see_23 : decode cX5_see 23 = .ok (.ifCond .eq 25, 3) := by decide +kernel
theorem dX5_see_26 : decode cX5_see 26 = .ok (.iload 4, 2) := by decide +kernel
theorem dX5_see_28 : decode cX5_see 28 = .ok (.iconst 0, 1) := by decide +kernel
theorem dX5_see_29 : decode cX5_see 29 = .ok (.bipush 63, 2) := by decide +kernel
theorem dX5_see_31 : decode cX5_see 31 = .ok (.invokestatic 45, 3) := by decide +kernel
theorem dX5_see_34 : decode cX5_see 34 = .ok (.ifCond .eq 14, 3) := by decide +kernel
theorem dX5_see_37 : decode cX5_see 37 = .ok (.aload_n 0, 1) := by decide +kernel
theorem dX5_see_38 : decode cX5_see 38 = .ok (.getfield 13, 3) := by decide +kernel
theorem dX5_see_41 : decode cX5_see 41 = .ok (.iload_n 1, 1) := by decide +kernel
theorem dX5_see_42 : decode cX5_see 42 = .ok (.iaload, 1) := by decide +kernel
theorem dX5_see_43 : decode cX5_see 43 = .ok (.bipush 12, 2) := by decide +kernel
theorem dX5_see_45 : decode cX5_see 45 = .ok (.if_icmp .ne 5, 3) := by decide +kernel
theorem dX5_see_48 : decode cX5_see 48 = .ok (.iconst (-1), 1) := by decide +kernel
theorem dX5_see_49 : decode cX5_see 49 = .ok (.ireturn, 1) := by decide +kernel
theorem dX5_see_50 : decode cX5_see 50 = .ok (.bipush 12, 2) := by decide +kernel
theorem dX5_see_52 : decode cX5_see 52 = .ok (.iload_n 1, 1) := by decide +kernel
theorem dX5_see_53 : decode cX5_see 53 = .ok (.imul, 1) := by decide +kernel
theorem dX5_see_54 : decode cX5_see 54 = .ok (.aload_n 0, 1) := by decide +kernel
theorem dX5_see_55 : decode cX5_see 55 = .ok (.getfield 13, 3) := by decide +kernel
theorem dX5_see_58 : decode cX5_see 58 = .ok (.iload_n 1, 1) := by decide +kernel
theorem dX5_see_59 : decode cX5_see 59 = .ok (.iaload, 1) := by decide +kernel
theorem dX5_see_60 : decode cX5_see 60 = .ok (.iadd, 1) := by decide +kernel
theorem dX5_see_61 : decode cX5_see 61 = .ok (.istore 5, 2) := by decide +kernel
theorem dX5_see_63 : decode cX5_see 63 = .ok (.aload_n 0, 1) := by decide +kernel
theorem dX5_see_64 : decode cX5_see 64 = .ok (.getfield 19, 3) := by decide +kernel
theorem dX5_see_67 : decode cX5_see 67 = .ok (.iload 5, 2) := by decide +kernel
theorem dX5_see_69 : decode cX5_see 69 = .ok (.iload_n 2, 1) := by decide +kernel
theorem dX5_see_70 : decode cX5_see 70 = .ok (.iastore, 1) := by decide +kernel
theorem dX5_see_71 : decode cX5_see 71 = .ok (.aload_n 0, 1) := by decide +kernel
theorem dX5_see_72 : decode cX5_see 72 = .ok (.getfield 22, 3) := by decide +kernel
theorem dX5_see_75 : decode cX5_see 75 = .ok (.iload 5, 2) := by decide +kernel
theorem dX5_see_77 : decode cX5_see 77 = .ok (.iload_n 3, 1) := by decide +kernel
theorem dX5_see_78 : decode cX5_see 78 = .ok (.bipush 64, 2) := by decide +kernel
theorem dX5_see_80 : decode cX5_see 80 = .ok (.idiv, 1) := by decide +kernel
theorem dX5_see_81 : decode cX5_see 81 = .ok (.iastore, 1) := by decide +kernel
theorem dX5_see_82 : decode cX5_see 82 = .ok (.aload_n 0, 1) := by decide +kernel
theorem dX5_see_83 : decode cX5_see 83 = .ok (.getfield 25, 3) := by decide +kernel
theorem dX5_see_86 : decode cX5_see 86 = .ok (.iload 5, 2) := by decide +kernel
theorem dX5_see_88 : decode cX5_see 88 = .ok (.iload_n 3, 1) := by decide +kernel
theorem dX5_see_89 : decode cX5_see 89 = .ok (.bipush 64, 2) := by decide +kernel
theorem dX5_see_91 : decode cX5_see 91 = .ok (.irem, 1) := by decide +kernel
theorem dX5_see_92 : decode cX5_see 92 = .ok (.iastore, 1) := by decide +kernel
theorem dX5_see_93 : decode cX5_see 93 = .ok (.aload_n 0, 1) := by decide +kernel
theorem dX5_see_94 : decode cX5_see 94 = .ok (.getfield 28, 3) := by decide +kernel
theorem dX5_see_97 : decode cX5_see 97 = .ok (.iload 5, 2) := by decide +kernel
theorem dX5_see_99 : decode cX5_see 99 = .ok (.iload 4, 2) := by decide +kernel
theorem dX5_see_101 : decode cX5_see 101 = .ok (.iastore, 1) := by decide +kernel
theorem dX5_see_102 : decode cX5_see 102 = .ok (.aload_n 0, 1) := by decide +kernel
theorem dX5_see_103 : decode cX5_see 103 = .ok (.getfield 13, 3) := by decide +kernel
theorem dX5_see_106 : decode cX5_see 106 = .ok (.iload_n 1, 1) := by decide +kernel
theorem dX5_see_107 : decode cX5_see 107 = .ok (.dup2, 1) := by decide +kernel
theorem dX5_see_108 : decode cX5_see 108 = .ok (.iaload, 1) := by decide +kernel
theorem dX5_see_109 : decode cX5_see 109 = .ok (.iconst 1, 1) := by decide +kernel
theorem dX5_see_110 : decode cX5_see 110 = .ok (.iadd, 1) := by decide +kernel
theorem dX5_see_111 : decode cX5_see 111 = .ok (.iastore, 1) := by decide +kernel
theorem dX5_see_112 : decode cX5_see 112 = .ok (.iconst 0, 1) := by decide +kernel
theorem dX5_see_113 : decode cX5_see 113 = .ok (.istore 6, 2) := by decide +kernel
theorem dX5_see_115 : decode cX5_see 115 = .ok (.iload 6, 2) := by decide +kernel
theorem dX5_see_117 : decode cX5_see 117 = .ok (.bipush 80, 2) := by decide +kernel
theorem dX5_see_119 : decode cX5_see 119 = .ok (.if_icmp .ge 72, 3) := by decide +kernel
theorem dX5_see_122 : decode cX5_see 122 = .ok (.aload_n 0, 1) := by decide +kernel
theorem dX5_see_123 : decode cX5_see 123 = .ok (.iload_n 1, 1) := by decide +kernel
theorem dX5_see_124 : decode cX5_see 124 = .ok (.iload 6, 2) := by decide +kernel
theorem dX5_see_126 : decode cX5_see 126 = .ok (.iconst 1, 1) := by decide +kernel
theorem dX5_see_127 : decode cX5_see 127 = .ok (.invokevirtual 59, 3) := by decide +kernel
theorem dX5_see_130 : decode cX5_see 130 = .ok (.aload_n 0, 1) := by decide +kernel
theorem dX5_see_131 : decode cX5_see 131 = .ok (.iload_n 1, 1) := by decide +kernel
theorem dX5_see_132 : decode cX5_see 132 = .ok (.iload 6, 2) := by decide +kernel
theorem dX5_see_134 : decode cX5_see 134 = .ok (.iconst 1, 1) := by decide +kernel
theorem dX5_see_135 : decode cX5_see 135 = .ok (.invokevirtual 63, 3) := by decide +kernel
theorem dX5_see_138 : decode cX5_see 138 = .ok (.if_icmp .gt 25, 3) := by decide +kernel
theorem dX5_see_141 : decode cX5_see 141 = .ok (.aload_n 0, 1) := by decide +kernel
theorem dX5_see_142 : decode cX5_see 142 = .ok (.iload_n 1, 1) := by decide +kernel
theorem dX5_see_143 : decode cX5_see 143 = .ok (.iload 6, 2) := by decide +kernel
theorem dX5_see_145 : decode cX5_see 145 = .ok (.iconst 0, 1) := by decide +kernel
theorem dX5_see_146 : decode cX5_see 146 = .ok (.invokevirtual 59, 3) := by decide +kernel
theorem dX5_see_149 : decode cX5_see 149 = .ok (.aload_n 0, 1) := by decide +kernel
theorem dX5_see_150 : decode cX5_see 150 = .ok (.iload_n 1, 1) := by decide +kernel
theorem dX5_see_151 : decode cX5_see 151 = .ok (.iload 6, 2) := by decide +kernel
theorem dX5_see_153 : decode cX5_see 153 = .ok (.iconst 0, 1) := by decide +kernel
theorem dX5_see_154 : decode cX5_see 154 = .ok (.invokevirtual 63, 3) := by decide +kernel
theorem dX5_see_157 : decode cX5_see 157 = .ok (.if_icmp .gt 6, 3) := by decide +kernel
theorem dX5_see_160 : decode cX5_see 160 = .ok (.goto 25, 3) := by decide +kernel
theorem dX5_see_163 : decode cX5_see 163 = .ok (.aload_n 0, 1) := by decide +kernel
theorem dX5_see_164 : decode cX5_see 164 = .ok (.getfield 13, 3) := by decide +kernel
theorem dX5_see_167 : decode cX5_see 167 = .ok (.iload_n 1, 1) := by decide +kernel
theorem dX5_see_168 : decode cX5_see 168 = .ok (.dup2, 1) := by decide +kernel
theorem dX5_see_169 : decode cX5_see 169 = .ok (.iaload, 1) := by decide +kernel
theorem dX5_see_170 : decode cX5_see 170 = .ok (.iconst 1, 1) := by decide +kernel
theorem dX5_see_171 : decode cX5_see 171 = .ok (.isub, 1) := by decide +kernel
theorem dX5_see_172 : decode cX5_see 172 = .ok (.iastore, 1) := by decide +kernel
theorem dX5_see_173 : decode cX5_see 173 = .ok (.aload_n 0, 1) := by decide +kernel
theorem dX5_see_174 : decode cX5_see 174 = .ok (.getfield 16, 3) := by decide +kernel
theorem dX5_see_177 : decode cX5_see 177 = .ok (.iload_n 1, 1) := by decide +kernel
theorem dX5_see_178 : decode cX5_see 178 = .ok (.dup2, 1) := by decide +kernel
theorem dX5_see_179 : decode cX5_see 179 = .ok (.iaload, 1) := by decide +kernel
theorem dX5_see_180 : decode cX5_see 180 = .ok (.iconst 1, 1) := by decide +kernel
theorem dX5_see_181 : decode cX5_see 181 = .ok (.iadd, 1) := by decide +kernel
theorem dX5_see_182 : decode cX5_see 182 = .ok (.iastore, 1) := by decide +kernel
theorem dX5_see_183 : decode cX5_see 183 = .ok (.iconst (-1), 1) := by decide +kernel
theorem dX5_see_184 : decode cX5_see 184 = .ok (.ireturn, 1) := by decide +kernel
theorem dX5_see_185 : decode cX5_see 185 = .ok (.iinc 6 1, 3) := by decide +kernel
theorem dX5_see_188 : decode cX5_see 188 = .ok (.goto (-73), 3) := by decide +kernel
theorem dX5_see_191 : decode cX5_see 191 = .ok (.aload_n 0, 1) := by decide +kernel
theorem dX5_see_192 : decode cX5_see 192 = .ok (.getfield 13, 3) := by decide +kernel
theorem dX5_see_195 : decode cX5_see 195 = .ok (.iload_n 1, 1) := by decide +kernel
theorem dX5_see_196 : decode cX5_see 196 = .ok (.iaload, 1) := by decide +kernel
theorem dX5_see_197 : decode cX5_see 197 = .ok (.ireturn, 1) := by decide +kernel
set_option maxRecDepth 20000 in
theorem ggX5_back_X5_isThing : GoodIn wsX5_back wsX5_isThing := goodIn_r _ [6, 7, 8, 9, 5, 10, 11, 12, 13, 14, 15, 16, 17, 18, 19, 20, 21, 22] (by decide +kernel) (by decide +kernel)
set_option maxRecDepth 20000 in
theorem gX5_back_X5_isThing : GoodIn wsX5_back (wsV RX5 52 RX5 yX5_isThing wsX5_isThing) := goodIn_app (goodIn_of _ (by decide +kernel)) ggX5_back_X5_isThing
theorem dX5_back_0 : decode cX5_back 0 = .ok (.aload_n 0, 1) := by decide +kernel
theorem dX5_back_1 : decode cX5_back 1 = .ok (.iload_n 1, 1) := by decide +kernel
theorem dX5_back_2 : decode cX5_back 2 = .ok (.invokevirtual 52, 3) := by decide +kernel
theorem dX5_back_5 : decode cX5_back 5 = .ok (.ifCond .eq 12, 3) := by decide +kernel
theorem dX5_back_8 : decode cX5_back 8 = .ok (.aload_n 0, 1) := by decide +kernel
theorem dX5_back_9 : decode cX5_back 9 = .ok (.getfield 13, 3) := by decide +kernel
theorem dX5_back_12 : decode cX5_back 12 = .ok (.iload_n 1, 1) := by decide +kernel
theorem dX5_back_13 : decode cX5_back 13 = .ok (.iaload, 1) := by decide +kernel
theorem dX5_back_14 : decode cX5_back 14 = .ok (.ifCond .ne 5, 3) := by decide +kernel
theorem dX5_back_17 : decode cX5_back 17 = .ok (.iconst 0, 1) := by decide +kernel
theorem dX5_back_18 : decode cX5_back 18 = .ok (.ireturn, 1) := by decide +kernel
theorem dX5_back_19 : decode cX5_back 19 = .ok (.aload_n 0, 1) := by decide +kernel
theorem dX5_back_20 : decode cX5_back 20 = .ok (.getfield 13, 3) := by decide +kernel
theorem dX5_back_23 : decode cX5_back 23 = .ok (.iload_n 1, 1) := by decide +kernel
theorem dX5_back_24 : decode cX5_back 24 = .ok (.dup2, 1) := by decide +kernel
theorem dX5_back_25 : decode cX5_back 25 = .ok (.iaload, 1) := by decide +kernel
theorem dX5_back_26 : decode cX5_back 26 = .ok (.iconst 1, 1) := by decide +kernel
theorem dX5_back_27 : decode cX5_back 27 = .ok (.isub, 1) := by decide +kernel
theorem dX5_back_28 : decode cX5_back 28 = .ok (.iastore, 1) := by decide +kernel
theorem dX5_back_29 : decode cX5_back 29 = .ok (.iconst 1, 1) := by decide +kernel
theorem dX5_back_30 : decode cX5_back 30 = .ok (.ireturn, 1) := by decide +kernel
set_option maxRecDepth 20000 in
theorem ggX5_jumps_X5_isThing : GoodIn wsX5_jumps wsX5_isThing := goodIn_r _ [6, 7, 8, 9, 5, 10, 11, 12, 13, 14, 15, 16, 17, 18, 19, 20, 21, 22] (by decide +kernel) (by decide +kernel)
set_option maxRecDepth 20000 in
theorem gX5_jumps_X5_isThing : GoodIn wsX5_jumps (wsV RX5 52 RX5 yX5_isThing wsX5_isThing) := goodIn_app (goodIn_of _ (by decide +kernel)) ggX5_jumps_X5_isThing
theorem dX5_jumps_0 : decode cX5_jumps 0 = .ok (.aload_n 0, 1) := by decide +kernel
theorem dX5_jumps_1 : decode cX5_jumps 1 = .ok (.iload_n 1, 1) := by decide +kernel
theorem dX5_jumps_2 : decode cX5_jumps 2 = .ok (.invokevirtual 52, 3) := by decide +kernel
theorem dX5_jumps_5 : decode cX5_jumps 5 = .ok (.ifCond .eq 12, 3) := by decide +kernel
theorem dX5_jumps_8 : decode cX5_jumps 8 = .ok (.aload_n 0, 1) := by decide +kernel
theorem dX5_jumps_9 : decode cX5_jumps 9 = .ok (.getfield 16, 3) := by decide +kernel
theorem dX5_jumps_12 : decode cX5_jumps 12 = .ok (.iload_n 1, 1) := by decide +kernel
theorem dX5_jumps_13 : decode cX5_jumps 13 = .ok (.iaload, 1) := by decide +kernel
theorem dX5_jumps_14 : decode cX5_jumps 14 = .ok (.goto 4, 3) := by decide +kernel
theorem dX5_jumps_17 : decode cX5_jumps 17 = .ok (.iconst (-1), 1) := by decide +kernel
theorem dX5_jumps_18 : decode cX5_jumps 18 = .ok (.ireturn, 1) := by decide +kernel
set_option maxRecDepth 20000 in
theorem ggX5_where_X5_isThing : GoodIn wsX5_where wsX5_isThing := goodIn_r _ [5, 6, 7, 8, 4, 9, 27, 28, 29, 30, 31, 32, 33, 34, 35, 36, 37, 38] (by decide +kernel) (by decide +kernel)
set_option maxRecDepth 20000 in
theorem gX5_where_X5_isThing : GoodIn wsX5_where (wsV RX5 52 RX5 yX5_isThing wsX5_isThing) := goodIn_app (goodIn_of _ (by decide +kernel)) ggX5_where_X5_isThing
set_option maxRecDepth 20000 in
theorem ggX5_where_X5_isTick : GoodIn wsX5_where wsX5_isTick := goodIn_r _ [12, 7, 8, 4, 9] (by decide +kernel) (by decide +kernel)
set_option maxRecDepth 20000 in
theorem gX5_where_X5_isTick : GoodIn wsX5_where (va_wsS RX5 56 yX5_isTick wsX5_isTick) := goodIn_app (goodIn_of _ (by decide +kernel)) ggX5_where_X5_isTick
set_option maxRecDepth 20000 in
theorem ggX5_where_X5_low : GoodIn wsX5_where wsX5_low := goodIn_r _ [16, 17, 18, 19, 20, 21, 22, 27, 28, 29, 30, 31, 32, 33, 34, 35, 36, 37, 38] (by decide +kernel) (by decide +kernel)
set_option maxRecDepth 20000 in
theorem gX5_where_X5_low : GoodIn wsX5_where (wsV RX5 59 RX5 yX5_low wsX5_low) := goodIn_app (goodIn_of _ (by decide +kernel)) ggX5_where_X5_low
set_option maxRecDepth 20000 in
theorem ggX5_where_X5_high : GoodIn wsX5_where wsX5_high := goodIn_r _ [26, 17, 18, 19, 20, 21, 22, 27, 28, 29, 30, 31, 32, 33, 34, 35, 36, 37, 38] (by decide +kernel) (by decide +kernel)
set_option maxRecDepth 20000 in
theorem gX5_where_X5_high : GoodIn wsX5_where (wsV RX5 63 RX5 yX5_high wsX5_high) := goodIn_app (goodIn_of _ (by decide +kernel)) ggX5_where_X5_high
theorem dX5_where_0 : decode cX5_where 0 = .ok (.aload_n 0, 1) := by decide +kernel
theorem dX5_where_1 : decode cX5_where 1 = .ok (.iload_n 1, 1) := by decide +kernel
theorem dX5_where_2 : decode cX5_where 2 = .ok (.invokevirtual 52, 3) := by decide +kernel
theorem dX5_where_5 : decode cX5_where 5 = .ok (.ifCond .eq 10, 3) := by decide +kernel
theorem dX5_where_8 : decode cX5_where 8 = .ok (.iload_n 2, 1) := by decide +kernel
theorem dX5_where_9 : decode cX5_where 9 = .ok (.invokestatic 56, 3) := by decide +kernel
theorem dX5_where_12 : decode cX5_where 12 = .ok (.ifCond .ne 5, 3) := by decide +kernel
theorem dX5_where_15 : decode cX5_where 15 = .ok (.iconst (-1), 1) := by decide +kernel
theorem dX5_where_16 : decode cX5_where 16 = .ok (.ireturn, 1) := by decide +kernel
theorem dX5_where_17 : decode cX5_where 17 = .ok (.aload_n 0, 1) := by decide +kernel
theorem dX5_where_18 : decode cX5_where 18 = .ok (.iload_n 1, 1) := by decide +kernel
theorem dX5_where_19 : decode cX5_where 19 = .ok (.iload_n 2, 1) := by decide +kernel
theorem dX5_where_20 : decode cX5_where 20 = .ok (.iconst 1, 1) := by decide +kernel
theorem dX5_where_21 : decode cX5_where 21 = .ok (.invokevirtual 59, 3) := by decide +kernel
theorem dX5_where_24 : decode cX5_where 24 = .ok (.istore 4, 2) := by decide +kernel
theorem dX5_where_26 : decode cX5_where 26 = .ok (.aload_n 0, 1) := by decide +kernel
theorem dX5_where_27 : decode cX5_where 27 = .ok (.iload_n 1, 1) := by decide +kernel
theorem dX5_where_28 : decode cX5_where 28 = .ok (.iload_n 2, 1) := by decide +kernel
theorem dX5_where_29 : decode cX5_where 29 = .ok (.iconst 1, 1) := by decide +kernel
theorem dX5_where_30 : decode cX5_where 30 = .ok (.invokevirtual 63, 3) := by decide +kernel
theorem dX5_where_33 : decode cX5_where 33 = .ok (.istore 5, 2) := by decide +kernel
theorem dX5_where_35 : decode cX5_where 35 = .ok (.aload_n 0, 1) := by decide +kernel
theorem dX5_where_36 : decode cX5_where 36 = .ok (.iload_n 1, 1) := by decide +kernel
theorem dX5_where_37 : decode cX5_where 37 = .ok (.iload_n 2, 1) := by decide +kernel
theorem dX5_where_38 : decode cX5_where 38 = .ok (.iconst 0, 1) := by decide +kernel
theorem dX5_where_39 : decode cX5_where 39 = .ok (.invokevirtual 59, 3) := by decide +kernel
theorem dX5_where_42 : decode cX5_where 42 = .ok (.istore 6, 2) := by decide +kernel
theorem dX5_where_44 : decode cX5_where 44 = .ok (.aload_n 0, 1) := by decide +kernel
theorem dX5_where_45 : decode cX5_where 45 = .ok (.iload_n 1, 1) := by decide +kernel
theorem dX5_where_46 : decode cX5_where 46 = .ok (.iload_n 2, 1) := by decide +kernel
theorem dX5_where_47 : decode cX5_where 47 = .ok (.iconst 0, 1) := by decide +kernel
theorem dX5_where_48 : decode cX5_where 48 = .ok (.invokevirtual 63, 3) := by decide +kernel
theorem dX5_where_51 : decode cX5_where 51 = .ok (.istore 7, 2) := by decide +kernel
theorem dX5_where_53 : decode cX5_where 53 = .ok (.iload_n 3, 1) := by decide +kernel
theorem dX5_where_54 : decode cX5_where 54 = .ok (.tableswitch 62 0 4 #[34, 37, 40, 43, 46], 34) := by decide +kernel
theorem dX5_where_88 : decode cX5_where 88 = .ok (.iload 4, 2) := by decide +kernel
theorem dX5_where_90 : decode cX5_where 90 = .ok (.ireturn, 1) := by decide +kernel
theorem dX5_where_91 : decode cX5_where 91 = .ok (.iload 5, 2) := by decide +kernel
theorem dX5_where_93 : decode cX5_where 93 = .ok (.ireturn, 1) := by decide +kernel
theorem dX5_where_94 : decode cX5_where 94 = .ok (.iload 6, 2) := by decide +kernel
theorem dX5_where_96 : decode cX5_where 96 = .ok (.ireturn, 1) := by decide +kernel
theorem dX5_where_97 : decode cX5_where 97 = .ok (.iload 7, 2) := by decide +kernel
theorem dX5_where_99 : decode cX5_where 99 = .ok (.ireturn, 1) := by decide +kernel
theorem dX5_where_100 : decode cX5_where 100 = .ok (.iload 5, 2) := by decide +kernel
theorem dX5_where_102 : decode cX5_where 102 = .ok (.iload 4, 2) := by decide +kernel
theorem dX5_where_104 : decode cX5_where 104 = .ok (.isub, 1) := by decide +kernel
theorem dX5_where_105 : decode cX5_where 105 = .ok (.iconst 1, 1) := by decide +kernel
theorem dX5_where_106 : decode cX5_where 106 = .ok (.iadd, 1) := by decide +kernel
theorem dX5_where_107 : decode cX5_where 107 = .ok (.iload 7, 2) := by decide +kernel
theorem dX5_where_109 : decode cX5_where 109 = .ok (.iload 6, 2) := by decide +kernel
theorem dX5_where_111 : decode cX5_where 111 = .ok (.isub, 1) := by decide +kernel
theorem dX5_where_112 : decode cX5_where 112 = .ok (.iconst 1, 1) := by decide +kernel
theorem dX5_where_113 : decode cX5_where 113 = .ok (.iadd, 1) := by decide +kernel
theorem dX5_where_114 : decode cX5_where 114 = .ok (.imul, 1) := by decide +kernel
theorem dX5_where_115 : decode cX5_where 115 = .ok (.ireturn, 1) := by decide +kernel
theorem dX5_where_116 : decode cX5_where 116 = .ok (.iconst (-1), 1) := by decide +kernel
theorem dX5_where_117 : decode cX5_where 117 = .ok (.ireturn, 1) := by decide +kernel
theorem dX5_ground_0 : decode cX5_ground 0 = .ok (.aload_n 0, 1) := by decide +kernel
theorem dX5_ground_1 : decode cX5_ground 1 = .ok (.getfield 49, 3) := by decide +kernel
theorem dX5_ground_4 : decode cX5_ground 4 = .ok (.iconst 4, 1) := by decide +kernel
theorem dX5_ground_5 : decode cX5_ground 5 = .ok (.if_icmp .ne 5, 3) := by decide +kernel
theorem dX5_ground_8 : decode cX5_ground 8 = .ok (.iconst (-1), 1) := by decide +kernel
theorem dX5_ground_9 : decode cX5_ground 9 = .ok (.ireturn, 1) := by decide +kernel
theorem dX5_ground_10 : decode cX5_ground 10 = .ok (.aload_n 0, 1) := by decide +kernel
theorem dX5_ground_11 : decode cX5_ground 11 = .ok (.dup, 1) := by decide +kernel
theorem dX5_ground_12 : decode cX5_ground 12 = .ok (.getfield 49, 3) := by decide +kernel
theorem dX5_ground_15 : decode cX5_ground 15 = .ok (.iconst 1, 1) := by decide +kernel
theorem dX5_ground_16 : decode cX5_ground 16 = .ok (.iadd, 1) := by decide +kernel
theorem dX5_ground_17 : decode cX5_ground 17 = .ok (.putfield 49, 3) := by decide +kernel
theorem dX5_ground_20 : decode cX5_ground 20 = .ok (.aload_n 0, 1) := by decide +kernel
theorem dX5_ground_21 : decode cX5_ground 21 = .ok (.getfield 49, 3) := by decide +kernel
theorem dX5_ground_24 : decode cX5_ground 24 = .ok (.iconst 1, 1) := by decide +kernel
theorem dX5_ground_25 : decode cX5_ground 25 = .ok (.isub, 1) := by decide +kernel
theorem dX5_ground_26 : decode cX5_ground 26 = .ok (.ireturn, 1) := by decide +kernel
set_option maxRecDepth 20000 in
theorem ggX5_draw_X5_isGround : GoodIn wsX5_draw wsX5_isGround := goodIn_r _ [6, 7, 8, 9, 5, 10, 11, 12, 13, 14, 15, 16, 17, 18, 19, 20, 21, 22] (by decide +kernel) (by decide +kernel)
set_option maxRecDepth 20000 in
theorem gX5_draw_X5_isGround : GoodIn wsX5_draw (wsV RX5 66 RX5 yX5_isGround wsX5_isGround) := goodIn_app (goodIn_of _ (by decide +kernel)) ggX5_draw_X5_isGround
set_option maxRecDepth 20000 in
theorem ggX5_draw_X5_in : GoodIn wsX5_draw wsX5_in := goodIn_r _ [10] (by decide +kernel) (by decide +kernel)
set_option maxRecDepth 20000 in
theorem gX5_draw_X5_in : GoodIn wsX5_draw (va_wsS RX5 45 yX5_in wsX5_in) := goodIn_app (goodIn_of _ (by decide +kernel)) ggX5_draw_X5_in
theorem dX5_draw_0 : decode cX5_draw 0 = .ok (.aload_n 0, 1) := by decide +kernel
theorem dX5_draw_1 : decode cX5_draw 1 = .ok (.iload_n 1, 1) := by decide +kernel
theorem dX5_draw_2 : decode cX5_draw 2 = .ok (.invokevirtual 66, 3) := by decide +kernel
theorem dX5_draw_5 : decode cX5_draw 5 = .ok (.ifCond .eq 25, 3) := by decide +kernel
theorem dX5_draw_8 : decode cX5_draw 8 = .ok (.iload_n 2, 1) := by decide +kernel
theorem dX5_draw_9 : decode cX5_draw 9 = .ok (.iconst 0, 1) := by decide +kernel
theorem dX5_draw_10 : decode cX5_draw 10 = .ok (.sipush 4095, 3) := by decide +kernel
theorem dX5_draw_13 : decode cX5_draw 13 = .ok (.invokestatic 45, 3) := by decide +kernel
theorem dX5_draw_16 : decode cX5_draw 16 = .ok (.ifCond .eq 14, 3) := by decide +kernel
theorem dX5_draw_19 : decode cX5_draw 19 = .ok (.iload_n 3, 1) := by decide +kernel
theorem dX5_draw_20 : decode cX5_draw 20 = .ok (.iconst 0, 1) := by decide +kernel
theorem dX5_draw_21 : decode cX5_draw 21 = .ok (.sipush 4095, 3) := by decide +kernel
theorem dX5_draw_24 : decode cX5_draw 24 = .ok (.invokestatic 45, 3) := by decide +kernel
theorem dX5_draw_27 : decode cX5_draw 27 = .ok (.ifCond .ne 5, 3) := by decide +kernel
theorem dX5_draw_30 : decode cX5_draw 30 = .ok (.iconst (-1), 1) := by decide +kernel
theorem dX5_draw_31 : decode cX5_draw 31 = .ok (.ireturn, 1) := by decide +kernel
theorem dX5_draw_32 : decode cX5_draw 32 = .ok (.iload_n 3, 1) := by decide +kernel
theorem dX5_draw_33 : decode cX5_draw 33 = .ok (.bipush 64, 2) := by decide +kernel
theorem dX5_draw_35 : decode cX5_draw 35 = .ok (.idiv, 1) := by decide +kernel
theorem dX5_draw_36 : decode cX5_draw 36 = .ok (.iload_n 2, 1) := by decide +kernel
theorem dX5_draw_37 : decode cX5_draw 37 = .ok (.bipush 64, 2) := by decide +kernel
theorem dX5_draw_39 : decode cX5_draw 39 = .ok (.idiv, 1) := by decide +kernel
theorem dX5_draw_40 : decode cX5_draw 40 = .ok (.if_icmp .lt 14, 3) := by decide +kernel
theorem dX5_draw_43 : decode cX5_draw 43 = .ok (.iload_n 3, 1) := by decide +kernel
theorem dX5_draw_44 : decode cX5_draw 44 = .ok (.bipush 64, 2) := by decide +kernel
theorem dX5_draw_46 : decode cX5_draw 46 = .ok (.irem, 1) := by decide +kernel
theorem dX5_draw_47 : decode cX5_draw 47 = .ok (.iload_n 2, 1) := by decide +kernel
theorem dX5_draw_48 : decode cX5_draw 48 = .ok (.bipush 64, 2) := by decide +kernel
theorem dX5_draw_50 : decode cX5_draw 50 = .ok (.irem, 1) := by decide +kernel
theorem dX5_draw_51 : decode cX5_draw 51 = .ok (.if_icmp .ge 5, 3) := by decide +kernel
theorem dX5_draw_54 : decode cX5_draw 54 = .ok (.iconst (-1), 1) := by decide +kernel
theorem dX5_draw_55 : decode cX5_draw 55 = .ok (.ireturn, 1) := by decide +kernel
theorem dX5_draw_56 : decode cX5_draw 56 = .ok (.iconst 0, 1) := by decide +kernel
theorem dX5_draw_57 : decode cX5_draw 57 = .ok (.istore 5, 2) := by decide +kernel
theorem dX5_draw_59 : decode cX5_draw 59 = .ok (.iconst 0, 1) := by decide +kernel
theorem dX5_draw_60 : decode cX5_draw 60 = .ok (.istore 6, 2) := by decide +kernel
theorem dX5_draw_62 : decode cX5_draw 62 = .ok (.iload 6, 2) := by decide +kernel
theorem dX5_draw_64 : decode cX5_draw 64 = .ok (.sipush 4096, 3) := by decide +kernel
theorem dX5_draw_67 : decode cX5_draw 67 = .ok (.if_icmp .ge 100, 3) := by decide +kernel
theorem dX5_draw_70 : decode cX5_draw 70 = .ok (.iload 6, 2) := by decide +kernel
theorem dX5_draw_72 : decode cX5_draw 72 = .ok (.bipush 64, 2) := by decide +kernel
theorem dX5_draw_74 : decode cX5_draw 74 = .ok (.idiv, 1) := by decide +kernel
theorem dX5_draw_75 : decode cX5_draw 75 = .ok (.iload_n 2, 1) := by decide +kernel
theorem dX5_draw_76 : decode cX5_draw 76 = .ok (.bipush 64, 2) := by decide +kernel
theorem dX5_draw_78 : decode cX5_draw 78 = .ok (.idiv, 1) := by decide +kernel
theorem dX5_draw_79 : decode cX5_draw 79 = .ok (.iload_n 3, 1) := by decide +kernel
theorem dX5_draw_80 : decode cX5_draw 80 = .ok (.bipush 64, 2) := by decide +kernel
theorem dX5_draw_82 : decode cX5_draw 82 = .ok (.idiv, 1) := by decide +kernel
theorem dX5_draw_83 : decode cX5_draw 83 = .ok (.invokestatic 45, 3) := by decide +kernel
theorem dX5_draw_86 : decode cX5_draw 86 = .ok (.ifCond .eq 26, 3) := by decide +kernel
theorem dX5_draw_89 : decode cX5_draw 89 = .ok (.iload 6, 2) := by decide +kernel
theorem dX5_draw_91 : decode cX5_draw 91 = .ok (.bipush 64, 2) := by decide +kernel
theorem dX5_draw_93 : decode cX5_draw 93 = .ok (.irem, 1) := by decide +kernel
theorem dX5_draw_94 : decode cX5_draw 94 = .ok (.iload_n 2, 1) := by decide +kernel
theorem dX5_draw_95 : decode cX5_draw 95 = .ok (.bipush 64, 2) := by decide +kernel
theorem dX5_draw_97 : decode cX5_draw 97 = .ok (.irem, 1) := by decide +kernel
theorem dX5_draw_98 : decode cX5_draw 98 = .ok (.iload_n 3, 1) := by decide +kernel
theorem dX5_draw_99 : decode cX5_draw 99 = .ok (.bipush 64, 2) := by decide +kernel
theorem dX5_draw_101 : decode cX5_draw 101 = .ok (.irem, 1) := by decide +kernel
theorem dX5_draw_102 : decode cX5_draw 102 = .ok (.invokestatic 45, 3) := by decide +kernel
theorem dX5_draw_105 : decode cX5_draw 105 = .ok (.ifCond .eq 7, 3) := by decide +kernel
theorem dX5_draw_108 : decode cX5_draw 108 = .ok (.iconst 1, 1) := by decide +kernel
theorem dX5_draw_109 : decode cX5_draw 109 = .ok (.goto 4, 3) := by decide +kernel
theorem dX5_draw_112 : decode cX5_draw 112 = .ok (.iconst 0, 1) := by decide +kernel
theorem dX5_draw_113 : decode cX5_draw 113 = .ok (.istore 7, 2) := by decide +kernel
theorem dX5_draw_115 : decode cX5_draw 115 = .ok (.iload 7, 2) := by decide +kernel
theorem dX5_draw_117 : decode cX5_draw 117 = .ok (.ifCond .eq 18, 3) := by decide +kernel
theorem dX5_draw_120 : decode cX5_draw 120 = .ok (.aload_n 0, 1) := by decide +kernel
end
section
theorem dX5_draw_121 : decode cX5_draw 121 = .ok (.getfield 31, 3) := by decide +kernel
theorem dX5_draw_124 : decode cX5_draw 124 = .ok (.sipush 4096, 3) := by decide +kernel
theorem dX5_draw_127 : decode cX5_draw 127 = .ok (.iload_n 1, 1) := by decide +kernel
theorem dX5_draw_128 : decode cX5_draw 128 = .ok (.imul, 1) := by decide +kernel
theorem dX5_draw_129 : decode cX5_draw 129 = .ok (.iload 6, 2) := by decide +kernel
theorem dX5_draw_131 : decode cX5_draw 131 = .ok (.iadd, 1) := by decide +kernel
theorem dX5_draw_132 : decode cX5_draw 132 = .ok (.iload 4, 2) := by decide +kernel
theorem dX5_draw_134 : decode cX5_draw 134 = .ok (.bastore, 1) := by decide +kernel
theorem dX5_draw_135 : decode cX5_draw 135 = .ok (.iload 5, 2) := by decide +kernel
theorem dX5_draw_137 : decode cX5_draw 137 = .ok (.aload_n 0, 1) := by decide +kernel
theorem dX5_draw_138 : decode cX5_draw 138 = .ok (.getfield 31, 3) := by decide +kernel
theorem dX5_draw_141 : decode cX5_draw 141 = .ok (.sipush 4096, 3) := by decide +kernel
theorem dX5_draw_144 : decode cX5_draw 144 = .ok (.iload_n 1, 1) := by decide +kernel
theorem dX5_draw_145 : decode cX5_draw 145 = .ok (.imul, 1) := by decide +kernel
theorem dX5_draw_146 : decode cX5_draw 146 = .ok (.iload 6, 2) := by decide +kernel
theorem dX5_draw_148 : decode cX5_draw 148 = .ok (.iadd, 1) := by decide +kernel
theorem dX5_draw_149 : decode cX5_draw 149 = .ok (.baload, 1) := by decide +kernel
theorem dX5_draw_150 : decode cX5_draw 150 = .ok (.ifCond .eq 7, 3) := by decide +kernel
theorem dX5_draw_153 : decode cX5_draw 153 = .ok (.iconst 1, 1) := by decide +kernel
theorem dX5_draw_154 : decode cX5_draw 154 = .ok (.goto 4, 3) := by decide +kernel
theorem dX5_draw_157 : decode cX5_draw 157 = .ok (.iconst 0, 1) := by decide +kernel
theorem dX5_draw_158 : decode cX5_draw 158 = .ok (.iadd, 1) := by decide +kernel
theorem dX5_draw_159 : decode cX5_draw 159 = .ok (.istore 5, 2) := by decide +kernel
theorem dX5_draw_161 : decode cX5_draw 161 = .ok (.iinc 6 1, 3) := by decide +kernel
theorem dX5_draw_164 : decode cX5_draw 164 = .ok (.goto (-102), 3) := by decide +kernel
theorem dX5_draw_167 : decode cX5_draw 167 = .ok (.iload 5, 2) := by decide +kernel
theorem dX5_draw_169 : decode cX5_draw 169 = .ok (.ireturn, 1) := by decide +kernel
set_option maxRecDepth 20000 in
theorem ggX5_has_X5_isGround : GoodIn wsX5_has wsX5_isGround := goodIn_r _ [6, 7, 8, 9, 5, 10, 11, 12, 13, 14, 15, 16, 17, 18, 19, 20, 21, 22] (by decide +kernel) (by decide +kernel)
set_option maxRecDepth 20000 in
theorem gX5_has_X5_isGround : GoodIn wsX5_has (wsV RX5 66 RX5 yX5_isGround wsX5_isGround) := goodIn_app (goodIn_of _ (by decide +kernel)) ggX5_has_X5_isGround
set_option maxRecDepth 20000 in
theorem ggX5_has_X5_in : GoodIn wsX5_has wsX5_in := goodIn_r _ [10] (by decide +kernel) (by decide +kernel)
set_option maxRecDepth 20000 in
theorem gX5_has_X5_in : GoodIn wsX5_has (va_wsS RX5 45 yX5_in wsX5_in) := goodIn_app (goodIn_of _ (by decide +kernel)) ggX5_has_X5_in
theorem dX5_has_0 : decode cX5_has 0 = .ok (.aload_n 0, 1) := by decide +kernel
theorem dX5_has_1 : decode cX5_has 1 = .ok (.iload_n 1, 1) := by decide +kernel
theorem dX5_has_2 : decode cX5_has 2 = .ok (.invokevirtual 66, 3) := by decide +kernel
theorem dX5_has_5 : decode cX5_has 5 = .ok (.ifCond .eq 33, 3) := by decide +kernel
theorem dX5_has_8 : decode cX5_has 8 = .ok (.iload_n 2, 1) := by decide +kernel
theorem dX5_has_9 : decode cX5_has 9 = .ok (.iconst 0, 1) := by decide +kernel
theorem dX5_has_10 : decode cX5_has 10 = .ok (.sipush 4095, 3) := by decide +kernel
theorem dX5_has_13 : decode cX5_has 13 = .ok (.invokestatic 45, 3) := by decide +kernel
theorem dX5_has_16 : decode cX5_has 16 = .ok (.ifCond .eq 22, 3) := by decide +kernel
theorem dX5_has_19 : decode cX5_has 19 = .ok (.aload_n 0, 1) := by decide +kernel
theorem dX5_has_20 : decode cX5_has 20 = .ok (.getfield 31, 3) := by decide +kernel
theorem dX5_has_23 : decode cX5_has 23 = .ok (.sipush 4096, 3) := by decide +kernel
theorem dX5_has_26 : decode cX5_has 26 = .ok (.iload_n 1, 1) := by decide +kernel
theorem dX5_has_27 : decode cX5_has 27 = .ok (.imul, 1) := by decide +kernel
theorem dX5_has_28 : decode cX5_has 28 = .ok (.iload_n 2, 1) := by decide +kernel
theorem dX5_has_29 : decode cX5_has 29 = .ok (.iadd, 1) := by decide +kernel
theorem dX5_has_30 : decode cX5_has 30 = .ok (.baload, 1) := by decide +kernel
theorem dX5_has_31 : decode cX5_has 31 = .ok (.ifCond .eq 7, 3) := by decide +kernel
theorem dX5_has_34 : decode cX5_has 34 = .ok (.iconst 1, 1) := by decide +kernel
theorem dX5_has_35 : decode cX5_has 35 = .ok (.goto 4, 3) := by decide +kernel
theorem dX5_has_38 : decode cX5_has 38 = .ok (.iconst 0, 1) := by decide +kernel
theorem dX5_has_39 : decode cX5_has 39 = .ok (.ireturn, 1) := by decide +kernel
set_option maxRecDepth 20000 in
theorem ggX5_state_X5_isThing : GoodIn wsX5_state wsX5_isThing := goodIn_r _ [6, 7, 8, 9, 5, 10, 33, 34, 35, 36, 37, 38, 39, 40, 41, 42, 43, 44] (by decide +kernel) (by decide +kernel)
set_option maxRecDepth 20000 in
theorem gX5_state_X5_isThing : GoodIn wsX5_state (wsV RX5 52 RX5 yX5_isThing wsX5_isThing) := goodIn_app (goodIn_of _ (by decide +kernel)) ggX5_state_X5_isThing
set_option maxRecDepth 20000 in
theorem ggX5_state_X5_isGround : GoodIn wsX5_state wsX5_isGround := goodIn_r _ [14, 15, 8, 9, 5, 10, 33, 34, 35, 36, 37, 38, 39, 40, 41, 42, 43, 44] (by decide +kernel) (by decide +kernel)
set_option maxRecDepth 20000 in
theorem gX5_state_X5_isGround : GoodIn wsX5_state (wsV RX5 66 RX5 yX5_isGround wsX5_isGround) := goodIn_app (goodIn_of _ (by decide +kernel)) ggX5_state_X5_isGround
set_option maxRecDepth 20000 in
theorem ggX5_state_X5_isTick : GoodIn wsX5_state wsX5_isTick := goodIn_r _ [18, 8, 9, 5, 10] (by decide +kernel) (by decide +kernel)
set_option maxRecDepth 20000 in
theorem gX5_state_X5_isTick : GoodIn wsX5_state (va_wsS RX5 56 yX5_isTick wsX5_isTick) := goodIn_app (goodIn_of _ (by decide +kernel)) ggX5_state_X5_isTick
set_option maxRecDepth 20000 in
theorem ggX5_state_X5_high : GoodIn wsX5_state wsX5_high := goodIn_r _ [22, 23, 24, 25, 26, 27, 28, 33, 34, 35, 36, 37, 38, 39, 40, 41, 42, 43, 44] (by decide +kernel) (by decide +kernel)
set_option maxRecDepth 20000 in
theorem gX5_state_X5_high : GoodIn wsX5_state (wsV RX5 63 RX5 yX5_high wsX5_high) := goodIn_app (goodIn_of _ (by decide +kernel)) ggX5_state_X5_high
set_option maxRecDepth 20000 in
theorem ggX5_state_X5_low : GoodIn wsX5_state wsX5_low := goodIn_r _ [32, 23, 24, 25, 26, 27, 28, 33, 34, 35, 36, 37, 38, 39, 40, 41, 42, 43, 44] (by decide +kernel) (by decide +kernel)
set_option maxRecDepth 20000 in
theorem gX5_state_X5_low : GoodIn wsX5_state (wsV RX5 59 RX5 yX5_low wsX5_low) := goodIn_app (goodIn_of _ (by decide +kernel)) ggX5_state_X5_low
theorem dX5_state_0 : decode cX5_state 0 = .ok (.aload_n 0, 1) := by decide +kernel
theorem dX5_state_1 : decode cX5_state 1 = .ok (.iload_n 1, 1) := by decide +kernel
theorem dX5_state_2 : decode cX5_state 2 = .ok (.invokevirtual 52, 3) := by decide +kernel
theorem dX5_state_5 : decode cX5_state 5 = .ok (.ifCond .eq 18, 3) := by decide +kernel
theorem dX5_state_8 : decode cX5_state 8 = .ok (.aload_n 0, 1) := by decide +kernel
theorem dX5_state_9 : decode cX5_state 9 = .ok (.iload_n 2, 1) := by decide +kernel
theorem dX5_state_10 : decode cX5_state 10 = .ok (.invokevirtual 66, 3) := by decide +kernel
theorem dX5_state_13 : decode cX5_state 13 = .ok (.ifCond .eq 10, 3) := by decide +kernel
theorem dX5_state_16 : decode cX5_state 16 = .ok (.iload_n 3, 1) := by decide +kernel
theorem dX5_state_17 : decode cX5_state 17 = .ok (.invokestatic 56, 3) := by decide +kernel
theorem dX5_state_20 : decode cX5_state 20 = .ok (.ifCond .ne 5, 3) := by decide +kernel
theorem dX5_state_23 : decode cX5_state 23 = .ok (.iconst (-1), 1) := by decide +kernel
theorem dX5_state_24 : decode cX5_state 24 = .ok (.ireturn, 1) := by decide +kernel
theorem dX5_state_25 : decode cX5_state 25 = .ok (.aload_n 0, 1) := by decide +kernel
theorem dX5_state_26 : decode cX5_state 26 = .ok (.iload_n 1, 1) := by decide +kernel
theorem dX5_state_27 : decode cX5_state 27 = .ok (.iload_n 3, 1) := by decide +kernel
theorem dX5_state_28 : decode cX5_state 28 = .ok (.iconst 0, 1) := by decide +kernel
theorem dX5_state_29 : decode cX5_state 29 = .ok (.invokevirtual 63, 3) := by decide +kernel
theorem dX5_state_32 : decode cX5_state 32 = .ok (.istore 4, 2) := by decide +kernel
theorem dX5_state_34 : decode cX5_state 34 = .ok (.iconst 0, 1) := by decide +kernel
theorem dX5_state_35 : decode cX5_state 35 = .ok (.istore 5, 2) := by decide +kernel
theorem dX5_state_37 : decode cX5_state 37 = .ok (.iconst 1, 1) := by decide +kernel
theorem dX5_state_38 : decode cX5_state 38 = .ok (.istore 6, 2) := by decide +kernel
theorem dX5_state_40 : decode cX5_state 40 = .ok (.aload_n 0, 1) := by decide +kernel
theorem dX5_state_41 : decode cX5_state 41 = .ok (.iload_n 1, 1) := by decide +kernel
theorem dX5_state_42 : decode cX5_state 42 = .ok (.iload_n 3, 1) := by decide +kernel
theorem dX5_state_43 : decode cX5_state 43 = .ok (.iconst 1, 1) := by decide +kernel
theorem dX5_state_44 : decode cX5_state 44 = .ok (.invokevirtual 59, 3) := by decide +kernel
theorem dX5_state_47 : decode cX5_state 47 = .ok (.istore 7, 2) := by decide +kernel
theorem dX5_state_49 : decode cX5_state 49 = .ok (.iload 7, 2) := by decide +kernel
theorem dX5_state_51 : decode cX5_state 51 = .ok (.aload_n 0, 1) := by decide +kernel
theorem dX5_state_52 : decode cX5_state 52 = .ok (.iload_n 1, 1) := by decide +kernel
theorem dX5_state_53 : decode cX5_state 53 = .ok (.iload_n 3, 1) := by decide +kernel
theorem dX5_state_54 : decode cX5_state 54 = .ok (.iconst 1, 1) := by decide +kernel
theorem dX5_state_55 : decode cX5_state 55 = .ok (.invokevirtual 63, 3) := by decide +kernel
theorem dX5_state_58 : decode cX5_state 58 = .ok (.if_icmp .gt 86, 3) := by decide +kernel
theorem dX5_state_61 : decode cX5_state 61 = .ok (.aload_n 0, 1) := by decide +kernel
theorem dX5_state_62 : decode cX5_state 62 = .ok (.iload_n 1, 1) := by decide +kernel
theorem dX5_state_63 : decode cX5_state 63 = .ok (.iload_n 3, 1) := by decide +kernel
theorem dX5_state_64 : decode cX5_state 64 = .ok (.iconst 0, 1) := by decide +kernel
theorem dX5_state_65 : decode cX5_state 65 = .ok (.invokevirtual 59, 3) := by decide +kernel
theorem dX5_state_68 : decode cX5_state 68 = .ok (.istore 8, 2) := by decide +kernel
theorem dX5_state_70 : decode cX5_state 70 = .ok (.iload 8, 2) := by decide +kernel
theorem dX5_state_72 : decode cX5_state 72 = .ok (.iload 4, 2) := by decide +kernel
theorem dX5_state_74 : decode cX5_state 74 = .ok (.if_icmp .gt 64, 3) := by decide +kernel
theorem dX5_state_77 : decode cX5_state 77 = .ok (.aload_n 0, 1) := by decide +kernel
theorem dX5_state_78 : decode cX5_state 78 = .ok (.getfield 31, 3) := by decide +kernel
theorem dX5_state_81 : decode cX5_state 81 = .ok (.sipush 4096, 3) := by decide +kernel
theorem dX5_state_84 : decode cX5_state 84 = .ok (.iload_n 2, 1) := by decide +kernel
theorem dX5_state_85 : decode cX5_state 85 = .ok (.imul, 1) := by decide +kernel
theorem dX5_state_86 : decode cX5_state 86 = .ok (.bipush 64, 2) := by decide +kernel
theorem dX5_state_88 : decode cX5_state 88 = .ok (.iload 7, 2) := by decide +kernel
theorem dX5_state_90 : decode cX5_state 90 = .ok (.imul, 1) := by decide +kernel
theorem dX5_state_91 : decode cX5_state 91 = .ok (.iadd, 1) := by decide +kernel
theorem dX5_state_92 : decode cX5_state 92 = .ok (.iload 8, 2) := by decide +kernel
theorem dX5_state_94 : decode cX5_state 94 = .ok (.iadd, 1) := by decide +kernel
theorem dX5_state_95 : decode cX5_state 95 = .ok (.baload, 1) := by decide +kernel
theorem dX5_state_96 : decode cX5_state 96 = .ok (.istore 9, 2) := by decide +kernel
theorem dX5_state_98 : decode cX5_state 98 = .ok (.iload 5, 2) := by decide +kernel
theorem dX5_state_100 : decode cX5_state 100 = .ok (.ifCond .ne 8, 3) := by decide +kernel
theorem dX5_state_103 : decode cX5_state 103 = .ok (.iload 9, 2) := by decide +kernel
theorem dX5_state_105 : decode cX5_state 105 = .ok (.ifCond .eq 7, 3) := by decide +kernel
theorem dX5_state_108 : decode cX5_state 108 = .ok (.iconst 1, 1) := by decide +kernel
theorem dX5_state_109 : decode cX5_state 109 = .ok (.goto 4, 3) := by decide +kernel
theorem dX5_state_112 : decode cX5_state 112 = .ok (.iconst 0, 1) := by decide +kernel
theorem dX5_state_113 : decode cX5_state 113 = .ok (.istore 5, 2) := by decide +kernel
theorem dX5_state_115 : decode cX5_state 115 = .ok (.iload 6, 2) := by decide +kernel
theorem dX5_state_117 : decode cX5_state 117 = .ok (.ifCond .eq 12, 3) := by decide +kernel
theorem dX5_state_120 : decode cX5_state 120 = .ok (.iload 9, 2) := by decide +kernel
theorem dX5_state_122 : decode cX5_state 122 = .ok (.ifCond .eq 7, 3) := by decide +kernel
theorem dX5_state_125 : decode cX5_state 125 = .ok (.iconst 1, 1) := by decide +kernel
theorem dX5_state_126 : decode cX5_state 126 = .ok (.goto 4, 3) := by decide +kernel
theorem dX5_state_129 : decode cX5_state 129 = .ok (.iconst 0, 1) := by decide +kernel
theorem dX5_state_130 : decode cX5_state 130 = .ok (.istore 6, 2) := by decide +kernel
theorem dX5_state_132 : decode cX5_state 132 = .ok (.iinc 8 1, 3) := by decide +kernel
theorem dX5_state_135 : decode cX5_state 135 = .ok (.goto (-65), 3) := by decide +kernel
theorem dX5_state_138 : decode cX5_state 138 = .ok (.iinc 7 1, 3) := by decide +kernel
theorem dX5_state_141 : decode cX5_state 141 = .ok (.goto (-92), 3) := by decide +kernel
theorem dX5_state_144 : decode cX5_state 144 = .ok (.iload 6, 2) := by decide +kernel
theorem dX5_state_146 : decode cX5_state 146 = .ok (.ifCond .eq 7, 3) := by decide +kernel
theorem dX5_state_149 : decode cX5_state 149 = .ok (.iconst 2, 1) := by decide +kernel
theorem dX5_state_150 : decode cX5_state 150 = .ok (.goto 13, 3) := by decide +kernel
theorem dX5_state_153 : decode cX5_state 153 = .ok (.iload 5, 2) := by decide +kernel
theorem dX5_state_155 : decode cX5_state 155 = .ok (.ifCond .eq 7, 3) := by decide +kernel
theorem dX5_state_158 : decode cX5_state 158 = .ok (.iconst 1, 1) := by decide +kernel
theorem dX5_state_159 : decode cX5_state 159 = .ok (.goto 4, 3) := by decide +kernel
theorem dX5_state_162 : decode cX5_state 162 = .ok (.iconst 0, 1) := by decide +kernel
theorem dX5_state_163 : decode cX5_state 163 = .ok (.ireturn, 1) := by decide +kernel
theorem dX5_better_0 : decode cX5_better 0 = .ok (.iload_n 2, 1) := by decide +kernel
theorem dX5_better_1 : decode cX5_better 1 = .ok (.ifCond .eq 16, 3) := by decide +kernel
theorem dX5_better_4 : decode cX5_better 4 = .ok (.iload_n 0, 1) := by decide +kernel
theorem dX5_better_5 : decode cX5_better 5 = .ok (.iload_n 1, 1) := by decide +kernel
theorem dX5_better_6 : decode cX5_better 6 = .ok (.if_icmp .ge 7, 3) := by decide +kernel
theorem dX5_better_9 : decode cX5_better 9 = .ok (.iload_n 0, 1) := by decide +kernel
theorem dX5_better_10 : decode cX5_better 10 = .ok (.goto 17, 3) := by decide +kernel
theorem dX5_better_13 : decode cX5_better 13 = .ok (.iload_n 1, 1) := by decide +kernel
theorem dX5_better_14 : decode cX5_better 14 = .ok (.goto 13, 3) := by decide +kernel
theorem dX5_better_17 : decode cX5_better 17 = .ok (.iload_n 0, 1) := by decide +kernel
theorem dX5_better_18 : decode cX5_better 18 = .ok (.iload_n 1, 1) := by decide +kernel
theorem dX5_better_19 : decode cX5_better 19 = .ok (.if_icmp .le 7, 3) := by decide +kernel
theorem dX5_better_22 : decode cX5_better 22 = .ok (.iload_n 0, 1) := by decide +kernel
theorem dX5_better_23 : decode cX5_better 23 = .ok (.goto 4, 3) := by decide +kernel
theorem dX5_better_26 : decode cX5_better 26 = .ok (.iload_n 1, 1) := by decide +kernel
theorem dX5_better_27 : decode cX5_better 27 = .ok (.ireturn, 1) := by decide +kernel
set_option maxRecDepth 20000 in
theorem ggX5_spreads_X5_better : GoodIn wsX5_spreads wsX5_better := goodIn_r _ [6] (by decide +kernel) (by decide +kernel)
set_option maxRecDepth 20000 in
theorem gX5_spreads_X5_better : GoodIn wsX5_spreads (va_wsS RX5 68 yX5_better wsX5_better) := goodIn_app (goodIn_of _ (by decide +kernel)) ggX5_spreads_X5_better
theorem dX5_spreads_0 : decode cX5_spreads 0 = .ok (.iconst 0, 1) := by decide +kernel
theorem dX5_spreads_1 : decode cX5_spreads 1 = .ok (.istore_n 3, 1) := by decide +kernel
theorem dX5_spreads_2 : decode cX5_spreads 2 = .ok (.iload_n 3, 1) := by decide +kernel
theorem dX5_spreads_3 : decode cX5_spreads 3 = .ok (.sipush 4096, 3) := by decide +kernel
theorem dX5_spreads_6 : decode cX5_spreads 6 = .ok (.if_icmp .ge 95, 3) := by decide +kernel
theorem dX5_spreads_9 : decode cX5_spreads 9 = .ok (.aload_n 0, 1) := by decide +kernel
theorem dX5_spreads_10 : decode cX5_spreads 10 = .ok (.getfield 35, 3) := by decide +kernel
theorem dX5_spreads_13 : decode cX5_spreads 13 = .ok (.iload_n 3, 1) := by decide +kernel
theorem dX5_spreads_14 : decode cX5_spreads 14 = .ok (.iaload, 1) := by decide +kernel
theorem dX5_spreads_15 : decode cX5_spreads 15 = .ok (.istore 4, 2) := by decide +kernel
theorem dX5_spreads_17 : decode cX5_spreads 17 = .ok (.iconst 1, 1) := by decide +kernel
theorem dX5_spreads_18 : decode cX5_spreads 18 = .ok (.istore 5, 2) := by decide +kernel
theorem dX5_spreads_20 : decode cX5_spreads 20 = .ok (.iload 5, 2) := by decide +kernel
theorem dX5_spreads_22 : decode cX5_spreads 22 = .ok (.iload_n 1, 1) := by decide +kernel
theorem dX5_spreads_23 : decode cX5_spreads 23 = .ok (.if_icmp .gt 64, 3) := by decide +kernel
theorem dX5_spreads_26 : decode cX5_spreads 26 = .ok (.iload_n 3, 1) := by decide +kernel
theorem dX5_spreads_27 : decode cX5_spreads 27 = .ok (.bipush 64, 2) := by decide +kernel
theorem dX5_spreads_29 : decode cX5_spreads 29 = .ok (.irem, 1) := by decide +kernel
theorem dX5_spreads_30 : decode cX5_spreads 30 = .ok (.iload 5, 2) := by decide +kernel
theorem dX5_spreads_32 : decode cX5_spreads 32 = .ok (.if_icmp .lt 20, 3) := by decide +kernel
theorem dX5_spreads_35 : decode cX5_spreads 35 = .ok (.iload 4, 2) := by decide +kernel
theorem dX5_spreads_37 : decode cX5_spreads 37 = .ok (.aload_n 0, 1) := by decide +kernel
theorem dX5_spreads_38 : decode cX5_spreads 38 = .ok (.getfield 35, 3) := by decide +kernel
theorem dX5_spreads_41 : decode cX5_spreads 41 = .ok (.iload_n 3, 1) := by decide +kernel
theorem dX5_spreads_42 : decode cX5_spreads 42 = .ok (.iload 5, 2) := by decide +kernel
theorem dX5_spreads_44 : decode cX5_spreads 44 = .ok (.isub, 1) := by decide +kernel
theorem dX5_spreads_45 : decode cX5_spreads 45 = .ok (.iaload, 1) := by decide +kernel
theorem dX5_spreads_46 : decode cX5_spreads 46 = .ok (.iload_n 2, 1) := by decide +kernel
theorem dX5_spreads_47 : decode cX5_spreads 47 = .ok (.invokestatic 68, 3) := by decide +kernel
theorem dX5_spreads_50 : decode cX5_spreads 50 = .ok (.istore 4, 2) := by decide +kernel
theorem dX5_spreads_52 : decode cX5_spreads 52 = .ok (.iload_n 3, 1) := by decide +kernel
theorem dX5_spreads_53 : decode cX5_spreads 53 = .ok (.bipush 64, 2) := by decide +kernel
theorem dX5_spreads_55 : decode cX5_spreads 55 = .ok (.irem, 1) := by decide +kernel
theorem dX5_spreads_56 : decode cX5_spreads 56 = .ok (.iload 5, 2) := by decide +kernel
theorem dX5_spreads_58 : decode cX5_spreads 58 = .ok (.iadd, 1) := by decide +kernel
theorem dX5_spreads_59 : decode cX5_spreads 59 = .ok (.bipush 64, 2) := by decide +kernel
theorem dX5_spreads_61 : decode cX5_spreads 61 = .ok (.if_icmp .ge 20, 3) := by decide +kernel
theorem dX5_spreads_64 : decode cX5_spreads 64 = .ok (.iload 4, 2) := by decide +kernel
theorem dX5_spreads_66 : decode cX5_spreads 66 = .ok (.aload_n 0, 1) := by decide +kernel
theorem dX5_spreads_67 : decode cX5_spreads 67 = .ok (.getfield 35, 3) := by decide +kernel
theorem dX5_spreads_70 : decode cX5_spreads 70 = .ok (.iload_n 3, 1) := by decide +kernel
theorem dX5_spreads_71 : decode cX5_spreads 71 = .ok (.iload 5, 2) := by decide +kernel
theorem dX5_spreads_73 : decode cX5_spreads 73 = .ok (.iadd, 1) := by decide +kernel
theorem dX5_spreads_74 : decode cX5_spreads 74 = .ok (.iaload, 1) := by decide +kernel
theorem dX5_spreads_75 : decode cX5_spreads 75 = .ok (.iload_n 2, 1) := by decide +kernel
theorem dX5_spreads_76 : decode cX5_spreads 76 = .ok (.invokestatic 68, 3) := by decide +kernel
theorem dX5_spreads_79 : decode cX5_spreads 79 = .ok (.istore 4, 2) := by decide +kernel
theorem dX5_spreads_81 : decode cX5_spreads 81 = .ok (.iinc 5 1, 3) := by decide +kernel
theorem dX5_spreads_84 : decode cX5_spreads 84 = .ok (.goto (-64), 3) := by decide +kernel
theorem dX5_spreads_87 : decode cX5_spreads 87 = .ok (.aload_n 0, 1) := by decide +kernel
theorem dX5_spreads_88 : decode cX5_spreads 88 = .ok (.getfield 38, 3) := by decide +kernel
theorem dX5_spreads_91 : decode cX5_spreads 91 = .ok (.iload_n 3, 1) := by decide +kernel
theorem dX5_spreads_92 : decode cX5_spreads 92 = .ok (.iload 4, 2) := by decide +kernel
theorem dX5_spreads_94 : decode cX5_spreads 94 = .ok (.iastore, 1) := by decide +kernel
theorem dX5_spreads_95 : decode cX5_spreads 95 = .ok (.iinc 3 1, 3) := by decide +kernel
theorem dX5_spreads_98 : decode cX5_spreads 98 = .ok (.goto (-96), 3) := by decide +kernel
theorem dX5_spreads_101 : decode cX5_spreads 101 = .ok (.iconst 0, 1) := by decide +kernel
theorem dX5_spreads_102 : decode cX5_spreads 102 = .ok (.istore_n 3, 1) := by decide +kernel
theorem dX5_spreads_103 : decode cX5_spreads 103 = .ok (.iload_n 3, 1) := by decide +kernel
theorem dX5_spreads_104 : decode cX5_spreads 104 = .ok (.sipush 4096, 3) := by decide +kernel
theorem dX5_spreads_107 : decode cX5_spreads 107 = .ok (.if_icmp .ge 101, 3) := by decide +kernel
theorem dX5_spreads_110 : decode cX5_spreads 110 = .ok (.aload_n 0, 1) := by decide +kernel
theorem dX5_spreads_111 : decode cX5_spreads 111 = .ok (.getfield 38, 3) := by decide +kernel
theorem dX5_spreads_114 : decode cX5_spreads 114 = .ok (.iload_n 3, 1) := by decide +kernel
theorem dX5_spreads_115 : decode cX5_spreads 115 = .ok (.iaload, 1) := by decide +kernel
theorem dX5_spreads_116 : decode cX5_spreads 116 = .ok (.istore 4, 2) := by decide +kernel
theorem dX5_spreads_118 : decode cX5_spreads 118 = .ok (.iconst 1, 1) := by decide +kernel
theorem dX5_spreads_119 : decode cX5_spreads 119 = .ok (.istore 5, 2) := by decide +kernel
theorem dX5_spreads_121 : decode cX5_spreads 121 = .ok (.iload 5, 2) := by decide +kernel
theorem dX5_spreads_123 : decode cX5_spreads 123 = .ok (.iload_n 1, 1) := by decide +kernel
theorem dX5_spreads_124 : decode cX5_spreads 124 = .ok (.if_icmp .gt 70, 3) := by decide +kernel
theorem dX5_spreads_127 : decode cX5_spreads 127 = .ok (.iload_n 3, 1) := by decide +kernel
theorem dX5_spreads_128 : decode cX5_spreads 128 = .ok (.bipush 64, 2) := by decide +kernel
theorem dX5_spreads_130 : decode cX5_spreads 130 = .ok (.idiv, 1) := by decide +kernel
theorem dX5_spreads_131 : decode cX5_spreads 131 = .ok (.iload 5, 2) := by decide +kernel
theorem dX5_spreads_133 : decode cX5_spreads 133 = .ok (.if_icmp .lt 23, 3) := by decide +kernel
theorem dX5_spreads_136 : decode cX5_spreads 136 = .ok (.iload 4, 2) := by decide +kernel
theorem dX5_spreads_138 : decode cX5_spreads 138 = .ok (.aload_n 0, 1) := by decide +kernel
theorem dX5_spreads_139 : decode cX5_spreads 139 = .ok (.getfield 38, 3) := by decide +kernel
theorem dX5_spreads_142 : decode cX5_spreads 142 = .ok (.iload_n 3, 1) := by decide +kernel
theorem dX5_spreads_143 : decode cX5_spreads 143 = .ok (.iload 5, 2) := by decide +kernel
theorem dX5_spreads_145 : decode cX5_spreads 145 = .ok (.bipush 64, 2) := by decide +kernel
theorem dX5_spreads_147 : decode cX5_spreads 147 = .ok (.imul, 1) := by decide +kernel
theorem dX5_spreads_148 : decode cX5_spreads 148 = .ok (.isub, 1) := by decide +kernel
theorem dX5_spreads_149 : decode cX5_spreads 149 = .ok (.iaload, 1) := by decide +kernel
theorem dX5_spreads_150 : decode cX5_spreads 150 = .ok (.iload_n 2, 1) := by decide +kernel
theorem dX5_spreads_151 : decode cX5_spreads 151 = .ok (.invokestatic 68, 3) := by decide +kernel
theorem dX5_spreads_154 : decode cX5_spreads 154 = .ok (.istore 4, 2) := by decide +kernel
theorem dX5_spreads_156 : decode cX5_spreads 156 = .ok (.iload_n 3, 1) := by decide +kernel
theorem dX5_spreads_157 : decode cX5_spreads 157 = .ok (.bipush 64, 2) := by decide +kernel
theorem dX5_spreads_159 : decode cX5_spreads 159 = .ok (.idiv, 1) := by decide +kernel
theorem dX5_spreads_160 : decode cX5_spreads 160 = .ok (.iload 5, 2) := by decide +kernel
theorem dX5_spreads_162 : decode cX5_spreads 162 = .ok (.iadd, 1) := by decide +kernel
theorem dX5_spreads_163 : decode cX5_spreads 163 = .ok (.bipush 64, 2) := by decide +kernel
theorem dX5_spreads_165 : decode cX5_spreads 165 = .ok (.if_icmp .ge 23, 3) := by decide +kernel
theorem dX5_spreads_168 : decode cX5_spreads 168 = .ok (.iload 4, 2) := by decide +kernel
theorem dX5_spreads_170 : decode cX5_spreads 170 = .ok (.aload_n 0, 1) := by decide +kernel
theorem dX5_spreads_171 : decode cX5_spreads 171 = .ok (.getfield 38, 3) := by decide +kernel
theorem dX5_spreads_174 : decode cX5_spreads 174 = .ok (.iload_n 3, 1) := by decide +kernel
theorem dX5_spreads_175 : decode cX5_spreads 175 = .ok (.iload 5, 2) := by decide +kernel
theorem dX5_spreads_177 : decode cX5_spreads 177 = .ok (.bipush 64, 2) := by decide +kernel
theorem dX5_spreads_179 : decode cX5_spreads 179 = .ok (.imul, 1) := by decide +kernel
theorem dX5_spreads_180 : decode cX5_spreads 180 = .ok (.iadd, 1) := by decide +kernel
theorem dX5_spreads_181 : decode cX5_spreads 181 = .ok (.iaload, 1) := by decide +kernel
theorem dX5_spreads_182 : decode cX5_spreads 182 = .ok (.iload_n 2, 1) := by decide +kernel
theorem dX5_spreads_183 : decode cX5_spreads 183 = .ok (.invokestatic 68, 3) := by decide +kernel
theorem dX5_spreads_186 : decode cX5_spreads 186 = .ok (.istore 4, 2) := by decide +kernel
theorem dX5_spreads_188 : decode cX5_spreads 188 = .ok (.iinc 5 1, 3) := by decide +kernel
theorem dX5_spreads_191 : decode cX5_spreads 191 = .ok (.goto (-70), 3) := by decide +kernel
theorem dX5_spreads_194 : decode cX5_spreads 194 = .ok (.aload_n 0, 1) := by decide +kernel
theorem dX5_spreads_195 : decode cX5_spreads 195 = .ok (.getfield 35, 3) := by decide +kernel
theorem dX5_spreads_198 : decode cX5_spreads 198 = .ok (.iload_n 3, 1) := by decide +kernel
theorem dX5_spreads_199 : decode cX5_spreads 199 = .ok (.iload 4, 2) := by decide +kernel
theorem dX5_spreads_201 : decode cX5_spreads 201 = .ok (.iastore, 1) := by decide +kernel
theorem dX5_spreads_202 : decode cX5_spreads 202 = .ok (.iinc 3 1, 3) := by decide +kernel
theorem dX5_spreads_205 : decode cX5_spreads 205 = .ok (.goto (-102), 3) := by decide +kernel
theorem dX5_spreads_208 : decode cX5_spreads 208 = .ok (.return_, 1) := by decide +kernel
set_option maxRecDepth 20000 in
theorem ggX5_keeps_X5_low : GoodIn wsX5_keeps wsX5_low := goodIn_r _ [7, 8, 9, 10, 11, 12, 13, 21, 22, 23, 24, 25, 26, 27, 28, 29, 30, 31, 32] (by decide +kernel) (by decide +kernel)
set_option maxRecDepth 20000 in
theorem gX5_keeps_X5_low : GoodIn wsX5_keeps (wsV RX5 59 RX5 yX5_low wsX5_low) := goodIn_app (goodIn_of _ (by decide +kernel)) ggX5_keeps_X5_low
set_option maxRecDepth 20000 in
theorem ggX5_keeps_X5_high : GoodIn wsX5_keeps wsX5_high := goodIn_r _ [17, 8, 9, 10, 11, 12, 13, 21, 22, 23, 24, 25, 26, 27, 28, 29, 30, 31, 32] (by decide +kernel) (by decide +kernel)
set_option maxRecDepth 20000 in
theorem gX5_keeps_X5_high : GoodIn wsX5_keeps (wsV RX5 63 RX5 yX5_high wsX5_high) := goodIn_app (goodIn_of _ (by decide +kernel)) ggX5_keeps_X5_high
set_option maxRecDepth 20000 in
theorem ggX5_keeps_X5_in : GoodIn wsX5_keeps wsX5_in := goodIn_r _ [20] (by decide +kernel) (by decide +kernel)
set_option maxRecDepth 20000 in
theorem gX5_keeps_X5_in : GoodIn wsX5_keeps (va_wsS RX5 45 yX5_in wsX5_in) := goodIn_app (goodIn_of _ (by decide +kernel)) ggX5_keeps_X5_in
theorem dX5_keeps_0 : decode cX5_keeps 0 = .ok (.aload_n 0, 1) := by decide +kernel
theorem dX5_keeps_1 : decode cX5_keeps 1 = .ok (.iload_n 1, 1) := by decide +kernel
theorem dX5_keeps_2 : decode cX5_keeps 2 = .ok (.iload_n 3, 1) := by decide +kernel
theorem dX5_keeps_3 : decode cX5_keeps 3 = .ok (.iconst 1, 1) := by decide +kernel
theorem dX5_keeps_4 : decode cX5_keeps 4 = .ok (.invokevirtual 59, 3) := by decide +kernel
theorem dX5_keeps_7 : decode cX5_keeps 7 = .ok (.istore 6, 2) := by decide +kernel
theorem dX5_keeps_9 : decode cX5_keeps 9 = .ok (.aload_n 0, 1) := by decide +kernel
theorem dX5_keeps_10 : decode cX5_keeps 10 = .ok (.iload_n 1, 1) := by decide +kernel
theorem dX5_keeps_11 : decode cX5_keeps 11 = .ok (.iload_n 3, 1) := by decide +kernel
theorem dX5_keeps_12 : decode cX5_keeps 12 = .ok (.iconst 1, 1) := by decide +kernel
theorem dX5_keeps_13 : decode cX5_keeps 13 = .ok (.invokevirtual 63, 3) := by decide +kernel
theorem dX5_keeps_16 : decode cX5_keeps 16 = .ok (.istore 7, 2) := by decide +kernel
theorem dX5_keeps_18 : decode cX5_keeps 18 = .ok (.aload_n 0, 1) := by decide +kernel
theorem dX5_keeps_19 : decode cX5_keeps 19 = .ok (.iload_n 1, 1) := by decide +kernel
theorem dX5_keeps_20 : decode cX5_keeps 20 = .ok (.iload_n 3, 1) := by decide +kernel
theorem dX5_keeps_21 : decode cX5_keeps 21 = .ok (.iconst 0, 1) := by decide +kernel
theorem dX5_keeps_22 : decode cX5_keeps 22 = .ok (.invokevirtual 59, 3) := by decide +kernel
theorem dX5_keeps_25 : decode cX5_keeps 25 = .ok (.istore 8, 2) := by decide +kernel
theorem dX5_keeps_27 : decode cX5_keeps 27 = .ok (.aload_n 0, 1) := by decide +kernel
theorem dX5_keeps_28 : decode cX5_keeps 28 = .ok (.iload_n 1, 1) := by decide +kernel
theorem dX5_keeps_29 : decode cX5_keeps 29 = .ok (.iload_n 3, 1) := by decide +kernel
theorem dX5_keeps_30 : decode cX5_keeps 30 = .ok (.iconst 0, 1) := by decide +kernel
theorem dX5_keeps_31 : decode cX5_keeps 31 = .ok (.invokevirtual 63, 3) := by decide +kernel
theorem dX5_keeps_34 : decode cX5_keeps 34 = .ok (.istore 9, 2) := by decide +kernel
theorem dX5_keeps_36 : decode cX5_keeps 36 = .ok (.iconst 0, 1) := by decide +kernel
theorem dX5_keeps_37 : decode cX5_keeps 37 = .ok (.istore 10, 2) := by decide +kernel
theorem dX5_keeps_39 : decode cX5_keeps 39 = .ok (.iload 10, 2) := by decide +kernel
theorem dX5_keeps_41 : decode cX5_keeps 41 = .ok (.sipush 4096, 3) := by decide +kernel
theorem dX5_keeps_44 : decode cX5_keeps 44 = .ok (.if_icmp .ge 104, 3) := by decide +kernel
theorem dX5_keeps_47 : decode cX5_keeps 47 = .ok (.aload_n 0, 1) := by decide +kernel
theorem dX5_keeps_48 : decode cX5_keeps 48 = .ok (.getfield 31, 3) := by decide +kernel
theorem dX5_keeps_51 : decode cX5_keeps 51 = .ok (.sipush 4096, 3) := by decide +kernel
theorem dX5_keeps_54 : decode cX5_keeps 54 = .ok (.iload_n 2, 1) := by decide +kernel
theorem dX5_keeps_55 : decode cX5_keeps 55 = .ok (.imul, 1) := by decide +kernel
theorem dX5_keeps_56 : decode cX5_keeps 56 = .ok (.iload 10, 2) := by decide +kernel
theorem dX5_keeps_58 : decode cX5_keeps 58 = .ok (.iadd, 1) := by decide +kernel
theorem dX5_keeps_59 : decode cX5_keeps 59 = .ok (.baload, 1) := by decide +kernel
theorem dX5_keeps_60 : decode cX5_keeps 60 = .ok (.istore 11, 2) := by decide +kernel
theorem dX5_keeps_62 : decode cX5_keeps 62 = .ok (.iload 10, 2) := by decide +kernel
theorem dX5_keeps_64 : decode cX5_keeps 64 = .ok (.bipush 64, 2) := by decide +kernel
theorem dX5_keeps_66 : decode cX5_keeps 66 = .ok (.idiv, 1) := by decide +kernel
theorem dX5_keeps_67 : decode cX5_keeps 67 = .ok (.iload 6, 2) := by decide +kernel
theorem dX5_keeps_69 : decode cX5_keeps 69 = .ok (.iload 7, 2) := by decide +kernel
theorem dX5_keeps_71 : decode cX5_keeps 71 = .ok (.invokestatic 45, 3) := by decide +kernel
theorem dX5_keeps_74 : decode cX5_keeps 74 = .ok (.ifCond .eq 18, 3) := by decide +kernel
theorem dX5_keeps_77 : decode cX5_keeps 77 = .ok (.iload 10, 2) := by decide +kernel
theorem dX5_keeps_79 : decode cX5_keeps 79 = .ok (.bipush 64, 2) := by decide +kernel
theorem dX5_keeps_81 : decode cX5_keeps 81 = .ok (.irem, 1) := by decide +kernel
theorem dX5_keeps_82 : decode cX5_keeps 82 = .ok (.iload 8, 2) := by decide +kernel
theorem dX5_keeps_84 : decode cX5_keeps 84 = .ok (.iload 9, 2) := by decide +kernel
theorem dX5_keeps_86 : decode cX5_keeps 86 = .ok (.invokestatic 45, 3) := by decide +kernel
theorem dX5_keeps_89 : decode cX5_keeps 89 = .ok (.ifCond .ne 15, 3) := by decide +kernel
theorem dX5_keeps_92 : decode cX5_keeps 92 = .ok (.aload_n 0, 1) := by decide +kernel
theorem dX5_keeps_93 : decode cX5_keeps 93 = .ok (.getfield 35, 3) := by decide +kernel
theorem dX5_keeps_96 : decode cX5_keeps 96 = .ok (.iload 10, 2) := by decide +kernel
theorem dX5_keeps_98 : decode cX5_keeps 98 = .ok (.iload 4, 2) := by decide +kernel
theorem dX5_keeps_100 : decode cX5_keeps 100 = .ok (.iastore, 1) := by decide +kernel
theorem dX5_keeps_101 : decode cX5_keeps 101 = .ok (.goto 41, 3) := by decide +kernel
theorem dX5_keeps_104 : decode cX5_keeps 104 = .ok (.iload 11, 2) := by decide +kernel
theorem dX5_keeps_106 : decode cX5_keeps 106 = .ok (.ifCond .eq 22, 3) := by decide +kernel
theorem dX5_keeps_109 : decode cX5_keeps 109 = .ok (.iload 5, 2) := by decide +kernel
theorem dX5_keeps_111 : decode cX5_keeps 111 = .ok (.ifCond .eq 17, 3) := by decide +kernel
theorem dX5_keeps_114 : decode cX5_keeps 114 = .ok (.aload_n 0, 1) := by decide +kernel
theorem dX5_keeps_115 : decode cX5_keeps 115 = .ok (.getfield 35, 3) := by decide +kernel
theorem dX5_keeps_118 : decode cX5_keeps 118 = .ok (.iload 10, 2) := by decide +kernel
theorem dX5_keeps_120 : decode cX5_keeps 120 = .ok (.dup2, 1) := by decide +kernel
theorem dX5_keeps_121 : decode cX5_keeps 121 = .ok (.iaload, 1) := by decide +kernel
theorem dX5_keeps_122 : decode cX5_keeps 122 = .ok (.iconst 1, 1) := by decide +kernel
theorem dX5_keeps_123 : decode cX5_keeps 123 = .ok (.iadd, 1) := by decide +kernel
theorem dX5_keeps_124 : decode cX5_keeps 124 = .ok (.iastore, 1) := by decide +kernel
theorem dX5_keeps_125 : decode cX5_keeps 125 = .ok (.goto 17, 3) := by decide +kernel
theorem dX5_keeps_128 : decode cX5_keeps 128 = .ok (.iload 11, 2) := by decide +kernel
theorem dX5_keeps_130 : decode cX5_keeps 130 = .ok (.ifCond .eq 12, 3) := by decide +kernel
theorem dX5_keeps_133 : decode cX5_keeps 133 = .ok (.aload_n 0, 1) := by decide +kernel
theorem dX5_keeps_134 : decode cX5_keeps 134 = .ok (.getfield 35, 3) := by decide +kernel
theorem dX5_keeps_137 : decode cX5_keeps 137 = .ok (.iload 10, 2) := by decide +kernel
theorem dX5_keeps_139 : decode cX5_keeps 139 = .ok (.iload 4, 2) := by decide +kernel
theorem dX5_keeps_141 : decode cX5_keeps 141 = .ok (.iastore, 1) := by decide +kernel
theorem dX5_keeps_142 : decode cX5_keeps 142 = .ok (.iinc 10 1, 3) := by decide +kernel
theorem dX5_keeps_145 : decode cX5_keeps 145 = .ok (.goto (-106), 3) := by decide +kernel
theorem dX5_keeps_148 : decode cX5_keeps 148 = .ok (.return_, 1) := by decide +kernel
set_option maxRecDepth 20000 in
theorem ggX5_canAsk_X5_isThing : GoodIn wsX5_canAsk wsX5_isThing := goodIn_r _ [5, 6, 7, 8, 4, 9, 18, 19, 20, 21, 22, 23, 24, 25, 26, 27, 28, 29] (by decide +kernel) (by decide +kernel)
set_option maxRecDepth 20000 in
theorem gX5_canAsk_X5_isThing : GoodIn wsX5_canAsk (wsV RX5 52 RX5 yX5_isThing wsX5_isThing) := goodIn_app (goodIn_of _ (by decide +kernel)) ggX5_canAsk_X5_isThing
set_option maxRecDepth 20000 in
theorem ggX5_canAsk_X5_isGround : GoodIn wsX5_canAsk wsX5_isGround := goodIn_r _ [13, 14, 7, 8, 4, 9, 18, 19, 20, 21, 22, 23, 24, 25, 26, 27, 28, 29] (by decide +kernel) (by decide +kernel)
set_option maxRecDepth 20000 in
theorem gX5_canAsk_X5_isGround : GoodIn wsX5_canAsk (wsV RX5 66 RX5 yX5_isGround wsX5_isGround) := goodIn_app (goodIn_of _ (by decide +kernel)) ggX5_canAsk_X5_isGround
set_option maxRecDepth 20000 in
theorem ggX5_canAsk_X5_isTick : GoodIn wsX5_canAsk wsX5_isTick := goodIn_r _ [17, 7, 8, 4, 9] (by decide +kernel) (by decide +kernel)
set_option maxRecDepth 20000 in
theorem gX5_canAsk_X5_isTick : GoodIn wsX5_canAsk (va_wsS RX5 56 yX5_isTick wsX5_isTick) := goodIn_app (goodIn_of _ (by decide +kernel)) ggX5_canAsk_X5_isTick
theorem dX5_canAsk_0 : decode cX5_canAsk 0 = .ok (.aload_n 0, 1) := by decide +kernel
theorem dX5_canAsk_1 : decode cX5_canAsk 1 = .ok (.iload_n 1, 1) := by decide +kernel
theorem dX5_canAsk_2 : decode cX5_canAsk 2 = .ok (.invokevirtual 52, 3) := by decide +kernel
theorem dX5_canAsk_5 : decode cX5_canAsk 5 = .ok (.ifCond .eq 36, 3) := by decide +kernel
theorem dX5_canAsk_8 : decode cX5_canAsk 8 = .ok (.aload_n 0, 1) := by decide +kernel
theorem dX5_canAsk_9 : decode cX5_canAsk 9 = .ok (.iload_n 2, 1) := by decide +kernel
theorem dX5_canAsk_10 : decode cX5_canAsk 10 = .ok (.invokevirtual 66, 3) := by decide +kernel
theorem dX5_canAsk_13 : decode cX5_canAsk 13 = .ok (.ifCond .eq 28, 3) := by decide +kernel
theorem dX5_canAsk_16 : decode cX5_canAsk 16 = .ok (.iload_n 3, 1) := by decide +kernel
theorem dX5_canAsk_17 : decode cX5_canAsk 17 = .ok (.invokestatic 56, 3) := by decide +kernel
theorem dX5_canAsk_20 : decode cX5_canAsk 20 = .ok (.ifCond .eq 21, 3) := by decide +kernel
theorem dX5_canAsk_23 : decode cX5_canAsk 23 = .ok (.iload 4, 2) := by decide +kernel
theorem dX5_canAsk_25 : decode cX5_canAsk 25 = .ok (.invokestatic 56, 3) := by decide +kernel
theorem dX5_canAsk_28 : decode cX5_canAsk 28 = .ok (.ifCond .eq 13, 3) := by decide +kernel
theorem dX5_canAsk_31 : decode cX5_canAsk 31 = .ok (.iload_n 3, 1) := by decide +kernel
theorem dX5_canAsk_32 : decode cX5_canAsk 32 = .ok (.iload 4, 2) := by decide +kernel
theorem dX5_canAsk_34 : decode cX5_canAsk 34 = .ok (.if_icmp .gt 7, 3) := by decide +kernel
theorem dX5_canAsk_37 : decode cX5_canAsk 37 = .ok (.iconst 1, 1) := by decide +kernel
theorem dX5_canAsk_38 : decode cX5_canAsk 38 = .ok (.goto 4, 3) := by decide +kernel
theorem dX5_canAsk_41 : decode cX5_canAsk 41 = .ok (.iconst 0, 1) := by decide +kernel
theorem dX5_canAsk_42 : decode cX5_canAsk 42 = .ok (.ireturn, 1) := by decide +kernel
set_option maxRecDepth 20000 in
theorem ggX5_entered_X5_canAsk : GoodIn wsX5_entered wsX5_canAsk := goodIn_r _ [7, 8, 9, 10, 6, 11, 12, 13, 14, 15, 16, 17, 18, 19, 20, 21, 22, 23, 50, 51, 52, 53, 54, 55, 56, 57, 58, 59, 60, 61] (by decide +kernel) (by decide +kernel)
set_option maxRecDepth 20000 in
theorem gX5_entered_X5_canAsk : GoodIn wsX5_entered (wsV RX5 71 RX5 yX5_canAsk wsX5_canAsk) := goodIn_app (goodIn_of _ (by decide +kernel)) ggX5_entered_X5_canAsk
set_option maxRecDepth 20000 in
theorem ggX5_entered_X5_spreads : GoodIn wsX5_entered wsX5_spreads := goodIn_r _ [27, 1, 28, 29, 30, 6, 31, 50, 51, 52, 53, 54, 55, 56, 57, 58, 59, 60, 61] (by decide +kernel) (by decide +kernel)
set_option maxRecDepth 20000 in
theorem gX5_entered_X5_spreads : GoodIn wsX5_entered (wsV RX5 75 RX5 yX5_spreads wsX5_spreads) := goodIn_app (goodIn_of _ (by decide +kernel)) ggX5_entered_X5_spreads
set_option maxRecDepth 20000 in
theorem ggX5_entered_X5_keeps : GoodIn wsX5_entered wsX5_keeps := goodIn_r _ [35, 36, 1, 37, 38, 39, 6, 40, 41, 42, 43, 44, 45, 2, 46, 47, 48, 49, 13, 14, 15, 50, 51, 52, 53, 54, 55, 56, 57, 58, 59, 60, 61] (by decide +kernel) (by decide +kernel)
set_option maxRecDepth 20000 in
theorem gX5_entered_X5_keeps : GoodIn wsX5_entered (wsV RX5 79 RX5 yX5_keeps wsX5_keeps) := goodIn_app (goodIn_of _ (by decide +kernel)) ggX5_entered_X5_keeps
theorem dX5_entered_0 : decode cX5_entered 0 = .ok (.aload_n 0, 1) := by decide +kernel
theorem dX5_entered_1 : decode cX5_entered 1 = .ok (.iload_n 1, 1) := by decide +kernel
theorem dX5_entered_2 : decode cX5_entered 2 = .ok (.iload_n 2, 1) := by decide +kernel
theorem dX5_entered_3 : decode cX5_entered 3 = .ok (.iload_n 3, 1) := by decide +kernel
theorem dX5_entered_4 : decode cX5_entered 4 = .ok (.iload 4, 2) := by decide +kernel
theorem dX5_entered_6 : decode cX5_entered 6 = .ok (.invokevirtual 71, 3) := by decide +kernel
theorem dX5_entered_9 : decode cX5_entered 9 = .ok (.ifCond .ne 5, 3) := by decide +kernel
theorem dX5_entered_12 : decode cX5_entered 12 = .ok (.iconst (-1), 1) := by decide +kernel
theorem dX5_entered_13 : decode cX5_entered 13 = .ok (.ireturn, 1) := by decide +kernel
theorem dX5_entered_14 : decode cX5_entered 14 = .ok (.iconst 0, 1) := by decide +kernel
theorem dX5_entered_15 : decode cX5_entered 15 = .ok (.istore 5, 2) := by decide +kernel
theorem dX5_entered_17 : decode cX5_entered 17 = .ok (.iload 5, 2) := by decide +kernel
theorem dX5_entered_19 : decode cX5_entered 19 = .ok (.sipush 4096, 3) := by decide +kernel
theorem dX5_entered_22 : decode cX5_entered 22 = .ok (.if_icmp .ge 17, 3) := by decide +kernel
theorem dX5_entered_25 : decode cX5_entered 25 = .ok (.aload_n 0, 1) := by decide +kernel
theorem dX5_entered_26 : decode cX5_entered 26 = .ok (.getfield 35, 3) := by decide +kernel
theorem dX5_entered_29 : decode cX5_entered 29 = .ok (.iload 5, 2) := by decide +kernel
theorem dX5_entered_31 : decode cX5_entered 31 = .ok (.iconst 0, 1) := by decide +kernel
theorem dX5_entered_32 : decode cX5_entered 32 = .ok (.iastore, 1) := by decide +kernel
theorem dX5_entered_33 : decode cX5_entered 33 = .ok (.iinc 5 1, 3) := by decide +kernel
theorem dX5_entered_36 : decode cX5_entered 36 = .ok (.goto (-19), 3) := by decide +kernel
theorem dX5_entered_39 : decode cX5_entered 39 = .ok (.iload_n 3, 1) := by decide +kernel
theorem dX5_entered_40 : decode cX5_entered 40 = .ok (.istore 5, 2) := by decide +kernel
theorem dX5_entered_42 : decode cX5_entered 42 = .ok (.iload 5, 2) := by decide +kernel
theorem dX5_entered_44 : decode cX5_entered 44 = .ok (.iload 4, 2) := by decide +kernel
theorem dX5_entered_46 : decode cX5_entered 46 = .ok (.if_icmp .gt 91, 3) := by decide +kernel
theorem dX5_entered_49 : decode cX5_entered 49 = .ok (.iload 5, 2) := by decide +kernel
theorem dX5_entered_51 : decode cX5_entered 51 = .ok (.iload_n 3, 1) := by decide +kernel
theorem dX5_entered_52 : decode cX5_entered 52 = .ok (.if_icmp .le 14, 3) := by decide +kernel
theorem dX5_entered_55 : decode cX5_entered 55 = .ok (.aload_n 0, 1) := by decide +kernel
theorem dX5_entered_56 : decode cX5_entered 56 = .ok (.aload_n 0, 1) := by decide +kernel
theorem dX5_entered_57 : decode cX5_entered 57 = .ok (.getfield 9, 3) := by decide +kernel
theorem dX5_entered_60 : decode cX5_entered 60 = .ok (.iload_n 1, 1) := by decide +kernel
theorem dX5_entered_61 : decode cX5_entered 61 = .ok (.iaload, 1) := by decide +kernel
theorem dX5_entered_62 : decode cX5_entered 62 = .ok (.iconst 1, 1) := by decide +kernel
theorem dX5_entered_63 : decode cX5_entered 63 = .ok (.invokevirtual 75, 3) := by decide +kernel
theorem dX5_entered_66 : decode cX5_entered 66 = .ok (.aload_n 0, 1) := by decide +kernel
theorem dX5_entered_67 : decode cX5_entered 67 = .ok (.iload_n 1, 1) := by decide +kernel
theorem dX5_entered_68 : decode cX5_entered 68 = .ok (.iload_n 2, 1) := by decide +kernel
theorem dX5_entered_69 : decode cX5_entered 69 = .ok (.iload 5, 2) := by decide +kernel
theorem dX5_entered_71 : decode cX5_entered 71 = .ok (.sipush 1000, 3) := by decide +kernel
theorem dX5_entered_74 : decode cX5_entered 74 = .ok (.iconst 0, 1) := by decide +kernel
theorem dX5_entered_75 : decode cX5_entered 75 = .ok (.invokevirtual 79, 3) := by decide +kernel
theorem dX5_entered_78 : decode cX5_entered 78 = .ok (.iconst 0, 1) := by decide +kernel
theorem dX5_entered_79 : decode cX5_entered 79 = .ok (.istore 6, 2) := by decide +kernel
theorem dX5_entered_81 : decode cX5_entered 81 = .ok (.iconst 0, 1) := by decide +kernel
theorem dX5_entered_82 : decode cX5_entered 82 = .ok (.istore 7, 2) := by decide +kernel
theorem dX5_entered_84 : decode cX5_entered 84 = .ok (.iload 7, 2) := by decide +kernel
theorem dX5_entered_86 : decode cX5_entered 86 = .ok (.sipush 4096, 3) := by decide +kernel
theorem dX5_entered_89 : decode cX5_entered 89 = .ok (.if_icmp .ge 34, 3) := by decide +kernel
theorem dX5_entered_92 : decode cX5_entered 92 = .ok (.iload 6, 2) := by decide +kernel
theorem dX5_entered_94 : decode cX5_entered 94 = .ok (.ifCond .ne 16, 3) := by decide +kernel
theorem dX5_entered_97 : decode cX5_entered 97 = .ok (.aload_n 0, 1) := by decide +kernel
theorem dX5_entered_98 : decode cX5_entered 98 = .ok (.getfield 35, 3) := by decide +kernel
theorem dX5_entered_101 : decode cX5_entered 101 = .ok (.iload 7, 2) := by decide +kernel
theorem dX5_entered_103 : decode cX5_entered 103 = .ok (.iaload, 1) := by decide +kernel
theorem dX5_entered_104 : decode cX5_entered 104 = .ok (.sipush 1000, 3) := by decide +kernel
theorem dX5_entered_107 : decode cX5_entered 107 = .ok (.if_icmp .ge 7, 3) := by decide +kernel
theorem dX5_entered_110 : decode cX5_entered 110 = .ok (.iconst 1, 1) := by decide +kernel
theorem dX5_entered_111 : decode cX5_entered 111 = .ok (.goto 4, 3) := by decide +kernel
theorem dX5_entered_114 : decode cX5_entered 114 = .ok (.iconst 0, 1) := by decide +kernel
theorem dX5_entered_115 : decode cX5_entered 115 = .ok (.istore 6, 2) := by decide +kernel
theorem dX5_entered_117 : decode cX5_entered 117 = .ok (.iinc 7 1, 3) := by decide +kernel
theorem dX5_entered_120 : decode cX5_entered 120 = .ok (.goto (-36), 3) := by decide +kernel
theorem dX5_entered_123 : decode cX5_entered 123 = .ok (.iload 6, 2) := by decide +kernel
theorem dX5_entered_125 : decode cX5_entered 125 = .ok (.ifCond .ne 6, 3) := by decide +kernel
theorem dX5_entered_128 : decode cX5_entered 128 = .ok (.iload 5, 2) := by decide +kernel
theorem dX5_entered_130 : decode cX5_entered 130 = .ok (.ireturn, 1) := by decide +kernel
theorem dX5_entered_131 : decode cX5_entered 131 = .ok (.iinc 5 1, 3) := by decide +kernel
theorem dX5_entered_134 : decode cX5_entered 134 = .ok (.goto (-92), 3) := by decide +kernel
theorem dX5_entered_137 : decode cX5_entered 137 = .ok (.iconst (-1), 1) := by decide +kernel
theorem dX5_entered_138 : decode cX5_entered 138 = .ok (.ireturn, 1) := by decide +kernel
set_option maxRecDepth 20000 in
theorem ggX5_stay_X5_canAsk : GoodIn wsX5_stay wsX5_canAsk := goodIn_r _ [7, 8, 9, 10, 6, 11, 12, 13, 14, 15, 16, 17, 18, 19, 20, 21, 22, 23, 50, 51, 52, 53, 54, 55, 56, 57, 58, 59, 60, 61] (by decide +kernel) (by decide +kernel)
set_option maxRecDepth 20000 in
theorem gX5_stay_X5_canAsk : GoodIn wsX5_stay (wsV RX5 71 RX5 yX5_canAsk wsX5_canAsk) := goodIn_app (goodIn_of _ (by decide +kernel)) ggX5_stay_X5_canAsk
set_option maxRecDepth 20000 in
theorem ggX5_stay_X5_in : GoodIn wsX5_stay wsX5_in := goodIn_r _ [15] (by decide +kernel) (by decide +kernel)
set_option maxRecDepth 20000 in
theorem gX5_stay_X5_in : GoodIn wsX5_stay (va_wsS RX5 45 yX5_in wsX5_in) := goodIn_app (goodIn_of _ (by decide +kernel)) ggX5_stay_X5_in
set_option maxRecDepth 20000 in
theorem ggX5_stay_X5_spreads : GoodIn wsX5_stay wsX5_spreads := goodIn_r _ [27, 1, 28, 29, 30, 6, 31, 50, 51, 52, 53, 54, 55, 56, 57, 58, 59, 60, 61] (by decide +kernel) (by decide +kernel)
set_option maxRecDepth 20000 in
theorem gX5_stay_X5_spreads : GoodIn wsX5_stay (wsV RX5 75 RX5 yX5_spreads wsX5_spreads) := goodIn_app (goodIn_of _ (by decide +kernel)) ggX5_stay_X5_spreads
set_option maxRecDepth 20000 in
theorem ggX5_stay_X5_keeps : GoodIn wsX5_stay wsX5_keeps := goodIn_r _ [35, 36, 1, 37, 38, 39, 6, 40, 41, 42, 43, 44, 45, 2, 46, 47, 48, 49, 13, 14, 15, 50, 51, 52, 53, 54, 55, 56, 57, 58, 59, 60, 61] (by decide +kernel) (by decide +kernel)
set_option maxRecDepth 20000 in
theorem gX5_stay_X5_keeps : GoodIn wsX5_stay (wsV RX5 79 RX5 yX5_keeps wsX5_keeps) := goodIn_app (goodIn_of _ (by decide +kernel)) ggX5_stay_X5_keeps
set_option maxRecDepth 20000 in
theorem ggX5_stay_X5_better : GoodIn wsX5_stay wsX5_better := goodIn_r _ [31] (by decide +kernel) (by decide +kernel)
set_option maxRecDepth 20000 in
theorem gX5_stay_X5_better : GoodIn wsX5_stay (va_wsS RX5 68 yX5_better wsX5_better) := goodIn_app (goodIn_of _ (by decide +kernel)) ggX5_stay_X5_better
theorem dX5_stay_0 : decode cX5_stay 0 = .ok (.aload_n 0, 1) := by decide +kernel
theorem dX5_stay_1 : decode cX5_stay 1 = .ok (.iload_n 1, 1) := by decide +kernel
theorem dX5_stay_2 : decode cX5_stay 2 = .ok (.iload_n 2, 1) := by decide +kernel
theorem dX5_stay_3 : decode cX5_stay 3 = .ok (.iload_n 3, 1) := by decide +kernel
theorem dX5_stay_4 : decode cX5_stay 4 = .ok (.iload 4, 2) := by decide +kernel
theorem dX5_stay_6 : decode cX5_stay 6 = .ok (.invokevirtual 71, 3) := by decide +kernel
theorem dX5_stay_9 : decode cX5_stay 9 = .ok (.ifCond .eq 13, 3) := by decide +kernel
theorem dX5_stay_12 : decode cX5_stay 12 = .ok (.iload 5, 2) := by decide +kernel
theorem dX5_stay_14 : decode cX5_stay 14 = .ok (.iconst 0, 1) := by decide +kernel
theorem dX5_stay_15 : decode cX5_stay 15 = .ok (.iconst 1, 1) := by decide +kernel
theorem dX5_stay_16 : decode cX5_stay 16 = .ok (.invokestatic 45, 3) := by decide +kernel
theorem dX5_stay_19 : decode cX5_stay 19 = .ok (.ifCond .ne 5, 3) := by decide +kernel
theorem dX5_stay_22 : decode cX5_stay 22 = .ok (.iconst (-1), 1) := by decide +kernel
theorem dX5_stay_23 : decode cX5_stay 23 = .ok (.ireturn, 1) := by decide +kernel
theorem dX5_stay_24 : decode cX5_stay 24 = .ok (.iload 5, 2) := by decide +kernel
theorem dX5_stay_26 : decode cX5_stay 26 = .ok (.ifCond .ne 7, 3) := by decide +kernel
theorem dX5_stay_29 : decode cX5_stay 29 = .ok (.iconst 1, 1) := by decide +kernel
theorem dX5_stay_30 : decode cX5_stay 30 = .ok (.goto 4, 3) := by decide +kernel
theorem dX5_stay_33 : decode cX5_stay 33 = .ok (.iconst 0, 1) := by decide +kernel
theorem dX5_stay_34 : decode cX5_stay 34 = .ok (.istore 6, 2) := by decide +kernel
theorem dX5_stay_36 : decode cX5_stay 36 = .ok (.iload 6, 2) := by decide +kernel
theorem dX5_stay_38 : decode cX5_stay 38 = .ok (.ifCond .eq 9, 3) := by decide +kernel
theorem dX5_stay_41 : decode cX5_stay 41 = .ok (.sipush 1000, 3) := by decide +kernel
theorem dX5_stay_44 : decode cX5_stay 44 = .ok (.goto 6, 3) := by decide +kernel
theorem dX5_stay_47 : decode cX5_stay 47 = .ok (.sipush (-1000), 3) := by decide +kernel
theorem dX5_stay_50 : decode cX5_stay 50 = .ok (.istore 7, 2) := by decide +kernel
theorem dX5_stay_52 : decode cX5_stay 52 = .ok (.iconst 0, 1) := by decide +kernel
theorem dX5_stay_53 : decode cX5_stay 53 = .ok (.istore 8, 2) := by decide +kernel
theorem dX5_stay_55 : decode cX5_stay 55 = .ok (.iload 8, 2) := by decide +kernel
theorem dX5_stay_57 : decode cX5_stay 57 = .ok (.sipush 4096, 3) := by decide +kernel
theorem dX5_stay_60 : decode cX5_stay 60 = .ok (.if_icmp .ge 17, 3) := by decide +kernel
theorem dX5_stay_63 : decode cX5_stay 63 = .ok (.aload_n 0, 1) := by decide +kernel
theorem dX5_stay_64 : decode cX5_stay 64 = .ok (.getfield 35, 3) := by decide +kernel
theorem dX5_stay_67 : decode cX5_stay 67 = .ok (.iload 8, 2) := by decide +kernel
theorem dX5_stay_69 : decode cX5_stay 69 = .ok (.iconst 0, 1) := by decide +kernel
theorem dX5_stay_70 : decode cX5_stay 70 = .ok (.iastore, 1) := by decide +kernel
theorem dX5_stay_71 : decode cX5_stay 71 = .ok (.iinc 8 1, 3) := by decide +kernel
theorem dX5_stay_74 : decode cX5_stay 74 = .ok (.goto (-19), 3) := by decide +kernel
theorem dX5_stay_77 : decode cX5_stay 77 = .ok (.iload_n 3, 1) := by decide +kernel
theorem dX5_stay_78 : decode cX5_stay 78 = .ok (.istore 8, 2) := by decide +kernel
theorem dX5_stay_80 : decode cX5_stay 80 = .ok (.iload 8, 2) := by decide +kernel
theorem dX5_stay_82 : decode cX5_stay 82 = .ok (.iload 4, 2) := by decide +kernel
theorem dX5_stay_84 : decode cX5_stay 84 = .ok (.if_icmp .gt 38, 3) := by decide +kernel
theorem dX5_stay_87 : decode cX5_stay 87 = .ok (.iload 8, 2) := by decide +kernel
theorem dX5_stay_89 : decode cX5_stay 89 = .ok (.iload_n 3, 1) := by decide +kernel
theorem dX5_stay_90 : decode cX5_stay 90 = .ok (.if_icmp .le 15, 3) := by decide +kernel
theorem dX5_stay_93 : decode cX5_stay 93 = .ok (.aload_n 0, 1) := by decide +kernel
theorem dX5_stay_94 : decode cX5_stay 94 = .ok (.aload_n 0, 1) := by decide +kernel
theorem dX5_stay_95 : decode cX5_stay 95 = .ok (.getfield 9, 3) := by decide +kernel
theorem dX5_stay_98 : decode cX5_stay 98 = .ok (.iload_n 1, 1) := by decide +kernel
theorem dX5_stay_99 : decode cX5_stay 99 = .ok (.iaload, 1) := by decide +kernel
theorem dX5_stay_100 : decode cX5_stay 100 = .ok (.iload 6, 2) := by decide +kernel
theorem dX5_stay_102 : decode cX5_stay 102 = .ok (.invokevirtual 75, 3) := by decide +kernel
theorem dX5_stay_105 : decode cX5_stay 105 = .ok (.aload_n 0, 1) := by decide +kernel
theorem dX5_stay_106 : decode cX5_stay 106 = .ok (.iload_n 1, 1) := by decide +kernel
theorem dX5_stay_107 : decode cX5_stay 107 = .ok (.iload_n 2, 1) := by decide +kernel
theorem dX5_stay_108 : decode cX5_stay 108 = .ok (.iload 8, 2) := by decide +kernel
theorem dX5_stay_110 : decode cX5_stay 110 = .ok (.iload 7, 2) := by decide +kernel
theorem dX5_stay_112 : decode cX5_stay 112 = .ok (.iconst 1, 1) := by decide +kernel
theorem dX5_stay_113 : decode cX5_stay 113 = .ok (.invokevirtual 79, 3) := by decide +kernel
theorem dX5_stay_116 : decode cX5_stay 116 = .ok (.iinc 8 1, 3) := by decide +kernel
theorem dX5_stay_119 : decode cX5_stay 119 = .ok (.goto (-39), 3) := by decide +kernel
theorem dX5_stay_122 : decode cX5_stay 122 = .ok (.iload 7, 2) := by decide +kernel
theorem dX5_stay_124 : decode cX5_stay 124 = .ok (.istore 8, 2) := by decide +kernel
theorem dX5_stay_126 : decode cX5_stay 126 = .ok (.iconst 0, 1) := by decide +kernel
theorem dX5_stay_127 : decode cX5_stay 127 = .ok (.istore 9, 2) := by decide +kernel
theorem dX5_stay_129 : decode cX5_stay 129 = .ok (.iload 9, 2) := by decide +kernel
theorem dX5_stay_131 : decode cX5_stay 131 = .ok (.sipush 4096, 3) := by decide +kernel
theorem dX5_stay_134 : decode cX5_stay 134 = .ok (.if_icmp .ge 25, 3) := by decide +kernel
theorem dX5_stay_137 : decode cX5_stay 137 = .ok (.iload 8, 2) := by decide +kernel
theorem dX5_stay_139 : decode cX5_stay 139 = .ok (.aload_n 0, 1) := by decide +kernel
theorem dX5_stay_140 : decode cX5_stay 140 = .ok (.getfield 35, 3) := by decide +kernel
theorem dX5_stay_143 : decode cX5_stay 143 = .ok (.iload 9, 2) := by decide +kernel
theorem dX5_stay_145 : decode cX5_stay 145 = .ok (.iaload, 1) := by decide +kernel
theorem dX5_stay_146 : decode cX5_stay 146 = .ok (.iload 6, 2) := by decide +kernel
theorem dX5_stay_148 : decode cX5_stay 148 = .ok (.invokestatic 68, 3) := by decide +kernel
theorem dX5_stay_151 : decode cX5_stay 151 = .ok (.istore 8, 2) := by decide +kernel
theorem dX5_stay_153 : decode cX5_stay 153 = .ok (.iinc 9 1, 3) := by decide +kernel
theorem dX5_stay_156 : decode cX5_stay 156 = .ok (.goto (-27), 3) := by decide +kernel
theorem dX5_stay_159 : decode cX5_stay 159 = .ok (.iload 8, 2) := by decide +kernel
theorem dX5_stay_161 : decode cX5_stay 161 = .ok (.ireturn, 1) := by decide +kernel
set_option maxRecDepth 20000 in
theorem ggX5_look_X5_in : GoodIn wsX5_look wsX5_in := goodIn_r _ [4] (by decide +kernel) (by decide +kernel)
set_option maxRecDepth 20000 in
theorem gX5_look_X5_in : GoodIn wsX5_look (va_wsS RX5 45 yX5_in wsX5_in) := goodIn_app (goodIn_of _ (by decide +kernel)) ggX5_look_X5_in
set_option maxRecDepth 20000 in
theorem ggX5_look_X5_state : GoodIn wsX5_look wsX5_state := goodIn_r _ [8, 9, 10, 11, 12, 3, 13, 14, 1, 2, 4, 15, 16, 17, 18, 19, 20, 21, 22, 23, 24, 25, 26, 27, 28, 29, 30, 31, 32, 33, 34, 35, 36, 37, 38, 39, 40, 41, 42, 43, 44, 45, 46, 47, 48] (by decide +kernel) (by decide +kernel)
set_option maxRecDepth 20000 in
theorem gX5_look_X5_state : GoodIn wsX5_look (wsV RX5 83 RX5 yX5_state wsX5_state) := goodIn_app (goodIn_of _ (by decide +kernel)) ggX5_look_X5_state
theorem dX5_look_0 : decode cX5_look 0 = .ok (.iload 4, 2) := by decide +kernel
theorem dX5_look_2 : decode cX5_look 2 = .ok (.iconst 0, 1) := by decide +kernel
theorem dX5_look_3 : decode cX5_look 3 = .ok (.bipush 79, 2) := by decide +kernel
theorem dX5_look_5 : decode cX5_look 5 = .ok (.invokestatic 45, 3) := by decide +kernel
theorem dX5_look_8 : decode cX5_look 8 = .ok (.ifCond .eq 13, 3) := by decide +kernel
theorem dX5_look_11 : decode cX5_look 11 = .ok (.aload_n 0, 1) := by decide +kernel
theorem dX5_look_12 : decode cX5_look 12 = .ok (.iload_n 1, 1) := by decide +kernel
theorem dX5_look_13 : decode cX5_look 13 = .ok (.iload_n 2, 1) := by decide +kernel
theorem dX5_look_14 : decode cX5_look 14 = .ok (.iload_n 3, 1) := by decide +kernel
theorem dX5_look_15 : decode cX5_look 15 = .ok (.invokevirtual 83, 3) := by decide +kernel
theorem dX5_look_18 : decode cX5_look 18 = .ok (.ifCond .eq 5, 3) := by decide +kernel
theorem dX5_look_21 : decode cX5_look 21 = .ok (.iconst (-1), 1) := by decide +kernel
theorem dX5_look_22 : decode cX5_look 22 = .ok (.ireturn, 1) := by decide +kernel
theorem dX5_look_23 : decode cX5_look 23 = .ok (.iload_n 3, 1) := by decide +kernel
theorem dX5_look_24 : decode cX5_look 24 = .ok (.iconst 1, 1) := by decide +kernel
theorem dX5_look_25 : decode cX5_look 25 = .ok (.iadd, 1) := by decide +kernel
theorem dX5_look_26 : decode cX5_look 26 = .ok (.istore 5, 2) := by decide +kernel
theorem dX5_look_28 : decode cX5_look 28 = .ok (.iload 5, 2) := by decide +kernel
theorem dX5_look_30 : decode cX5_look 30 = .ok (.bipush 80, 2) := by decide +kernel
theorem dX5_look_32 : decode cX5_look 32 = .ok (.if_icmp .ge 41, 3) := by decide +kernel
theorem dX5_look_35 : decode cX5_look 35 = .ok (.aload_n 0, 1) := by decide +kernel
theorem dX5_look_36 : decode cX5_look 36 = .ok (.iload_n 1, 1) := by decide +kernel
theorem dX5_look_37 : decode cX5_look 37 = .ok (.iload_n 2, 1) := by decide +kernel
theorem dX5_look_38 : decode cX5_look 38 = .ok (.iload 5, 2) := by decide +kernel
theorem dX5_look_40 : decode cX5_look 40 = .ok (.invokevirtual 83, 3) := by decide +kernel
theorem dX5_look_43 : decode cX5_look 43 = .ok (.ifCond .eq 24, 3) := by decide +kernel
theorem dX5_look_46 : decode cX5_look 46 = .ok (.iload 5, 2) := by decide +kernel
theorem dX5_look_48 : decode cX5_look 48 = .ok (.iload 4, 2) := by decide +kernel
theorem dX5_look_50 : decode cX5_look 50 = .ok (.iadd, 1) := by decide +kernel
theorem dX5_look_51 : decode cX5_look 51 = .ok (.bipush 80, 2) := by decide +kernel
theorem dX5_look_53 : decode cX5_look 53 = .ok (.if_icmp .ge 11, 3) := by decide +kernel
theorem dX5_look_56 : decode cX5_look 56 = .ok (.iload 5, 2) := by decide +kernel
theorem dX5_look_58 : decode cX5_look 58 = .ok (.iload 4, 2) := by decide +kernel
theorem dX5_look_60 : decode cX5_look 60 = .ok (.iadd, 1) := by decide +kernel
theorem dX5_look_61 : decode cX5_look 61 = .ok (.goto 5, 3) := by decide +kernel
theorem dX5_look_64 : decode cX5_look 64 = .ok (.bipush 79, 2) := by decide +kernel
theorem dX5_look_66 : decode cX5_look 66 = .ok (.ireturn, 1) := by decide +kernel
theorem dX5_look_67 : decode cX5_look 67 = .ok (.iinc 5 1, 3) := by decide +kernel
theorem dX5_look_70 : decode cX5_look 70 = .ok (.goto (-42), 3) := by decide +kernel
theorem dX5_look_73 : decode cX5_look 73 = .ok (.bipush 79, 2) := by decide +kernel
theorem dX5_look_75 : decode cX5_look 75 = .ok (.ireturn, 1) := by decide +kernel
set_option maxRecDepth 20000 in
theorem ggX5_apart_X5_isThing : GoodIn wsX5_apart wsX5_isThing := goodIn_r _ [5, 6, 7, 8, 4, 9, 27, 28, 29, 30, 31, 32, 33, 34, 35, 36, 37, 38] (by decide +kernel) (by decide +kernel)
set_option maxRecDepth 20000 in
theorem gX5_apart_X5_isThing : GoodIn wsX5_apart (wsV RX5 52 RX5 yX5_isThing wsX5_isThing) := goodIn_app (goodIn_of _ (by decide +kernel)) ggX5_apart_X5_isThing
set_option maxRecDepth 20000 in
theorem ggX5_apart_X5_isTick : GoodIn wsX5_apart wsX5_isTick := goodIn_r _ [12, 7, 8, 4, 9] (by decide +kernel) (by decide +kernel)
set_option maxRecDepth 20000 in
theorem gX5_apart_X5_isTick : GoodIn wsX5_apart (va_wsS RX5 56 yX5_isTick wsX5_isTick) := goodIn_app (goodIn_of _ (by decide +kernel)) ggX5_apart_X5_isTick
set_option maxRecDepth 20000 in
theorem ggX5_apart_X5_in : GoodIn wsX5_apart wsX5_in := goodIn_r _ [9] (by decide +kernel) (by decide +kernel)
set_option maxRecDepth 20000 in
theorem gX5_apart_X5_in : GoodIn wsX5_apart (va_wsS RX5 45 yX5_in wsX5_in) := goodIn_app (goodIn_of _ (by decide +kernel)) ggX5_apart_X5_in
set_option maxRecDepth 20000 in
theorem ggX5_apart_X5_low : GoodIn wsX5_apart wsX5_low := goodIn_r _ [16, 17, 18, 19, 20, 21, 22, 27, 28, 29, 30, 31, 32, 33, 34, 35, 36, 37, 38] (by decide +kernel) (by decide +kernel)
set_option maxRecDepth 20000 in
theorem gX5_apart_X5_low : GoodIn wsX5_apart (wsV RX5 59 RX5 yX5_low wsX5_low) := goodIn_app (goodIn_of _ (by decide +kernel)) ggX5_apart_X5_low
set_option maxRecDepth 20000 in
theorem ggX5_apart_X5_high : GoodIn wsX5_apart wsX5_high := goodIn_r _ [26, 17, 18, 19, 20, 21, 22, 27, 28, 29, 30, 31, 32, 33, 34, 35, 36, 37, 38] (by decide +kernel) (by decide +kernel)
set_option maxRecDepth 20000 in
theorem gX5_apart_X5_high : GoodIn wsX5_apart (wsV RX5 63 RX5 yX5_high wsX5_high) := goodIn_app (goodIn_of _ (by decide +kernel)) ggX5_apart_X5_high
theorem dX5_apart_0 : decode cX5_apart 0 = .ok (.aload_n 0, 1) := by decide +kernel
theorem dX5_apart_1 : decode cX5_apart 1 = .ok (.iload_n 1, 1) := by decide +kernel
theorem dX5_apart_2 : decode cX5_apart 2 = .ok (.invokevirtual 52, 3) := by decide +kernel
theorem dX5_apart_5 : decode cX5_apart 5 = .ok (.ifCond .eq 33, 3) := by decide +kernel
theorem dX5_apart_8 : decode cX5_apart 8 = .ok (.aload_n 0, 1) := by decide +kernel
theorem dX5_apart_9 : decode cX5_apart 9 = .ok (.iload_n 2, 1) := by decide +kernel
theorem dX5_apart_10 : decode cX5_apart 10 = .ok (.invokevirtual 52, 3) := by decide +kernel
theorem dX5_apart_13 : decode cX5_apart 13 = .ok (.ifCond .eq 25, 3) := by decide +kernel
theorem dX5_apart_16 : decode cX5_apart 16 = .ok (.iload_n 1, 1) := by decide +kernel
theorem dX5_apart_17 : decode cX5_apart 17 = .ok (.iload_n 2, 1) := by decide +kernel
theorem dX5_apart_18 : decode cX5_apart 18 = .ok (.if_icmp .eq 20, 3) := by decide +kernel
theorem dX5_apart_21 : decode cX5_apart 21 = .ok (.iload_n 3, 1) := by decide +kernel
theorem dX5_apart_22 : decode cX5_apart 22 = .ok (.invokestatic 56, 3) := by decide +kernel
theorem dX5_apart_25 : decode cX5_apart 25 = .ok (.ifCond .eq 13, 3) := by decide +kernel
theorem dX5_apart_28 : decode cX5_apart 28 = .ok (.iload 4, 2) := by decide +kernel
theorem dX5_apart_30 : decode cX5_apart 30 = .ok (.iconst 0, 1) := by decide +kernel
theorem dX5_apart_31 : decode cX5_apart 31 = .ok (.iconst 1, 1) := by decide +kernel
theorem dX5_apart_32 : decode cX5_apart 32 = .ok (.invokestatic 45, 3) := by decide +kernel
theorem dX5_apart_35 : decode cX5_apart 35 = .ok (.ifCond .ne 5, 3) := by decide +kernel
theorem dX5_apart_38 : decode cX5_apart 38 = .ok (.iconst (-1), 1) := by decide +kernel
theorem dX5_apart_39 : decode cX5_apart 39 = .ok (.ireturn, 1) := by decide +kernel
theorem dX5_apart_40 : decode cX5_apart 40 = .ok (.iconst 0, 1) := by decide +kernel
theorem dX5_apart_41 : decode cX5_apart 41 = .ok (.istore 5, 2) := by decide +kernel
theorem dX5_apart_43 : decode cX5_apart 43 = .ok (.iconst 0, 1) := by decide +kernel
theorem dX5_apart_44 : decode cX5_apart 44 = .ok (.istore 6, 2) := by decide +kernel
theorem dX5_apart_46 : decode cX5_apart 46 = .ok (.iload 6, 2) := by decide +kernel
theorem dX5_apart_48 : decode cX5_apart 48 = .ok (.iconst 2, 1) := by decide +kernel
theorem dX5_apart_49 : decode cX5_apart 49 = .ok (.if_icmp .ge 110, 3) := by decide +kernel
theorem dX5_apart_52 : decode cX5_apart 52 = .ok (.iload 6, 2) := by decide +kernel
theorem dX5_apart_54 : decode cX5_apart 54 = .ok (.ifCond .ne 7, 3) := by decide +kernel
theorem dX5_apart_57 : decode cX5_apart 57 = .ok (.iconst 1, 1) := by decide +kernel
theorem dX5_apart_58 : decode cX5_apart 58 = .ok (.goto 4, 3) := by decide +kernel
theorem dX5_apart_61 : decode cX5_apart 61 = .ok (.iconst 0, 1) := by decide +kernel
theorem dX5_apart_62 : decode cX5_apart 62 = .ok (.istore 7, 2) := by decide +kernel
theorem dX5_apart_64 : decode cX5_apart 64 = .ok (.aload_n 0, 1) := by decide +kernel
theorem dX5_apart_65 : decode cX5_apart 65 = .ok (.iload_n 1, 1) := by decide +kernel
theorem dX5_apart_66 : decode cX5_apart 66 = .ok (.iload_n 3, 1) := by decide +kernel
theorem dX5_apart_67 : decode cX5_apart 67 = .ok (.iload 7, 2) := by decide +kernel
theorem dX5_apart_69 : decode cX5_apart 69 = .ok (.invokevirtual 59, 3) := by decide +kernel
theorem dX5_apart_72 : decode cX5_apart 72 = .ok (.aload_n 0, 1) := by decide +kernel
theorem dX5_apart_73 : decode cX5_apart 73 = .ok (.iload_n 2, 1) := by decide +kernel
theorem dX5_apart_74 : decode cX5_apart 74 = .ok (.iload_n 3, 1) := by decide +kernel
theorem dX5_apart_75 : decode cX5_apart 75 = .ok (.iload 7, 2) := by decide +kernel
theorem dX5_apart_77 : decode cX5_apart 77 = .ok (.invokevirtual 63, 3) := by decide +kernel
theorem dX5_apart_80 : decode cX5_apart 80 = .ok (.isub, 1) := by decide +kernel
theorem dX5_apart_81 : decode cX5_apart 81 = .ok (.istore 8, 2) := by decide +kernel
theorem dX5_apart_83 : decode cX5_apart 83 = .ok (.aload_n 0, 1) := by decide +kernel
theorem dX5_apart_84 : decode cX5_apart 84 = .ok (.iload_n 2, 1) := by decide +kernel
theorem dX5_apart_85 : decode cX5_apart 85 = .ok (.iload_n 3, 1) := by decide +kernel
theorem dX5_apart_86 : decode cX5_apart 86 = .ok (.iload 7, 2) := by decide +kernel
theorem dX5_apart_88 : decode cX5_apart 88 = .ok (.invokevirtual 59, 3) := by decide +kernel
theorem dX5_apart_91 : decode cX5_apart 91 = .ok (.aload_n 0, 1) := by decide +kernel
theorem dX5_apart_92 : decode cX5_apart 92 = .ok (.iload_n 1, 1) := by decide +kernel
theorem dX5_apart_93 : decode cX5_apart 93 = .ok (.iload_n 3, 1) := by decide +kernel
theorem dX5_apart_94 : decode cX5_apart 94 = .ok (.iload 7, 2) := by decide +kernel
theorem dX5_apart_96 : decode cX5_apart 96 = .ok (.invokevirtual 63, 3) := by decide +kernel
theorem dX5_apart_99 : decode cX5_apart 99 = .ok (.isub, 1) := by decide +kernel
theorem dX5_apart_100 : decode cX5_apart 100 = .ok (.istore 9, 2) := by decide +kernel
theorem dX5_apart_102 : decode cX5_apart 102 = .ok (.iload 4, 2) := by decide +kernel
theorem dX5_apart_104 : decode cX5_apart 104 = .ok (.ifCond .ne 20, 3) := by decide +kernel
theorem dX5_apart_107 : decode cX5_apart 107 = .ok (.iload 8, 2) := by decide +kernel
theorem dX5_apart_109 : decode cX5_apart 109 = .ok (.iload 9, 2) := by decide +kernel
theorem dX5_apart_111 : decode cX5_apart 111 = .ok (.if_icmp .le 8, 3) := by decide +kernel
theorem dX5_apart_114 : decode cX5_apart 114 = .ok (.iload 8, 2) := by decide +kernel
theorem dX5_apart_116 : decode cX5_apart 116 = .ok (.goto 24, 3) := by decide +kernel
theorem dX5_apart_119 : decode cX5_apart 119 = .ok (.iload 9, 2) := by decide +kernel
theorem dX5_apart_121 : decode cX5_apart 121 = .ok (.goto 19, 3) := by decide +kernel
theorem dX5_apart_124 : decode cX5_apart 124 = .ok (.iload 8, 2) := by decide +kernel
theorem dX5_apart_126 : decode cX5_apart 126 = .ok (.iload 9, 2) := by decide +kernel
theorem dX5_apart_128 : decode cX5_apart 128 = .ok (.if_icmp .ge 9, 3) := by decide +kernel
theorem dX5_apart_131 : decode cX5_apart 131 = .ok (.iload 8, 2) := by decide +kernel
theorem dX5_apart_133 : decode cX5_apart 133 = .ok (.ineg, 1) := by decide +kernel
theorem dX5_apart_134 : decode cX5_apart 134 = .ok (.goto 6, 3) := by decide +kernel
theorem dX5_apart_137 : decode cX5_apart 137 = .ok (.iload 9, 2) := by decide +kernel
theorem dX5_apart_139 : decode cX5_apart 139 = .ok (.ineg, 1) := by decide +kernel
theorem dX5_apart_140 : decode cX5_apart 140 = .ok (.istore 10, 2) := by decide +kernel
theorem dX5_apart_142 : decode cX5_apart 142 = .ok (.iload 10, 2) := by decide +kernel
theorem dX5_apart_144 : decode cX5_apart 144 = .ok (.iload 5, 2) := by decide +kernel
theorem dX5_apart_146 : decode cX5_apart 146 = .ok (.if_icmp .le 7, 3) := by decide +kernel
theorem dX5_apart_149 : decode cX5_apart 149 = .ok (.iload 10, 2) := by decide +kernel
theorem dX5_apart_151 : decode cX5_apart 151 = .ok (.istore 5, 2) := by decide +kernel
theorem dX5_apart_153 : decode cX5_apart 153 = .ok (.iinc 6 1, 3) := by decide +kernel
theorem dX5_apart_156 : decode cX5_apart 156 = .ok (.goto (-110), 3) := by decide +kernel
theorem dX5_apart_159 : decode cX5_apart 159 = .ok (.iload 5, 2) := by decide +kernel
theorem dX5_apart_161 : decode cX5_apart 161 = .ok (.ireturn, 1) := by decide +kernel
theorem dX5_count_0 : decode cX5_count 0 = .ok (.iconst 0, 1) := by decide +kernel
theorem dX5_count_1 : decode cX5_count 1 = .ok (.istore_n 2, 1) := by decide +kernel
theorem dX5_count_2 : decode cX5_count 2 = .ok (.iconst 0, 1) := by decide +kernel
theorem dX5_count_3 : decode cX5_count 3 = .ok (.istore_n 3, 1) := by decide +kernel
theorem dX5_count_4 : decode cX5_count 4 = .ok (.iload_n 3, 1) := by decide +kernel
theorem dX5_count_5 : decode cX5_count 5 = .ok (.aload_n 0, 1) := by decide +kernel
theorem dX5_count_6 : decode cX5_count 6 = .ok (.getfield 41, 3) := by decide +kernel
theorem dX5_count_9 : decode cX5_count 9 = .ok (.if_icmp .ge 18, 3) := by decide +kernel
theorem dX5_count_12 : decode cX5_count 12 = .ok (.iload_n 2, 1) := by decide +kernel
theorem dX5_count_13 : decode cX5_count 13 = .ok (.aload_n 0, 1) := by decide +kernel
theorem dX5_count_14 : decode cX5_count 14 = .ok (.getfield 13, 3) := by decide +kernel
theorem dX5_count_17 : decode cX5_count 17 = .ok (.iload_n 3, 1) := by decide +kernel
theorem dX5_count_18 : decode cX5_count 18 = .ok (.iaload, 1) := by decide +kernel
theorem dX5_count_19 : decode cX5_count 19 = .ok (.iadd, 1) := by decide +kernel
theorem dX5_count_20 : decode cX5_count 20 = .ok (.istore_n 2, 1) := by decide +kernel
theorem dX5_count_21 : decode cX5_count 21 = .ok (.iinc 3 1, 3) := by decide +kernel
theorem dX5_count_24 : decode cX5_count 24 = .ok (.goto (-20), 3) := by decide +kernel
theorem dX5_count_27 : decode cX5_count 27 = .ok (.iload_n 1, 1) := by decide +kernel
theorem dX5_count_28 : decode cX5_count 28 = .ok (.ifCond .ne 10, 3) := by decide +kernel
theorem dX5_count_31 : decode cX5_count 31 = .ok (.aload_n 0, 1) := by decide +kernel
theorem dX5_count_32 : decode cX5_count 32 = .ok (.getfield 41, 3) := by decide +kernel
theorem dX5_count_35 : decode cX5_count 35 = .ok (.goto 25, 3) := by decide +kernel
theorem dX5_count_38 : decode cX5_count 38 = .ok (.iload_n 1, 1) := by decide +kernel
theorem dX5_count_39 : decode cX5_count 39 = .ok (.iconst 1, 1) := by decide +kernel
theorem dX5_count_40 : decode cX5_count 40 = .ok (.if_icmp .ne 7, 3) := by decide +kernel
theorem dX5_count_43 : decode cX5_count 43 = .ok (.iload_n 2, 1) := by decide +kernel
theorem dX5_count_44 : decode cX5_count 44 = .ok (.goto 16, 3) := by decide +kernel
theorem dX5_count_47 : decode cX5_count 47 = .ok (.iload_n 1, 1) := by decide +kernel
theorem dX5_count_48 : decode cX5_count 48 = .ok (.iconst 2, 1) := by decide +kernel
theorem dX5_count_49 : decode cX5_count 49 = .ok (.if_icmp .ne 10, 3) := by decide +kernel
theorem dX5_count_52 : decode cX5_count 52 = .ok (.aload_n 0, 1) := by decide +kernel
theorem dX5_count_53 : decode cX5_count 53 = .ok (.getfield 49, 3) := by decide +kernel
theorem dX5_count_56 : decode cX5_count 56 = .ok (.goto 4, 3) := by decide +kernel
theorem dX5_count_59 : decode cX5_count 59 = .ok (.iconst (-1), 1) := by decide +kernel
theorem dX5_count_60 : decode cX5_count 60 = .ok (.ireturn, 1) := by decide +kernel
theorem dJ13_bitCount_95d88_0 : decode cJ13_bitCount_95d88 0 = .ok (.lload_n 0, 1) := by decide +kernel
theorem dJ13_bitCount_95d88_1 : decode cJ13_bitCount_95d88 1 = .ok (.lload_n 0, 1) := by decide +kernel
theorem dJ13_bitCount_95d88_2 : decode cJ13_bitCount_95d88 2 = .ok (.iconst 1, 1) := by decide +kernel
theorem dJ13_bitCount_95d88_3 : decode cJ13_bitCount_95d88 3 = .ok (.lushr, 1) := by decide +kernel
theorem dJ13_bitCount_95d88_4 : decode cJ13_bitCount_95d88 4 = .ok (.ldc2_w 314, 3) := by decide +kernel
theorem dJ13_bitCount_95d88_7 : decode cJ13_bitCount_95d88 7 = .ok (.land, 1) := by decide +kernel
theorem dJ13_bitCount_95d88_8 : decode cJ13_bitCount_95d88 8 = .ok (.lsub, 1) := by decide +kernel
theorem dJ13_bitCount_95d88_9 : decode cJ13_bitCount_95d88 9 = .ok (.lstore_n 0, 1) := by decide +kernel
theorem dJ13_bitCount_95d88_10 : decode cJ13_bitCount_95d88 10 = .ok (.lload_n 0, 1) := by decide +kernel
theorem dJ13_bitCount_95d88_11 : decode cJ13_bitCount_95d88 11 = .ok (.ldc2_w 316, 3) := by decide +kernel
theorem dJ13_bitCount_95d88_14 : decode cJ13_bitCount_95d88 14 = .ok (.land, 1) := by decide +kernel
theorem dJ13_bitCount_95d88_15 : decode cJ13_bitCount_95d88 15 = .ok (.lload_n 0, 1) := by decide +kernel
theorem dJ13_bitCount_95d88_16 : decode cJ13_bitCount_95d88 16 = .ok (.iconst 2, 1) := by decide +kernel
theorem dJ13_bitCount_95d88_17 : decode cJ13_bitCount_95d88 17 = .ok (.lushr, 1) := by decide +kernel
theorem dJ13_bitCount_95d88_18 : decode cJ13_bitCount_95d88 18 = .ok (.ldc2_w 316, 3) := by decide +kernel
theorem dJ13_bitCount_95d88_21 : decode cJ13_bitCount_95d88 21 = .ok (.land, 1) := by decide +kernel
theorem dJ13_bitCount_95d88_22 : decode cJ13_bitCount_95d88 22 = .ok (.ladd, 1) := by decide +kernel
theorem dJ13_bitCount_95d88_23 : decode cJ13_bitCount_95d88 23 = .ok (.lstore_n 0, 1) := by decide +kernel
theorem dJ13_bitCount_95d88_24 : decode cJ13_bitCount_95d88 24 = .ok (.lload_n 0, 1) := by decide +kernel
theorem dJ13_bitCount_95d88_25 : decode cJ13_bitCount_95d88 25 = .ok (.lload_n 0, 1) := by decide +kernel
theorem dJ13_bitCount_95d88_26 : decode cJ13_bitCount_95d88 26 = .ok (.iconst 4, 1) := by decide +kernel
theorem dJ13_bitCount_95d88_27 : decode cJ13_bitCount_95d88 27 = .ok (.lushr, 1) := by decide +kernel
theorem dJ13_bitCount_95d88_28 : decode cJ13_bitCount_95d88 28 = .ok (.ladd, 1) := by decide +kernel
theorem dJ13_bitCount_95d88_29 : decode cJ13_bitCount_95d88 29 = .ok (.ldc2_w 318, 3) := by decide +kernel
theorem dJ13_bitCount_95d88_32 : decode cJ13_bitCount_95d88 32 = .ok (.land, 1) := by decide +kernel
theorem dJ13_bitCount_95d88_33 : decode cJ13_bitCount_95d88 33 = .ok (.lstore_n 0, 1) := by decide +kernel
theorem dJ13_bitCount_95d88_34 : decode cJ13_bitCount_95d88 34 = .ok (.lload_n 0, 1) := by decide +kernel
theorem dJ13_bitCount_95d88_35 : decode cJ13_bitCount_95d88 35 = .ok (.lload_n 0, 1) := by decide +kernel
theorem dJ13_bitCount_95d88_36 : decode cJ13_bitCount_95d88 36 = .ok (.bipush 8, 2) := by decide +kernel
theorem dJ13_bitCount_95d88_38 : decode cJ13_bitCount_95d88 38 = .ok (.lushr, 1) := by decide +kernel
theorem dJ13_bitCount_95d88_39 : decode cJ13_bitCount_95d88 39 = .ok (.ladd, 1) := by decide +kernel
theorem dJ13_bitCount_95d88_40 : decode cJ13_bitCount_95d88 40 = .ok (.lstore_n 0, 1) := by decide +kernel
theorem dJ13_bitCount_95d88_41 : decode cJ13_bitCount_95d88 41 = .ok (.lload_n 0, 1) := by decide +kernel
theorem dJ13_bitCount_95d88_42 : decode cJ13_bitCount_95d88 42 = .ok (.lload_n 0, 1) := by decide +kernel
theorem dJ13_bitCount_95d88_43 : decode cJ13_bitCount_95d88 43 = .ok (.bipush 16, 2) := by decide +kernel
theorem dJ13_bitCount_95d88_45 : decode cJ13_bitCount_95d88 45 = .ok (.lushr, 1) := by decide +kernel
theorem dJ13_bitCount_95d88_46 : decode cJ13_bitCount_95d88 46 = .ok (.ladd, 1) := by decide +kernel
theorem dJ13_bitCount_95d88_47 : decode cJ13_bitCount_95d88 47 = .ok (.lstore_n 0, 1) := by decide +kernel
theorem dJ13_bitCount_95d88_48 : decode cJ13_bitCount_95d88 48 = .ok (.lload_n 0, 1) := by decide +kernel
theorem dJ13_bitCount_95d88_49 : decode cJ13_bitCount_95d88 49 = .ok (.lload_n 0, 1) := by decide +kernel
theorem dJ13_bitCount_95d88_50 : decode cJ13_bitCount_95d88 50 = .ok (.bipush 32, 2) := by decide +kernel
theorem dJ13_bitCount_95d88_52 : decode cJ13_bitCount_95d88 52 = .ok (.lushr, 1) := by decide +kernel
theorem dJ13_bitCount_95d88_53 : decode cJ13_bitCount_95d88 53 = .ok (.ladd, 1) := by decide +kernel
theorem dJ13_bitCount_95d88_54 : decode cJ13_bitCount_95d88 54 = .ok (.lstore_n 0, 1) := by decide +kernel
theorem dJ13_bitCount_95d88_55 : decode cJ13_bitCount_95d88 55 = .ok (.lload_n 0, 1) := by decide +kernel
theorem dJ13_bitCount_95d88_56 : decode cJ13_bitCount_95d88 56 = .ok (.l2i, 1) := by decide +kernel
theorem dJ13_bitCount_95d88_57 : decode cJ13_bitCount_95d88 57 = .ok (.bipush 127, 2) := by decide +kernel
theorem dJ13_bitCount_95d88_59 : decode cJ13_bitCount_95d88 59 = .ok (.iand, 1) := by decide +kernel
theorem dJ13_bitCount_95d88_60 : decode cJ13_bitCount_95d88 60 = .ok (.ireturn, 1) := by decide +kernel
theorem dJ9_max_7cf53_0 : decode cJ9_max_7cf53 0 = .ok (.iload_n 0, 1) := by decide +kernel
theorem dJ9_max_7cf53_1 : decode cJ9_max_7cf53 1 = .ok (.iload_n 1, 1) := by decide +kernel
theorem dJ9_max_7cf53_2 : decode cJ9_max_7cf53 2 = .ok (.if_icmp .lt 7, 3) := by decide +kernel
theorem dJ9_max_7cf53_5 : decode cJ9_max_7cf53 5 = .ok (.iload_n 0, 1) := by decide +kernel
theorem dJ9_max_7cf53_6 : decode cJ9_max_7cf53 6 = .ok (.goto 4, 3) := by decide +kernel
theorem dJ9_max_7cf53_9 : decode cJ9_max_7cf53 9 = .ok (.iload_n 1, 1) := by decide +kernel
theorem dJ9_max_7cf53_10 : decode cJ9_max_7cf53 10 = .ok (.ireturn, 1) := by decide +kernel
theorem dJ9_min_7cf53_0 : decode cJ9_min_7cf53 0 = .ok (.iload_n 0, 1) := by decide +kernel
theorem dJ9_min_7cf53_1 : decode cJ9_min_7cf53 1 = .ok (.iload_n 1, 1) := by decide +kernel
theorem dJ9_min_7cf53_2 : decode cJ9_min_7cf53 2 = .ok (.if_icmp .gt 7, 3) := by decide +kernel
theorem dJ9_min_7cf53_5 : decode cJ9_min_7cf53 5 = .ok (.iload_n 0, 1) := by decide +kernel
theorem dJ9_min_7cf53_6 : decode cJ9_min_7cf53 6 = .ok (.goto 4, 3) := by decide +kernel
theorem dJ9_min_7cf53_9 : decode cJ9_min_7cf53 9 = .ok (.iload_n 1, 1) := by decide +kernel
theorem dJ9_min_7cf53_10 : decode cJ9_min_7cf53 10 = .ok (.ireturn, 1) := by decide +kernel
set_option maxRecDepth 20000 in
theorem ggL_law_X4_init : GoodIn wsL_law wsX4_init := goodIn_r _ [8, 9, 10, 11, 12, 13, 14, 15, 16, 17, 18, 19, 20, 21, 22, 23, 24, 25, 26, 27, 28, 29, 30, 31, 32, 33, 34, 35, 36, 37, 38, 39, 425, 426, 427, 428, 429, 430, 443, 444, 445, 446] (by decide +kernel) (by decide +kernel)
set_option maxRecDepth 20000 in
theorem gL_law_X4_init : GoodIn wsL_law (wsX4_init) := ggL_law_X4_init
set_option maxRecDepth 20000 in
theorem ggL_law_X5_init : GoodIn wsL_law wsX5_init := goodIn_r _ [42, 43, 10, 11, 44, 45, 46, 47, 48, 49, 50, 51, 52, 53, 54, 55, 431, 432, 433, 434, 435, 436, 437, 438, 439, 440, 441, 442] (by decide +kernel) (by decide +kernel)
set_option maxRecDepth 20000 in
theorem gL_law_X5_init : GoodIn wsL_law (wsX5_init) := ggL_law_X5_init
set_option maxRecDepth 20000 in
theorem ggL_law_X4_thing : GoodIn wsL_law wsX4_thing := goodIn_r _ [59, 23, 13, 12, 60, 61, 62, 63, 64, 65, 10, 11, 66, 44, 67, 68, 69, 70, 71, 72, 73, 74, 75, 76, 77, 78, 79, 80, 81, 82, 83, 425, 426, 427, 428, 429, 430, 447, 448, 449, 450, 451, 452, 453, 454, 455, 456, 457] (by decide +kernel) (by decide +kernel)
set_option maxRecDepth 20000 in
theorem gL_law_X4_thing : GoodIn wsL_law (wsV RL 13 RX4 yX4_thing wsX4_thing) := goodIn_app (goodIn_of _ (by decide +kernel)) ggL_law_X4_thing
set_option maxRecDepth 20000 in
theorem ggL_law_X5_thing : GoodIn wsL_law wsX5_thing := goodIn_r _ [87, 88, 45, 89, 90, 5, 91, 431, 432, 433, 434, 435, 436, 437, 438, 439, 440, 441, 442] (by decide +kernel) (by decide +kernel)
set_option maxRecDepth 20000 in
theorem gL_law_X5_thing : GoodIn wsL_law (wsV RL 17 RX5 yX5_thing wsX5_thing) := goodIn_app (goodIn_of _ (by decide +kernel)) ggL_law_X5_thing
set_option maxRecDepth 20000 in
theorem ggL_law_X4_see : GoodIn wsL_law wsX4_see := goodIn_r _ [95, 96, 97, 98, 2, 99, 23, 13, 100, 101, 102, 103, 104, 105, 106, 107, 108, 61, 109, 74, 67, 68, 69, 75, 110, 111, 112, 113, 71, 66, 114, 115, 116, 73, 117, 80, 81, 82, 83, 118, 119, 120, 121, 122, 123, 124, 125, 126, 127, 128, 129, 130, 131, 132, 133, 134, 135, 136, 137, 138, 139, 140, 141, 142, 143, 144, 145, 146, 147, 148, 425, 426, 427, 428, 429, 430, 447, 448, 449, 450, 451, 452, 453, 454, 455, 456, 457] (by decide +kernel) (by decide +kernel)
set_option maxRecDepth 20000 in
theorem gL_law_X4_see : GoodIn wsL_law (wsV RL 18 RX4 yX4_see wsX4_see) := goodIn_app (goodIn_of _ (by decide +kernel)) ggL_law_X4_see
set_option maxRecDepth 20000 in
theorem ggL_law_X5_see : GoodIn wsL_law wsX5_see := goodIn_r _ [152, 46, 48, 49, 50, 51, 47, 153, 154, 155, 5, 156, 88, 89, 90, 91, 157, 158, 159, 160, 161, 162, 163, 45, 164, 165, 166, 167, 431, 432, 433, 434, 435, 436, 437, 438, 439, 440, 441, 442] (by decide +kernel) (by decide +kernel)
set_option maxRecDepth 20000 in
theorem gL_law_X5_see : GoodIn wsL_law (wsV RL 22 RX5 yX5_see wsX5_see) := goodIn_app (goodIn_of _ (by decide +kernel)) ggL_law_X5_see
set_option maxRecDepth 20000 in
theorem ggL_law_X4_back : GoodIn wsL_law wsX4_back := goodIn_r _ [171, 96, 97, 98, 2, 99, 23, 13, 172, 173, 174, 61, 175, 74, 110, 111, 112, 113, 71, 67, 68, 69, 66, 114, 115, 116, 73, 117, 80, 81, 82, 83, 118, 119, 120, 121, 122, 123, 124, 125, 126, 127, 128, 129, 130, 131, 132, 133, 134, 135, 136, 425, 426, 427, 428, 429, 430, 447, 448, 449, 450, 451, 452, 453, 454, 455, 456, 457] (by decide +kernel) (by decide +kernel)
set_option maxRecDepth 20000 in
theorem gL_law_X4_back : GoodIn wsL_law (wsV RL 23 RX4 yX4_back wsX4_back) := goodIn_app (goodIn_of _ (by decide +kernel)) ggL_law_X4_back
set_option maxRecDepth 20000 in
theorem ggL_law_X5_back : GoodIn wsL_law wsX5_back := goodIn_r _ [179, 46, 153, 154, 155, 5, 156, 88, 89, 90, 91, 431, 432, 433, 434, 435, 436, 437, 438, 439, 440, 441, 442] (by decide +kernel) (by decide +kernel)
set_option maxRecDepth 20000 in
theorem gL_law_X5_back : GoodIn wsL_law (wsV RL 27 RX5 yX5_back wsX5_back) := goodIn_app (goodIn_of _ (by decide +kernel)) ggL_law_X5_back
set_option maxRecDepth 20000 in
theorem ggL_law_X4_jumps : GoodIn wsL_law wsX4_jumps := goodIn_r _ [183, 96, 97, 98, 2, 99, 23, 13, 184, 185, 186, 61, 187, 75, 425, 426, 427, 428, 429, 430, 447, 448, 449, 450, 451, 452, 453] (by decide +kernel) (by decide +kernel)
set_option maxRecDepth 20000 in
theorem gL_law_X4_jumps : GoodIn wsL_law (wsV RL 28 RX4 yX4_jumps wsX4_jumps) := goodIn_app (goodIn_of _ (by decide +kernel)) ggL_law_X4_jumps
set_option maxRecDepth 20000 in
theorem ggL_law_X5_jumps : GoodIn wsL_law wsX5_jumps := goodIn_r _ [191, 47, 153, 154, 155, 5, 156, 88, 89, 90, 91, 431, 432, 433, 434, 435, 436, 437, 438, 439, 440, 441, 442] (by decide +kernel) (by decide +kernel)
set_option maxRecDepth 20000 in
theorem gL_law_X5_jumps : GoodIn wsL_law (wsV RL 31 RX5 yX5_jumps wsX5_jumps) := goodIn_app (goodIn_of _ (by decide +kernel)) ggL_law_X5_jumps
set_option maxRecDepth 20000 in
theorem ggL_law_X4_where : GoodIn wsL_law wsX4_where := goodIn_r _ [195, 96, 97, 98, 2, 99, 23, 13, 100, 101, 102, 196, 197, 198, 61, 199, 71, 200, 201, 202, 73, 203, 81, 80, 83, 82, 454, 455, 456, 457, 425, 426, 427, 428, 429, 430, 447, 448, 449, 450, 451, 452, 453] (by decide +kernel) (by decide +kernel)
set_option maxRecDepth 20000 in
theorem gL_law_X4_where : GoodIn wsL_law (wsV RL 32 RX4 yX4_where wsX4_where) := goodIn_app (goodIn_of _ (by decide +kernel)) ggL_law_X4_where
set_option maxRecDepth 20000 in
theorem ggL_law_X5_where : GoodIn wsL_law wsX5_where := goodIn_r _ [207, 153, 154, 155, 5, 156, 88, 89, 90, 91, 157, 158, 159, 160, 161, 162, 163, 46, 48, 49, 50, 51, 45, 164, 165, 166, 167, 431, 432, 433, 434, 435, 436, 437, 438, 439, 440, 441, 442] (by decide +kernel) (by decide +kernel)
set_option maxRecDepth 20000 in
theorem gL_law_X5_where : GoodIn wsL_law (wsV RL 36 RX5 yX5_where wsX5_where) := goodIn_app (goodIn_of _ (by decide +kernel)) ggL_law_X5_where
set_option maxRecDepth 20000 in
theorem ggL_law_X4_ground : GoodIn wsL_law wsX4_ground := goodIn_r _ [211, 24, 15, 14, 16, 17, 25, 26, 27, 28, 10, 11, 29, 30, 425, 426, 427, 428, 429, 430, 443] (by decide +kernel) (by decide +kernel)
set_option maxRecDepth 20000 in
theorem gL_law_X4_ground : GoodIn wsL_law (wsV RL 37 RX4 yX4_ground wsX4_ground) := goodIn_app (goodIn_of _ (by decide +kernel)) ggL_law_X4_ground
set_option maxRecDepth 20000 in
theorem ggL_law_X5_ground : GoodIn wsL_law wsX5_ground := goodIn_r _ [215, 216, 431, 432, 433, 434, 435, 436, 437, 438, 439, 440, 441, 442] (by decide +kernel) (by decide +kernel)
set_option maxRecDepth 20000 in
theorem gL_law_X5_ground : GoodIn wsL_law (wsV RL 41 RX5 yX5_ground wsX5_ground) := goodIn_app (goodIn_of _ (by decide +kernel)) ggL_law_X5_ground
set_option maxRecDepth 20000 in
theorem ggL_law_X4_draw : GoodIn wsL_law wsX4_draw := goodIn_r _ [220, 221, 72, 73, 222, 223, 224, 2, 225, 24, 15, 103, 104, 105, 226, 118, 119, 227, 120, 121, 228, 77, 78, 79, 10, 11, 80, 81, 82, 83, 229, 142, 143, 144, 230, 231, 232, 17, 233, 30, 234, 235, 236, 237, 238, 239, 240, 241, 242, 243, 244, 245, 246, 247, 248, 249, 250, 251, 252, 253, 254, 454, 455, 456, 457, 425, 426, 427, 428, 429, 430, 443] (by decide +kernel) (by decide +kernel)
set_option maxRecDepth 20000 in
theorem gL_law_X4_draw : GoodIn wsL_law (wsV RL 42 RX4 yX4_draw wsX4_draw) := goodIn_app (goodIn_of _ (by decide +kernel)) ggL_law_X4_draw
set_option maxRecDepth 20000 in
theorem ggL_law_X5_draw : GoodIn wsL_law wsX5_draw := goodIn_r _ [258, 53, 259, 260, 261, 5, 262, 216, 89, 90, 91, 431, 432, 433, 434, 435, 436, 437, 438, 439, 440, 441, 442] (by decide +kernel) (by decide +kernel)
set_option maxRecDepth 20000 in
theorem gL_law_X5_draw : GoodIn wsL_law (wsV RL 46 RX5 yX5_draw wsX5_draw) := goodIn_app (goodIn_of _ (by decide +kernel)) ggL_law_X5_draw
set_option maxRecDepth 20000 in
theorem ggL_law_X4_has : GoodIn wsL_law wsX4_has := goodIn_r _ [266, 222, 223, 224, 2, 225, 24, 15, 103, 104, 105, 226, 118, 119, 227, 120, 121, 267, 268, 269, 17, 270, 30, 425, 426, 427, 428, 429, 430, 443] (by decide +kernel) (by decide +kernel)
set_option maxRecDepth 20000 in
theorem gL_law_X4_has : GoodIn wsL_law (wsV RL 47 RX4 yX4_has wsX4_has) := goodIn_app (goodIn_of _ (by decide +kernel)) ggL_law_X4_has
set_option maxRecDepth 20000 in
theorem ggL_law_X5_has : GoodIn wsL_law wsX5_has := goodIn_r _ [274, 53, 259, 260, 261, 5, 262, 216, 89, 90, 91, 431, 432, 433, 434, 435, 436, 437, 438, 439, 440, 441, 442] (by decide +kernel) (by decide +kernel)
set_option maxRecDepth 20000 in
theorem gL_law_X5_has : GoodIn wsL_law (wsV RL 51 RX5 yX5_has wsX5_has) := goodIn_app (goodIn_of _ (by decide +kernel)) ggL_law_X5_has
set_option maxRecDepth 20000 in
theorem ggL_law_X4_state : GoodIn wsL_law wsX4_state := goodIn_r _ [278, 96, 97, 98, 2, 99, 23, 13, 222, 223, 224, 225, 24, 15, 100, 101, 102, 279, 280, 281, 196, 197, 198, 61, 199, 71, 282, 283, 284, 17, 285, 30, 234, 235, 236, 73, 237, 238, 83, 82, 286, 287, 288, 289, 425, 426, 427, 428, 429, 430, 447, 448, 449, 450, 451, 452, 453, 454, 455, 456, 457, 443] (by decide +kernel) (by decide +kernel)
set_option maxRecDepth 20000 in
theorem gL_law_X4_state : GoodIn wsL_law (wsV RL 52 RX4 yX4_state wsX4_state) := goodIn_app (goodIn_of _ (by decide +kernel)) ggL_law_X4_state
set_option maxRecDepth 20000 in
theorem ggL_law_X5_state : GoodIn wsL_law wsX5_state := goodIn_r _ [293, 53, 153, 154, 155, 5, 156, 88, 89, 90, 91, 259, 260, 261, 262, 216, 157, 158, 159, 164, 165, 166, 167, 46, 48, 49, 50, 51, 45, 160, 161, 162, 163, 431, 432, 433, 434, 435, 436, 437, 438, 439, 440, 441, 442] (by decide +kernel) (by decide +kernel)
set_option maxRecDepth 20000 in
theorem gL_law_X5_state : GoodIn wsL_law (wsV RL 55 RX5 yX5_state wsX5_state) := goodIn_app (goodIn_of _ (by decide +kernel)) ggL_law_X5_state
set_option maxRecDepth 20000 in
theorem ggL_law_X4_entered : GoodIn wsL_law wsX4_entered := goodIn_r _ [297, 18, 96, 97, 98, 2, 99, 23, 13, 222, 223, 224, 225, 24, 15, 298, 299, 300, 100, 101, 102, 196, 197, 198, 61, 199, 71, 301, 302, 303, 17, 304, 30, 234, 235, 236, 73, 237, 238, 83, 82, 305, 306, 307, 308, 243, 309, 310, 311, 312, 313, 314, 315, 316, 66, 317, 318, 319, 320, 321, 131, 128, 132, 322, 323, 324, 325, 326, 327, 328, 329, 425, 426, 427, 428, 429, 430, 447, 448, 449, 450, 451, 452, 453, 443, 454, 455, 456, 457] (by decide +kernel) (by decide +kernel)
set_option maxRecDepth 20000 in
theorem gL_law_X4_entered : GoodIn wsL_law (wsV RL 56 RX4 yX4_entered wsX4_entered) := goodIn_app (goodIn_of _ (by decide +kernel)) ggL_law_X4_entered
set_option maxRecDepth 20000 in
theorem ggL_law_X5_entered : GoodIn wsL_law wsX5_entered := goodIn_r _ [333, 54, 45, 334, 335, 336, 5, 337, 153, 154, 155, 156, 88, 89, 90, 91, 259, 260, 261, 262, 216, 157, 158, 159, 338, 339, 340, 341, 55, 342, 343, 344, 345, 346, 347, 348, 53, 160, 161, 162, 163, 46, 48, 49, 50, 51, 164, 165, 166, 167, 431, 432, 433, 434, 435, 436, 437, 438, 439, 440, 441, 442] (by decide +kernel) (by decide +kernel)
set_option maxRecDepth 20000 in
theorem gL_law_X5_entered : GoodIn wsL_law (wsV RL 59 RX5 yX5_entered wsX5_entered) := goodIn_app (goodIn_of _ (by decide +kernel)) ggL_law_X5_entered
set_option maxRecDepth 20000 in
theorem ggL_law_X4_stay : GoodIn wsL_law wsX4_stay := goodIn_r _ [352, 22, 18, 96, 97, 98, 2, 99, 23, 13, 222, 223, 224, 225, 24, 15, 298, 299, 300, 100, 101, 102, 353, 354, 355, 21, 356, 37, 38, 357, 358, 359, 360, 36, 361, 314, 315, 61, 316, 66, 71, 317, 318, 319, 17, 320, 321, 131, 128, 132, 322, 323, 324, 325, 30, 326, 327, 328, 329, 234, 235, 236, 73, 237, 238, 83, 82, 362, 197, 198, 199, 363, 302, 303, 304, 364, 365, 366, 367, 368, 369, 370, 371, 243, 372, 306, 307, 308, 373, 374, 375, 376, 377, 310, 311, 312, 378, 287, 288, 289, 379, 380, 381, 382, 425, 426, 427, 428, 429, 430, 444, 445, 446, 447, 448, 449, 450, 451, 452, 453, 443, 454, 455, 456, 457] (by decide +kernel) (by decide +kernel)
set_option maxRecDepth 20000 in
theorem gL_law_X4_stay : GoodIn wsL_law (wsV RL 60 RX4 yX4_stay wsX4_stay) := goodIn_app (goodIn_of _ (by decide +kernel)) ggL_law_X4_stay
set_option maxRecDepth 20000 in
theorem ggL_law_X5_stay : GoodIn wsL_law wsX5_stay := goodIn_r _ [386, 54, 45, 334, 335, 336, 5, 337, 153, 154, 155, 156, 88, 89, 90, 91, 259, 260, 261, 262, 216, 157, 158, 159, 338, 339, 340, 341, 55, 342, 343, 344, 345, 346, 347, 348, 53, 160, 161, 162, 163, 46, 48, 49, 50, 51, 164, 165, 166, 167, 431, 432, 433, 434, 435, 436, 437, 438, 439, 440, 441, 442] (by decide +kernel) (by decide +kernel)
set_option maxRecDepth 20000 in
theorem gL_law_X5_stay : GoodIn wsL_law (wsV RL 64 RX5 yX5_stay wsX5_stay) := goodIn_app (goodIn_of _ (by decide +kernel)) ggL_law_X5_stay
set_option maxRecDepth 20000 in
theorem ggL_law_X4_look : GoodIn wsL_law wsX4_look := goodIn_r _ [390, 391, 131, 128, 132, 96, 97, 98, 2, 99, 23, 13, 222, 223, 224, 225, 24, 15, 100, 101, 102, 279, 280, 281, 196, 197, 198, 61, 199, 71, 282, 283, 284, 17, 285, 30, 234, 235, 236, 73, 237, 238, 83, 82, 286, 287, 288, 289, 425, 426, 427, 428, 429, 430, 447, 448, 449, 450, 451, 452, 453, 454, 455, 456, 457, 443] (by decide +kernel) (by decide +kernel)
set_option maxRecDepth 20000 in
theorem gL_law_X4_look : GoodIn wsL_law (wsV RL 65 RX4 yX4_look wsX4_look) := goodIn_app (goodIn_of _ (by decide +kernel)) ggL_law_X4_look
set_option maxRecDepth 20000 in
theorem ggL_law_X5_look : GoodIn wsL_law wsX5_look := goodIn_r _ [395, 89, 90, 5, 91, 396, 291, 292, 293, 53, 153, 154, 155, 156, 88, 259, 260, 261, 262, 216, 157, 158, 159, 164, 165, 166, 167, 46, 48, 49, 50, 51, 45, 160, 161, 162, 163, 431, 432, 433, 434, 435, 436, 437, 438, 439, 440, 441, 442] (by decide +kernel) (by decide +kernel)
set_option maxRecDepth 20000 in
theorem gL_law_X5_look : GoodIn wsL_law (wsV RL 68 RX5 yX5_look wsX5_look) := goodIn_app (goodIn_of _ (by decide +kernel)) ggL_law_X5_look
set_option maxRecDepth 20000 in
theorem ggL_law_X4_apart : GoodIn wsL_law wsX4_apart := goodIn_r _ [400, 96, 97, 98, 2, 99, 23, 13, 100, 101, 102, 196, 197, 198, 61, 199, 71, 401, 402, 403, 73, 404, 80, 81, 126, 127, 128, 129, 82, 83, 405, 406, 407, 408, 425, 426, 427, 428, 429, 430, 447, 448, 449, 450, 451, 452, 453, 454, 455, 456, 457] (by decide +kernel) (by decide +kernel)
set_option maxRecDepth 20000 in
theorem gL_law_X4_apart : GoodIn wsL_law (wsV RL 69 RX4 yX4_apart wsX4_apart) := goodIn_app (goodIn_of _ (by decide +kernel)) ggL_law_X4_apart
set_option maxRecDepth 20000 in
theorem ggL_law_X5_apart : GoodIn wsL_law wsX5_apart := goodIn_r _ [412, 153, 154, 155, 5, 156, 88, 89, 90, 91, 157, 158, 159, 160, 161, 162, 163, 46, 48, 49, 50, 51, 45, 164, 165, 166, 167, 431, 432, 433, 434, 435, 436, 437, 438, 439, 440, 441, 442] (by decide +kernel) (by decide +kernel)
set_option maxRecDepth 20000 in
theorem gL_law_X5_apart : GoodIn wsL_law (wsV RL 72 RX5 yX5_apart wsX5_apart) := goodIn_app (goodIn_of _ (by decide +kernel)) ggL_law_X5_apart
set_option maxRecDepth 20000 in
theorem ggL_law_X4_count : GoodIn wsL_law wsX4_count := goodIn_r _ [416, 23, 24, 417, 418, 419, 2, 420, 13, 145, 146, 147, 61, 148, 74, 425, 426, 427, 428, 429, 430, 447, 448, 449, 450, 451, 452, 453] (by decide +kernel) (by decide +kernel)
set_option maxRecDepth 20000 in
theorem gL_law_X4_count : GoodIn wsL_law (wsV RL 73 RX4 yX4_count wsX4_count) := goodIn_app (goodIn_of _ (by decide +kernel)) ggL_law_X4_count
set_option maxRecDepth 20000 in
theorem ggL_law_X5_count : GoodIn wsL_law wsX5_count := goodIn_r _ [424, 88, 46, 216, 431, 432, 433, 434, 435, 436, 437, 438, 439, 440, 441, 442] (by decide +kernel) (by decide +kernel)
set_option maxRecDepth 20000 in
theorem gL_law_X5_count : GoodIn wsL_law (wsV RL 76 RX5 yX5_count wsX5_count) := goodIn_app (goodIn_of _ (by decide +kernel)) ggL_law_X5_count
theorem dL_law_0 : decode cL_law 0 = .ok (.new 7, 3) := by decide +kernel
theorem dL_law_3 : decode cL_law 3 = .ok (.dup, 1) := by decide +kernel
theorem dL_law_4 : decode cL_law 4 = .ok (.invokespecial 9, 3) := by decide +kernel
theorem dL_law_7 : decode cL_law 7 = .ok (.astore_n 1, 1) := by decide +kernel
theorem dL_law_8 : decode cL_law 8 = .ok (.new 10, 3) := by decide +kernel
theorem dL_law_11 : decode cL_law 11 = .ok (.dup, 1) := by decide +kernel
theorem dL_law_12 : decode cL_law 12 = .ok (.invokespecial 12, 3) := by decide +kernel
theorem dL_law_15 : decode cL_law 15 = .ok (.astore_n 2, 1) := by decide +kernel
theorem dL_law_16 : decode cL_law 16 = .ok (.iconst 0, 1) := by decide +kernel
theorem dL_law_17 : decode cL_law 17 = .ok (.istore_n 3, 1) := by decide +kernel
theorem dL_law_18 : decode cL_law 18 = .ok (.iload_n 3, 1) := by decide +kernel
theorem dL_law_19 : decode cL_law 19 = .ok (.aload_n 0, 1) := by decide +kernel
theorem dL_law_20 : decode cL_law 20 = .ok (.arraylength, 1) := by decide +kernel
theorem dL_law_21 : decode cL_law 21 = .ok (.bipush 6, 2) := by decide +kernel
theorem dL_law_23 : decode cL_law 23 = .ok (.isub, 1) := by decide +kernel
theorem dL_law_24 : decode cL_law 24 = .ok (.if_icmp .gt 654, 3) := by decide +kernel
theorem dL_law_27 : decode cL_law 27 = .ok (.aload_n 0, 1) := by decide +kernel
theorem dL_law_28 : decode cL_law 28 = .ok (.iload_n 3, 1) := by decide +kernel
theorem dL_law_29 : decode cL_law 29 = .ok (.iaload, 1) := by decide +kernel
theorem dL_law_30 : decode cL_law 30 = .ok (.bipush 15, 2) := by decide +kernel
theorem dL_law_32 : decode cL_law 32 = .ok (.iand, 1) := by decide +kernel
theorem dL_law_33 : decode cL_law 33 = .ok (.tableswitch 639 0 13 #[71, 94, 147, 170, 193, 236, 249, 318, 351, 394, 447, 510, 563, 616], 71) := by decide +kernel
theorem dL_law_104 : decode cL_law 104 = .ok (.aload_n 1, 1) := by decide +kernel
theorem dL_law_105 : decode cL_law 105 = .ok (.aload_n 0, 1) := by decide +kernel
theorem dL_law_106 : decode cL_law 106 = .ok (.iload_n 3, 1) := by decide +kernel
theorem dL_law_107 : decode cL_law 107 = .ok (.iconst 1, 1) := by decide +kernel
theorem dL_law_108 : decode cL_law 108 = .ok (.iadd, 1) := by decide +kernel
theorem dL_law_109 : decode cL_law 109 = .ok (.iaload, 1) := by decide +kernel
theorem dL_law_110 : decode cL_law 110 = .ok (.invokevirtual 13, 3) := by decide +kernel
theorem dL_law_113 : decode cL_law 113 = .ok (.aload_n 2, 1) := by decide +kernel
theorem dL_law_114 : decode cL_law 114 = .ok (.aload_n 0, 1) := by decide +kernel
theorem dL_law_115 : decode cL_law 115 = .ok (.iload_n 3, 1) := by decide +kernel
theorem dL_law_116 : decode cL_law 116 = .ok (.iconst 1, 1) := by decide +kernel
theorem dL_law_117 : decode cL_law 117 = .ok (.iadd, 1) := by decide +kernel
theorem dL_law_118 : decode cL_law 118 = .ok (.iaload, 1) := by decide +kernel
theorem dL_law_119 : decode cL_law 119 = .ok (.invokevirtual 17, 3) := by decide +kernel
theorem dL_law_122 : decode cL_law 122 = .ok (.if_icmp .eq 550, 3) := by decide +kernel
theorem dL_law_125 : decode cL_law 125 = .ok (.iconst 0, 1) := by decide +kernel
theorem dL_law_126 : decode cL_law 126 = .ok (.ireturn, 1) := by decide +kernel
theorem dL_law_127 : decode cL_law 127 = .ok (.aload_n 1, 1) := by decide +kernel
theorem dL_law_128 : decode cL_law 128 = .ok (.aload_n 0, 1) := by decide +kernel
theorem dL_law_129 : decode cL_law 129 = .ok (.iload_n 3, 1) := by decide +kernel
theorem dL_law_130 : decode cL_law 130 = .ok (.iconst 1, 1) := by decide +kernel
theorem dL_law_131 : decode cL_law 131 = .ok (.iadd, 1) := by decide +kernel
theorem dL_law_132 : decode cL_law 132 = .ok (.iaload, 1) := by decide +kernel
theorem dL_law_133 : decode cL_law 133 = .ok (.aload_n 0, 1) := by decide +kernel
theorem dL_law_134 : decode cL_law 134 = .ok (.iload_n 3, 1) := by decide +kernel
theorem dL_law_135 : decode cL_law 135 = .ok (.iconst 2, 1) := by decide +kernel
theorem dL_law_136 : decode cL_law 136 = .ok (.iadd, 1) := by decide +kernel
theorem dL_law_137 : decode cL_law 137 = .ok (.iaload, 1) := by decide +kernel
theorem dL_law_138 : decode cL_law 138 = .ok (.aload_n 0, 1) := by decide +kernel
theorem dL_law_139 : decode cL_law 139 = .ok (.iload_n 3, 1) := by decide +kernel
theorem dL_law_140 : decode cL_law 140 = .ok (.iconst 3, 1) := by decide +kernel
theorem dL_law_141 : decode cL_law 141 = .ok (.iadd, 1) := by decide +kernel
theorem dL_law_142 : decode cL_law 142 = .ok (.iaload, 1) := by decide +kernel
theorem dL_law_143 : decode cL_law 143 = .ok (.aload_n 0, 1) := by decide +kernel
theorem dL_law_144 : decode cL_law 144 = .ok (.iload_n 3, 1) := by decide +kernel
theorem dL_law_145 : decode cL_law 145 = .ok (.iconst 4, 1) := by decide +kernel
theorem dL_law_146 : decode cL_law 146 = .ok (.iadd, 1) := by decide +kernel
theorem dL_law_147 : decode cL_law 147 = .ok (.iaload, 1) := by decide +kernel
theorem dL_law_148 : decode cL_law 148 = .ok (.invokevirtual 18, 3) := by decide +kernel
theorem dL_law_151 : decode cL_law 151 = .ok (.aload_n 2, 1) := by decide +kernel
theorem dL_law_152 : decode cL_law 152 = .ok (.aload_n 0, 1) := by decide +kernel
theorem dL_law_153 : decode cL_law 153 = .ok (.iload_n 3, 1) := by decide +kernel
theorem dL_law_154 : decode cL_law 154 = .ok (.iconst 1, 1) := by decide +kernel
theorem dL_law_155 : decode cL_law 155 = .ok (.iadd, 1) := by decide +kernel
theorem dL_law_156 : decode cL_law 156 = .ok (.iaload, 1) := by decide +kernel
theorem dL_law_157 : decode cL_law 157 = .ok (.aload_n 0, 1) := by decide +kernel
theorem dL_law_158 : decode cL_law 158 = .ok (.iload_n 3, 1) := by decide +kernel
theorem dL_law_159 : decode cL_law 159 = .ok (.iconst 2, 1) := by decide +kernel
theorem dL_law_160 : decode cL_law 160 = .ok (.iadd, 1) := by decide +kernel
theorem dL_law_161 : decode cL_law 161 = .ok (.iaload, 1) := by decide +kernel
theorem dL_law_162 : decode cL_law 162 = .ok (.aload_n 0, 1) := by decide +kernel
theorem dL_law_163 : decode cL_law 163 = .ok (.iload_n 3, 1) := by decide +kernel
theorem dL_law_164 : decode cL_law 164 = .ok (.iconst 3, 1) := by decide +kernel
theorem dL_law_165 : decode cL_law 165 = .ok (.iadd, 1) := by decide +kernel
theorem dL_law_166 : decode cL_law 166 = .ok (.iaload, 1) := by decide +kernel
theorem dL_law_167 : decode cL_law 167 = .ok (.aload_n 0, 1) := by decide +kernel
theorem dL_law_168 : decode cL_law 168 = .ok (.iload_n 3, 1) := by decide +kernel
theorem dL_law_169 : decode cL_law 169 = .ok (.iconst 4, 1) := by decide +kernel
theorem dL_law_170 : decode cL_law 170 = .ok (.iadd, 1) := by decide +kernel
theorem dL_law_171 : decode cL_law 171 = .ok (.iaload, 1) := by decide +kernel
theorem dL_law_172 : decode cL_law 172 = .ok (.invokevirtual 22, 3) := by decide +kernel
theorem dL_law_175 : decode cL_law 175 = .ok (.if_icmp .eq 497, 3) := by decide +kernel
theorem dL_law_178 : decode cL_law 178 = .ok (.iconst 0, 1) := by decide +kernel
theorem dL_law_179 : decode cL_law 179 = .ok (.ireturn, 1) := by decide +kernel
theorem dL_law_180 : decode cL_law 180 = .ok (.aload_n 1, 1) := by decide +kernel
theorem dL_law_181 : decode cL_law 181 = .ok (.aload_n 0, 1) := by decide +kernel
theorem dL_law_182 : decode cL_law 182 = .ok (.iload_n 3, 1) := by decide +kernel
theorem dL_law_183 : decode cL_law 183 = .ok (.iconst 1, 1) := by decide +kernel
theorem dL_law_184 : decode cL_law 184 = .ok (.iadd, 1) := by decide +kernel
theorem dL_law_185 : decode cL_law 185 = .ok (.iaload, 1) := by decide +kernel
theorem dL_law_186 : decode cL_law 186 = .ok (.invokevirtual 23, 3) := by decide +kernel
theorem dL_law_189 : decode cL_law 189 = .ok (.aload_n 2, 1) := by decide +kernel
theorem dL_law_190 : decode cL_law 190 = .ok (.aload_n 0, 1) := by decide +kernel
theorem dL_law_191 : decode cL_law 191 = .ok (.iload_n 3, 1) := by decide +kernel
theorem dL_law_192 : decode cL_law 192 = .ok (.iconst 1, 1) := by decide +kernel
theorem dL_law_193 : decode cL_law 193 = .ok (.iadd, 1) := by decide +kernel
theorem dL_law_194 : decode cL_law 194 = .ok (.iaload, 1) := by decide +kernel
theorem dL_law_195 : decode cL_law 195 = .ok (.invokevirtual 27, 3) := by decide +kernel
theorem dL_law_198 : decode cL_law 198 = .ok (.if_icmp .eq 474, 3) := by decide +kernel
theorem dL_law_201 : decode cL_law 201 = .ok (.iconst 0, 1) := by decide +kernel
theorem dL_law_202 : decode cL_law 202 = .ok (.ireturn, 1) := by decide +kernel
theorem dL_law_203 : decode cL_law 203 = .ok (.aload_n 1, 1) := by decide +kernel
theorem dL_law_204 : decode cL_law 204 = .ok (.aload_n 0, 1) := by decide +kernel
theorem dL_law_205 : decode cL_law 205 = .ok (.iload_n 3, 1) := by decide +kernel
theorem dL_law_206 : decode cL_law 206 = .ok (.iconst 1, 1) := by decide +kernel
theorem dL_law_207 : decode cL_law 207 = .ok (.iadd, 1) := by decide +kernel
theorem dL_law_208 : decode cL_law 208 = .ok (.iaload, 1) := by decide +kernel
theorem dL_law_209 : decode cL_law 209 = .ok (.invokevirtual 28, 3) := by decide +kernel
theorem dL_law_212 : decode cL_law 212 = .ok (.aload_n 2, 1) := by decide +kernel
theorem dL_law_213 : decode cL_law 213 = .ok (.aload_n 0, 1) := by decide +kernel
theorem dL_law_214 : decode cL_law 214 = .ok (.iload_n 3, 1) := by decide +kernel
theorem dL_law_215 : decode cL_law 215 = .ok (.iconst 1, 1) := by decide +kernel
theorem dL_law_216 : decode cL_law 216 = .ok (.iadd, 1) := by decide +kernel
theorem dL_law_217 : decode cL_law 217 = .ok (.iaload, 1) := by decide +kernel
theorem dL_law_218 : decode cL_law 218 = .ok (.invokevirtual 31, 3) := by decide +kernel
theorem dL_law_221 : decode cL_law 221 = .ok (.if_icmp .eq 451, 3) := by decide +kernel
theorem dL_law_224 : decode cL_law 224 = .ok (.iconst 0, 1) := by decide +kernel
theorem dL_law_225 : decode cL_law 225 = .ok (.ireturn, 1) := by decide +kernel
theorem dL_law_226 : decode cL_law 226 = .ok (.aload_n 1, 1) := by decide +kernel
theorem dL_law_227 : decode cL_law 227 = .ok (.aload_n 0, 1) := by decide +kernel
theorem dL_law_228 : decode cL_law 228 = .ok (.iload_n 3, 1) := by decide +kernel
theorem dL_law_229 : decode cL_law 229 = .ok (.iconst 1, 1) := by decide +kernel
theorem dL_law_230 : decode cL_law 230 = .ok (.iadd, 1) := by decide +kernel
theorem dL_law_231 : decode cL_law 231 = .ok (.iaload, 1) := by decide +kernel
theorem dL_law_232 : decode cL_law 232 = .ok (.aload_n 0, 1) := by decide +kernel
theorem dL_law_233 : decode cL_law 233 = .ok (.iload_n 3, 1) := by decide +kernel
theorem dL_law_234 : decode cL_law 234 = .ok (.iconst 2, 1) := by decide +kernel
theorem dL_law_235 : decode cL_law 235 = .ok (.iadd, 1) := by decide +kernel
theorem dL_law_236 : decode cL_law 236 = .ok (.iaload, 1) := by decide +kernel
theorem dL_law_237 : decode cL_law 237 = .ok (.aload_n 0, 1) := by decide +kernel
theorem dL_law_238 : decode cL_law 238 = .ok (.iload_n 3, 1) := by decide +kernel
theorem dL_law_239 : decode cL_law 239 = .ok (.iconst 3, 1) := by decide +kernel
theorem dL_law_240 : decode cL_law 240 = .ok (.iadd, 1) := by decide +kernel
theorem dL_law_241 : decode cL_law 241 = .ok (.iaload, 1) := by decide +kernel
theorem dL_law_242 : decode cL_law 242 = .ok (.invokevirtual 32, 3) := by decide +kernel
theorem dL_law_245 : decode cL_law 245 = .ok (.aload_n 2, 1) := by decide +kernel
theorem dL_law_246 : decode cL_law 246 = .ok (.aload_n 0, 1) := by decide +kernel
theorem dL_law_247 : decode cL_law 247 = .ok (.iload_n 3, 1) := by decide +kernel
theorem dL_law_248 : decode cL_law 248 = .ok (.iconst 1, 1) := by decide +kernel
theorem dL_law_249 : decode cL_law 249 = .ok (.iadd, 1) := by decide +kernel
theorem dL_law_250 : decode cL_law 250 = .ok (.iaload, 1) := by decide +kernel
theorem dL_law_251 : decode cL_law 251 = .ok (.aload_n 0, 1) := by decide +kernel
theorem dL_law_252 : decode cL_law 252 = .ok (.iload_n 3, 1) := by decide +kernel
theorem dL_law_253 : decode cL_law 253 = .ok (.iconst 2, 1) := by decide +kernel
theorem dL_law_254 : decode cL_law 254 = .ok (.iadd, 1) := by decide +kernel
theorem dL_law_255 : decode cL_law 255 = .ok (.iaload, 1) := by decide +kernel
theorem dL_law_256 : decode cL_law 256 = .ok (.aload_n 0, 1) := by decide +kernel
theorem dL_law_257 : decode cL_law 257 = .ok (.iload_n 3, 1) := by decide +kernel
theorem dL_law_258 : decode cL_law 258 = .ok (.iconst 3, 1) := by decide +kernel
theorem dL_law_259 : decode cL_law 259 = .ok (.iadd, 1) := by decide +kernel
theorem dL_law_260 : decode cL_law 260 = .ok (.iaload, 1) := by decide +kernel
theorem dL_law_261 : decode cL_law 261 = .ok (.invokevirtual 36, 3) := by decide +kernel
theorem dL_law_264 : decode cL_law 264 = .ok (.if_icmp .eq 408, 3) := by decide +kernel
theorem dL_law_267 : decode cL_law 267 = .ok (.iconst 0, 1) := by decide +kernel
theorem dL_law_268 : decode cL_law 268 = .ok (.ireturn, 1) := by decide +kernel
theorem dL_law_269 : decode cL_law 269 = .ok (.aload_n 1, 1) := by decide +kernel
theorem dL_law_270 : decode cL_law 270 = .ok (.invokevirtual 37, 3) := by decide +kernel
theorem dL_law_273 : decode cL_law 273 = .ok (.aload_n 2, 1) := by decide +kernel
theorem dL_law_274 : decode cL_law 274 = .ok (.invokevirtual 41, 3) := by decide +kernel
theorem dL_law_277 : decode cL_law 277 = .ok (.if_icmp .eq 395, 3) := by decide +kernel
theorem dL_law_280 : decode cL_law 280 = .ok (.iconst 0, 1) := by decide +kernel
theorem dL_law_281 : decode cL_law 281 = .ok (.ireturn, 1) := by decide +kernel
theorem dL_law_282 : decode cL_law 282 = .ok (.aload_n 1, 1) := by decide +kernel
theorem dL_law_283 : decode cL_law 283 = .ok (.aload_n 0, 1) := by decide +kernel
theorem dL_law_284 : decode cL_law 284 = .ok (.iload_n 3, 1) := by decide +kernel
theorem dL_law_285 : decode cL_law 285 = .ok (.iconst 1, 1) := by decide +kernel
theorem dL_law_286 : decode cL_law 286 = .ok (.iadd, 1) := by decide +kernel
theorem dL_law_287 : decode cL_law 287 = .ok (.iaload, 1) := by decide +kernel
theorem dL_law_288 : decode cL_law 288 = .ok (.aload_n 0, 1) := by decide +kernel
theorem dL_law_289 : decode cL_law 289 = .ok (.iload_n 3, 1) := by decide +kernel
theorem dL_law_290 : decode cL_law 290 = .ok (.iconst 2, 1) := by decide +kernel
theorem dL_law_291 : decode cL_law 291 = .ok (.iadd, 1) := by decide +kernel
theorem dL_law_292 : decode cL_law 292 = .ok (.iaload, 1) := by decide +kernel
theorem dL_law_293 : decode cL_law 293 = .ok (.aload_n 0, 1) := by decide +kernel
theorem dL_law_294 : decode cL_law 294 = .ok (.iload_n 3, 1) := by decide +kernel
theorem dL_law_295 : decode cL_law 295 = .ok (.iconst 3, 1) := by decide +kernel
theorem dL_law_296 : decode cL_law 296 = .ok (.iadd, 1) := by decide +kernel
theorem dL_law_297 : decode cL_law 297 = .ok (.iaload, 1) := by decide +kernel
theorem dL_law_298 : decode cL_law 298 = .ok (.aload_n 0, 1) := by decide +kernel
theorem dL_law_299 : decode cL_law 299 = .ok (.iload_n 3, 1) := by decide +kernel
theorem dL_law_300 : decode cL_law 300 = .ok (.iconst 4, 1) := by decide +kernel
theorem dL_law_301 : decode cL_law 301 = .ok (.iadd, 1) := by decide +kernel
theorem dL_law_302 : decode cL_law 302 = .ok (.iaload, 1) := by decide +kernel
theorem dL_law_303 : decode cL_law 303 = .ok (.ifCond .eq 7, 3) := by decide +kernel
theorem dL_law_306 : decode cL_law 306 = .ok (.iconst 1, 1) := by decide +kernel
theorem dL_law_307 : decode cL_law 307 = .ok (.goto 4, 3) := by decide +kernel
theorem dL_law_310 : decode cL_law 310 = .ok (.iconst 0, 1) := by decide +kernel
theorem dL_law_311 : decode cL_law 311 = .ok (.invokevirtual 42, 3) := by decide +kernel
theorem dL_law_314 : decode cL_law 314 = .ok (.aload_n 2, 1) := by decide +kernel
theorem dL_law_315 : decode cL_law 315 = .ok (.aload_n 0, 1) := by decide +kernel
theorem dL_law_316 : decode cL_law 316 = .ok (.iload_n 3, 1) := by decide +kernel
theorem dL_law_317 : decode cL_law 317 = .ok (.iconst 1, 1) := by decide +kernel
theorem dL_law_318 : decode cL_law 318 = .ok (.iadd, 1) := by decide +kernel
theorem dL_law_319 : decode cL_law 319 = .ok (.iaload, 1) := by decide +kernel
theorem dL_law_320 : decode cL_law 320 = .ok (.aload_n 0, 1) := by decide +kernel
theorem dL_law_321 : decode cL_law 321 = .ok (.iload_n 3, 1) := by decide +kernel
theorem dL_law_322 : decode cL_law 322 = .ok (.iconst 2, 1) := by decide +kernel
theorem dL_law_323 : decode cL_law 323 = .ok (.iadd, 1) := by decide +kernel
theorem dL_law_324 : decode cL_law 324 = .ok (.iaload, 1) := by decide +kernel
theorem dL_law_325 : decode cL_law 325 = .ok (.aload_n 0, 1) := by decide +kernel
theorem dL_law_326 : decode cL_law 326 = .ok (.iload_n 3, 1) := by decide +kernel
theorem dL_law_327 : decode cL_law 327 = .ok (.iconst 3, 1) := by decide +kernel
theorem dL_law_328 : decode cL_law 328 = .ok (.iadd, 1) := by decide +kernel
theorem dL_law_329 : decode cL_law 329 = .ok (.iaload, 1) := by decide +kernel
theorem dL_law_330 : decode cL_law 330 = .ok (.aload_n 0, 1) := by decide +kernel
theorem dL_law_331 : decode cL_law 331 = .ok (.iload_n 3, 1) := by decide +kernel
theorem dL_law_332 : decode cL_law 332 = .ok (.iconst 4, 1) := by decide +kernel
theorem dL_law_333 : decode cL_law 333 = .ok (.iadd, 1) := by decide +kernel
theorem dL_law_334 : decode cL_law 334 = .ok (.iaload, 1) := by decide +kernel
theorem dL_law_335 : decode cL_law 335 = .ok (.ifCond .eq 7, 3) := by decide +kernel
theorem dL_law_338 : decode cL_law 338 = .ok (.iconst 1, 1) := by decide +kernel
theorem dL_law_339 : decode cL_law 339 = .ok (.goto 4, 3) := by decide +kernel
theorem dL_law_342 : decode cL_law 342 = .ok (.iconst 0, 1) := by decide +kernel
theorem dL_law_343 : decode cL_law 343 = .ok (.invokevirtual 46, 3) := by decide +kernel
theorem dL_law_346 : decode cL_law 346 = .ok (.if_icmp .eq 326, 3) := by decide +kernel
theorem dL_law_349 : decode cL_law 349 = .ok (.iconst 0, 1) := by decide +kernel
theorem dL_law_350 : decode cL_law 350 = .ok (.ireturn, 1) := by decide +kernel
theorem dL_law_351 : decode cL_law 351 = .ok (.aload_n 1, 1) := by decide +kernel
theorem dL_law_352 : decode cL_law 352 = .ok (.aload_n 0, 1) := by decide +kernel
theorem dL_law_353 : decode cL_law 353 = .ok (.iload_n 3, 1) := by decide +kernel
end
section
theorem dL_law_354 : decode cL_law 354 = .ok (.iconst 1, 1) := by decide +kernel
theorem dL_law_355 : decode cL_law 355 = .ok (.iadd, 1) := by decide +kernel
theorem dL_law_356 : decode cL_law 356 = .ok (.iaload, 1) := by decide +kernel
theorem dL_law_357 : decode cL_law 357 = .ok (.aload_n 0, 1) := by decide +kernel
theorem dL_law_358 : decode cL_law 358 = .ok (.iload_n 3, 1) := by decide +kernel
theorem dL_law_359 : decode cL_law 359 = .ok (.iconst 2, 1) := by decide +kernel
theorem dL_law_360 : decode cL_law 360 = .ok (.iadd, 1) := by decide +kernel
theorem dL_law_361 : decode cL_law 361 = .ok (.iaload, 1) := by decide +kernel
theorem dL_law_362 : decode cL_law 362 = .ok (.invokevirtual 47, 3) := by decide +kernel
theorem dL_law_365 : decode cL_law 365 = .ok (.aload_n 2, 1) := by decide +kernel
theorem dL_law_366 : decode cL_law 366 = .ok (.aload_n 0, 1) := by decide +kernel
theorem dL_law_367 : decode cL_law 367 = .ok (.iload_n 3, 1) := by decide +kernel
theorem dL_law_368 : decode cL_law 368 = .ok (.iconst 1, 1) := by decide +kernel
theorem dL_law_369 : decode cL_law 369 = .ok (.iadd, 1) := by decide +kernel
theorem dL_law_370 : decode cL_law 370 = .ok (.iaload, 1) := by decide +kernel
theorem dL_law_371 : decode cL_law 371 = .ok (.aload_n 0, 1) := by decide +kernel
theorem dL_law_372 : decode cL_law 372 = .ok (.iload_n 3, 1) := by decide +kernel
theorem dL_law_373 : decode cL_law 373 = .ok (.iconst 2, 1) := by decide +kernel
theorem dL_law_374 : decode cL_law 374 = .ok (.iadd, 1) := by decide +kernel
theorem dL_law_375 : decode cL_law 375 = .ok (.iaload, 1) := by decide +kernel
theorem dL_law_376 : decode cL_law 376 = .ok (.invokevirtual 51, 3) := by decide +kernel
theorem dL_law_379 : decode cL_law 379 = .ok (.if_icmp .eq 293, 3) := by decide +kernel
theorem dL_law_382 : decode cL_law 382 = .ok (.iconst 0, 1) := by decide +kernel
theorem dL_law_383 : decode cL_law 383 = .ok (.ireturn, 1) := by decide +kernel
theorem dL_law_384 : decode cL_law 384 = .ok (.aload_n 1, 1) := by decide +kernel
theorem dL_law_385 : decode cL_law 385 = .ok (.aload_n 0, 1) := by decide +kernel
theorem dL_law_386 : decode cL_law 386 = .ok (.iload_n 3, 1) := by decide +kernel
theorem dL_law_387 : decode cL_law 387 = .ok (.iconst 1, 1) := by decide +kernel
theorem dL_law_388 : decode cL_law 388 = .ok (.iadd, 1) := by decide +kernel
theorem dL_law_389 : decode cL_law 389 = .ok (.iaload, 1) := by decide +kernel
theorem dL_law_390 : decode cL_law 390 = .ok (.aload_n 0, 1) := by decide +kernel
theorem dL_law_391 : decode cL_law 391 = .ok (.iload_n 3, 1) := by decide +kernel
theorem dL_law_392 : decode cL_law 392 = .ok (.iconst 2, 1) := by decide +kernel
theorem dL_law_393 : decode cL_law 393 = .ok (.iadd, 1) := by decide +kernel
theorem dL_law_394 : decode cL_law 394 = .ok (.iaload, 1) := by decide +kernel
theorem dL_law_395 : decode cL_law 395 = .ok (.aload_n 0, 1) := by decide +kernel
theorem dL_law_396 : decode cL_law 396 = .ok (.iload_n 3, 1) := by decide +kernel
theorem dL_law_397 : decode cL_law 397 = .ok (.iconst 3, 1) := by decide +kernel
theorem dL_law_398 : decode cL_law 398 = .ok (.iadd, 1) := by decide +kernel
theorem dL_law_399 : decode cL_law 399 = .ok (.iaload, 1) := by decide +kernel
theorem dL_law_400 : decode cL_law 400 = .ok (.invokevirtual 52, 3) := by decide +kernel
theorem dL_law_403 : decode cL_law 403 = .ok (.aload_n 2, 1) := by decide +kernel
theorem dL_law_404 : decode cL_law 404 = .ok (.aload_n 0, 1) := by decide +kernel
theorem dL_law_405 : decode cL_law 405 = .ok (.iload_n 3, 1) := by decide +kernel
theorem dL_law_406 : decode cL_law 406 = .ok (.iconst 1, 1) := by decide +kernel
theorem dL_law_407 : decode cL_law 407 = .ok (.iadd, 1) := by decide +kernel
theorem dL_law_408 : decode cL_law 408 = .ok (.iaload, 1) := by decide +kernel
theorem dL_law_409 : decode cL_law 409 = .ok (.aload_n 0, 1) := by decide +kernel
theorem dL_law_410 : decode cL_law 410 = .ok (.iload_n 3, 1) := by decide +kernel
theorem dL_law_411 : decode cL_law 411 = .ok (.iconst 2, 1) := by decide +kernel
theorem dL_law_412 : decode cL_law 412 = .ok (.iadd, 1) := by decide +kernel
theorem dL_law_413 : decode cL_law 413 = .ok (.iaload, 1) := by decide +kernel
theorem dL_law_414 : decode cL_law 414 = .ok (.aload_n 0, 1) := by decide +kernel
theorem dL_law_415 : decode cL_law 415 = .ok (.iload_n 3, 1) := by decide +kernel
theorem dL_law_416 : decode cL_law 416 = .ok (.iconst 3, 1) := by decide +kernel
theorem dL_law_417 : decode cL_law 417 = .ok (.iadd, 1) := by decide +kernel
theorem dL_law_418 : decode cL_law 418 = .ok (.iaload, 1) := by decide +kernel
theorem dL_law_419 : decode cL_law 419 = .ok (.invokevirtual 55, 3) := by decide +kernel
theorem dL_law_422 : decode cL_law 422 = .ok (.if_icmp .eq 250, 3) := by decide +kernel
theorem dL_law_425 : decode cL_law 425 = .ok (.iconst 0, 1) := by decide +kernel
theorem dL_law_426 : decode cL_law 426 = .ok (.ireturn, 1) := by decide +kernel
theorem dL_law_427 : decode cL_law 427 = .ok (.aload_n 1, 1) := by decide +kernel
theorem dL_law_428 : decode cL_law 428 = .ok (.aload_n 0, 1) := by decide +kernel
theorem dL_law_429 : decode cL_law 429 = .ok (.iload_n 3, 1) := by decide +kernel
theorem dL_law_430 : decode cL_law 430 = .ok (.iconst 1, 1) := by decide +kernel
theorem dL_law_431 : decode cL_law 431 = .ok (.iadd, 1) := by decide +kernel
theorem dL_law_432 : decode cL_law 432 = .ok (.iaload, 1) := by decide +kernel
theorem dL_law_433 : decode cL_law 433 = .ok (.aload_n 0, 1) := by decide +kernel
theorem dL_law_434 : decode cL_law 434 = .ok (.iload_n 3, 1) := by decide +kernel
theorem dL_law_435 : decode cL_law 435 = .ok (.iconst 2, 1) := by decide +kernel
theorem dL_law_436 : decode cL_law 436 = .ok (.iadd, 1) := by decide +kernel
theorem dL_law_437 : decode cL_law 437 = .ok (.iaload, 1) := by decide +kernel
theorem dL_law_438 : decode cL_law 438 = .ok (.aload_n 0, 1) := by decide +kernel
theorem dL_law_439 : decode cL_law 439 = .ok (.iload_n 3, 1) := by decide +kernel
theorem dL_law_440 : decode cL_law 440 = .ok (.iconst 3, 1) := by decide +kernel
theorem dL_law_441 : decode cL_law 441 = .ok (.iadd, 1) := by decide +kernel
theorem dL_law_442 : decode cL_law 442 = .ok (.iaload, 1) := by decide +kernel
theorem dL_law_443 : decode cL_law 443 = .ok (.aload_n 0, 1) := by decide +kernel
theorem dL_law_444 : decode cL_law 444 = .ok (.iload_n 3, 1) := by decide +kernel
theorem dL_law_445 : decode cL_law 445 = .ok (.iconst 4, 1) := by decide +kernel
theorem dL_law_446 : decode cL_law 446 = .ok (.iadd, 1) := by decide +kernel
theorem dL_law_447 : decode cL_law 447 = .ok (.iaload, 1) := by decide +kernel
theorem dL_law_448 : decode cL_law 448 = .ok (.invokevirtual 56, 3) := by decide +kernel
theorem dL_law_451 : decode cL_law 451 = .ok (.aload_n 2, 1) := by decide +kernel
theorem dL_law_452 : decode cL_law 452 = .ok (.aload_n 0, 1) := by decide +kernel
theorem dL_law_453 : decode cL_law 453 = .ok (.iload_n 3, 1) := by decide +kernel
theorem dL_law_454 : decode cL_law 454 = .ok (.iconst 1, 1) := by decide +kernel
theorem dL_law_455 : decode cL_law 455 = .ok (.iadd, 1) := by decide +kernel
theorem dL_law_456 : decode cL_law 456 = .ok (.iaload, 1) := by decide +kernel
theorem dL_law_457 : decode cL_law 457 = .ok (.aload_n 0, 1) := by decide +kernel
theorem dL_law_458 : decode cL_law 458 = .ok (.iload_n 3, 1) := by decide +kernel
theorem dL_law_459 : decode cL_law 459 = .ok (.iconst 2, 1) := by decide +kernel
theorem dL_law_460 : decode cL_law 460 = .ok (.iadd, 1) := by decide +kernel
theorem dL_law_461 : decode cL_law 461 = .ok (.iaload, 1) := by decide +kernel
theorem dL_law_462 : decode cL_law 462 = .ok (.aload_n 0, 1) := by decide +kernel
theorem dL_law_463 : decode cL_law 463 = .ok (.iload_n 3, 1) := by decide +kernel
theorem dL_law_464 : decode cL_law 464 = .ok (.iconst 3, 1) := by decide +kernel
theorem dL_law_465 : decode cL_law 465 = .ok (.iadd, 1) := by decide +kernel
theorem dL_law_466 : decode cL_law 466 = .ok (.iaload, 1) := by decide +kernel
theorem dL_law_467 : decode cL_law 467 = .ok (.aload_n 0, 1) := by decide +kernel
theorem dL_law_468 : decode cL_law 468 = .ok (.iload_n 3, 1) := by decide +kernel
theorem dL_law_469 : decode cL_law 469 = .ok (.iconst 4, 1) := by decide +kernel
theorem dL_law_470 : decode cL_law 470 = .ok (.iadd, 1) := by decide +kernel
theorem dL_law_471 : decode cL_law 471 = .ok (.iaload, 1) := by decide +kernel
theorem dL_law_472 : decode cL_law 472 = .ok (.invokevirtual 59, 3) := by decide +kernel
theorem dL_law_475 : decode cL_law 475 = .ok (.if_icmp .eq 197, 3) := by decide +kernel
theorem dL_law_478 : decode cL_law 478 = .ok (.iconst 0, 1) := by decide +kernel
theorem dL_law_479 : decode cL_law 479 = .ok (.ireturn, 1) := by decide +kernel
theorem dL_law_480 : decode cL_law 480 = .ok (.aload_n 1, 1) := by decide +kernel
theorem dL_law_481 : decode cL_law 481 = .ok (.aload_n 0, 1) := by decide +kernel
theorem dL_law_482 : decode cL_law 482 = .ok (.iload_n 3, 1) := by decide +kernel
theorem dL_law_483 : decode cL_law 483 = .ok (.iconst 1, 1) := by decide +kernel
theorem dL_law_484 : decode cL_law 484 = .ok (.iadd, 1) := by decide +kernel
theorem dL_law_485 : decode cL_law 485 = .ok (.iaload, 1) := by decide +kernel
theorem dL_law_486 : decode cL_law 486 = .ok (.aload_n 0, 1) := by decide +kernel
theorem dL_law_487 : decode cL_law 487 = .ok (.iload_n 3, 1) := by decide +kernel
theorem dL_law_488 : decode cL_law 488 = .ok (.iconst 2, 1) := by decide +kernel
theorem dL_law_489 : decode cL_law 489 = .ok (.iadd, 1) := by decide +kernel
theorem dL_law_490 : decode cL_law 490 = .ok (.iaload, 1) := by decide +kernel
theorem dL_law_491 : decode cL_law 491 = .ok (.aload_n 0, 1) := by decide +kernel
theorem dL_law_492 : decode cL_law 492 = .ok (.iload_n 3, 1) := by decide +kernel
theorem dL_law_493 : decode cL_law 493 = .ok (.iconst 3, 1) := by decide +kernel
theorem dL_law_494 : decode cL_law 494 = .ok (.iadd, 1) := by decide +kernel
theorem dL_law_495 : decode cL_law 495 = .ok (.iaload, 1) := by decide +kernel
theorem dL_law_496 : decode cL_law 496 = .ok (.aload_n 0, 1) := by decide +kernel
theorem dL_law_497 : decode cL_law 497 = .ok (.iload_n 3, 1) := by decide +kernel
theorem dL_law_498 : decode cL_law 498 = .ok (.iconst 4, 1) := by decide +kernel
theorem dL_law_499 : decode cL_law 499 = .ok (.iadd, 1) := by decide +kernel
theorem dL_law_500 : decode cL_law 500 = .ok (.iaload, 1) := by decide +kernel
theorem dL_law_501 : decode cL_law 501 = .ok (.aload_n 0, 1) := by decide +kernel
theorem dL_law_502 : decode cL_law 502 = .ok (.iload_n 3, 1) := by decide +kernel
theorem dL_law_503 : decode cL_law 503 = .ok (.iconst 5, 1) := by decide +kernel
theorem dL_law_504 : decode cL_law 504 = .ok (.iadd, 1) := by decide +kernel
theorem dL_law_505 : decode cL_law 505 = .ok (.iaload, 1) := by decide +kernel
theorem dL_law_506 : decode cL_law 506 = .ok (.invokevirtual 60, 3) := by decide +kernel
theorem dL_law_509 : decode cL_law 509 = .ok (.aload_n 2, 1) := by decide +kernel
theorem dL_law_510 : decode cL_law 510 = .ok (.aload_n 0, 1) := by decide +kernel
theorem dL_law_511 : decode cL_law 511 = .ok (.iload_n 3, 1) := by decide +kernel
theorem dL_law_512 : decode cL_law 512 = .ok (.iconst 1, 1) := by decide +kernel
theorem dL_law_513 : decode cL_law 513 = .ok (.iadd, 1) := by decide +kernel
theorem dL_law_514 : decode cL_law 514 = .ok (.iaload, 1) := by decide +kernel
theorem dL_law_515 : decode cL_law 515 = .ok (.aload_n 0, 1) := by decide +kernel
theorem dL_law_516 : decode cL_law 516 = .ok (.iload_n 3, 1) := by decide +kernel
theorem dL_law_517 : decode cL_law 517 = .ok (.iconst 2, 1) := by decide +kernel
theorem dL_law_518 : decode cL_law 518 = .ok (.iadd, 1) := by decide +kernel
theorem dL_law_519 : decode cL_law 519 = .ok (.iaload, 1) := by decide +kernel
theorem dL_law_520 : decode cL_law 520 = .ok (.aload_n 0, 1) := by decide +kernel
theorem dL_law_521 : decode cL_law 521 = .ok (.iload_n 3, 1) := by decide +kernel
theorem dL_law_522 : decode cL_law 522 = .ok (.iconst 3, 1) := by decide +kernel
theorem dL_law_523 : decode cL_law 523 = .ok (.iadd, 1) := by decide +kernel
theorem dL_law_524 : decode cL_law 524 = .ok (.iaload, 1) := by decide +kernel
theorem dL_law_525 : decode cL_law 525 = .ok (.aload_n 0, 1) := by decide +kernel
theorem dL_law_526 : decode cL_law 526 = .ok (.iload_n 3, 1) := by decide +kernel
theorem dL_law_527 : decode cL_law 527 = .ok (.iconst 4, 1) := by decide +kernel
theorem dL_law_528 : decode cL_law 528 = .ok (.iadd, 1) := by decide +kernel
theorem dL_law_529 : decode cL_law 529 = .ok (.iaload, 1) := by decide +kernel
theorem dL_law_530 : decode cL_law 530 = .ok (.aload_n 0, 1) := by decide +kernel
theorem dL_law_531 : decode cL_law 531 = .ok (.iload_n 3, 1) := by decide +kernel
theorem dL_law_532 : decode cL_law 532 = .ok (.iconst 5, 1) := by decide +kernel
theorem dL_law_533 : decode cL_law 533 = .ok (.iadd, 1) := by decide +kernel
theorem dL_law_534 : decode cL_law 534 = .ok (.iaload, 1) := by decide +kernel
theorem dL_law_535 : decode cL_law 535 = .ok (.invokevirtual 64, 3) := by decide +kernel
theorem dL_law_538 : decode cL_law 538 = .ok (.if_icmp .eq 134, 3) := by decide +kernel
theorem dL_law_541 : decode cL_law 541 = .ok (.iconst 0, 1) := by decide +kernel
theorem dL_law_542 : decode cL_law 542 = .ok (.ireturn, 1) := by decide +kernel
theorem dL_law_543 : decode cL_law 543 = .ok (.aload_n 1, 1) := by decide +kernel
theorem dL_law_544 : decode cL_law 544 = .ok (.aload_n 0, 1) := by decide +kernel
theorem dL_law_545 : decode cL_law 545 = .ok (.iload_n 3, 1) := by decide +kernel
theorem dL_law_546 : decode cL_law 546 = .ok (.iconst 1, 1) := by decide +kernel
theorem dL_law_547 : decode cL_law 547 = .ok (.iadd, 1) := by decide +kernel
theorem dL_law_548 : decode cL_law 548 = .ok (.iaload, 1) := by decide +kernel
theorem dL_law_549 : decode cL_law 549 = .ok (.aload_n 0, 1) := by decide +kernel
theorem dL_law_550 : decode cL_law 550 = .ok (.iload_n 3, 1) := by decide +kernel
theorem dL_law_551 : decode cL_law 551 = .ok (.iconst 2, 1) := by decide +kernel
theorem dL_law_552 : decode cL_law 552 = .ok (.iadd, 1) := by decide +kernel
theorem dL_law_553 : decode cL_law 553 = .ok (.iaload, 1) := by decide +kernel
theorem dL_law_554 : decode cL_law 554 = .ok (.aload_n 0, 1) := by decide +kernel
theorem dL_law_555 : decode cL_law 555 = .ok (.iload_n 3, 1) := by decide +kernel
theorem dL_law_556 : decode cL_law 556 = .ok (.iconst 3, 1) := by decide +kernel
theorem dL_law_557 : decode cL_law 557 = .ok (.iadd, 1) := by decide +kernel
theorem dL_law_558 : decode cL_law 558 = .ok (.iaload, 1) := by decide +kernel
theorem dL_law_559 : decode cL_law 559 = .ok (.aload_n 0, 1) := by decide +kernel
theorem dL_law_560 : decode cL_law 560 = .ok (.iload_n 3, 1) := by decide +kernel
theorem dL_law_561 : decode cL_law 561 = .ok (.iconst 4, 1) := by decide +kernel
theorem dL_law_562 : decode cL_law 562 = .ok (.iadd, 1) := by decide +kernel
theorem dL_law_563 : decode cL_law 563 = .ok (.iaload, 1) := by decide +kernel
theorem dL_law_564 : decode cL_law 564 = .ok (.invokevirtual 65, 3) := by decide +kernel
theorem dL_law_567 : decode cL_law 567 = .ok (.aload_n 2, 1) := by decide +kernel
theorem dL_law_568 : decode cL_law 568 = .ok (.aload_n 0, 1) := by decide +kernel
theorem dL_law_569 : decode cL_law 569 = .ok (.iload_n 3, 1) := by decide +kernel
theorem dL_law_570 : decode cL_law 570 = .ok (.iconst 1, 1) := by decide +kernel
theorem dL_law_571 : decode cL_law 571 = .ok (.iadd, 1) := by decide +kernel
theorem dL_law_572 : decode cL_law 572 = .ok (.iaload, 1) := by decide +kernel
theorem dL_law_573 : decode cL_law 573 = .ok (.aload_n 0, 1) := by decide +kernel
theorem dL_law_574 : decode cL_law 574 = .ok (.iload_n 3, 1) := by decide +kernel
theorem dL_law_575 : decode cL_law 575 = .ok (.iconst 2, 1) := by decide +kernel
theorem dL_law_576 : decode cL_law 576 = .ok (.iadd, 1) := by decide +kernel
theorem dL_law_577 : decode cL_law 577 = .ok (.iaload, 1) := by decide +kernel
theorem dL_law_578 : decode cL_law 578 = .ok (.aload_n 0, 1) := by decide +kernel
theorem dL_law_579 : decode cL_law 579 = .ok (.iload_n 3, 1) := by decide +kernel
theorem dL_law_580 : decode cL_law 580 = .ok (.iconst 3, 1) := by decide +kernel
theorem dL_law_581 : decode cL_law 581 = .ok (.iadd, 1) := by decide +kernel
theorem dL_law_582 : decode cL_law 582 = .ok (.iaload, 1) := by decide +kernel
theorem dL_law_583 : decode cL_law 583 = .ok (.aload_n 0, 1) := by decide +kernel
theorem dL_law_584 : decode cL_law 584 = .ok (.iload_n 3, 1) := by decide +kernel
theorem dL_law_585 : decode cL_law 585 = .ok (.iconst 4, 1) := by decide +kernel
theorem dL_law_586 : decode cL_law 586 = .ok (.iadd, 1) := by decide +kernel
theorem dL_law_587 : decode cL_law 587 = .ok (.iaload, 1) := by decide +kernel
theorem dL_law_588 : decode cL_law 588 = .ok (.invokevirtual 68, 3) := by decide +kernel
theorem dL_law_591 : decode cL_law 591 = .ok (.if_icmp .eq 81, 3) := by decide +kernel
theorem dL_law_594 : decode cL_law 594 = .ok (.iconst 0, 1) := by decide +kernel
theorem dL_law_595 : decode cL_law 595 = .ok (.ireturn, 1) := by decide +kernel
theorem dL_law_596 : decode cL_law 596 = .ok (.aload_n 1, 1) := by decide +kernel
theorem dL_law_597 : decode cL_law 597 = .ok (.aload_n 0, 1) := by decide +kernel
theorem dL_law_598 : decode cL_law 598 = .ok (.iload_n 3, 1) := by decide +kernel
theorem dL_law_599 : decode cL_law 599 = .ok (.iconst 1, 1) := by decide +kernel
theorem dL_law_600 : decode cL_law 600 = .ok (.iadd, 1) := by decide +kernel
theorem dL_law_601 : decode cL_law 601 = .ok (.iaload, 1) := by decide +kernel
theorem dL_law_602 : decode cL_law 602 = .ok (.aload_n 0, 1) := by decide +kernel
theorem dL_law_603 : decode cL_law 603 = .ok (.iload_n 3, 1) := by decide +kernel
theorem dL_law_604 : decode cL_law 604 = .ok (.iconst 2, 1) := by decide +kernel
theorem dL_law_605 : decode cL_law 605 = .ok (.iadd, 1) := by decide +kernel
theorem dL_law_606 : decode cL_law 606 = .ok (.iaload, 1) := by decide +kernel
theorem dL_law_607 : decode cL_law 607 = .ok (.aload_n 0, 1) := by decide +kernel
theorem dL_law_608 : decode cL_law 608 = .ok (.iload_n 3, 1) := by decide +kernel
theorem dL_law_609 : decode cL_law 609 = .ok (.iconst 3, 1) := by decide +kernel
theorem dL_law_610 : decode cL_law 610 = .ok (.iadd, 1) := by decide +kernel
theorem dL_law_611 : decode cL_law 611 = .ok (.iaload, 1) := by decide +kernel
theorem dL_law_612 : decode cL_law 612 = .ok (.aload_n 0, 1) := by decide +kernel
theorem dL_law_613 : decode cL_law 613 = .ok (.iload_n 3, 1) := by decide +kernel
theorem dL_law_614 : decode cL_law 614 = .ok (.iconst 4, 1) := by decide +kernel
theorem dL_law_615 : decode cL_law 615 = .ok (.iadd, 1) := by decide +kernel
theorem dL_law_616 : decode cL_law 616 = .ok (.iaload, 1) := by decide +kernel
theorem dL_law_617 : decode cL_law 617 = .ok (.invokevirtual 69, 3) := by decide +kernel
theorem dL_law_620 : decode cL_law 620 = .ok (.aload_n 2, 1) := by decide +kernel
theorem dL_law_621 : decode cL_law 621 = .ok (.aload_n 0, 1) := by decide +kernel
theorem dL_law_622 : decode cL_law 622 = .ok (.iload_n 3, 1) := by decide +kernel
theorem dL_law_623 : decode cL_law 623 = .ok (.iconst 1, 1) := by decide +kernel
theorem dL_law_624 : decode cL_law 624 = .ok (.iadd, 1) := by decide +kernel
theorem dL_law_625 : decode cL_law 625 = .ok (.iaload, 1) := by decide +kernel
theorem dL_law_626 : decode cL_law 626 = .ok (.aload_n 0, 1) := by decide +kernel
theorem dL_law_627 : decode cL_law 627 = .ok (.iload_n 3, 1) := by decide +kernel
theorem dL_law_628 : decode cL_law 628 = .ok (.iconst 2, 1) := by decide +kernel
theorem dL_law_629 : decode cL_law 629 = .ok (.iadd, 1) := by decide +kernel
theorem dL_law_630 : decode cL_law 630 = .ok (.iaload, 1) := by decide +kernel
theorem dL_law_631 : decode cL_law 631 = .ok (.aload_n 0, 1) := by decide +kernel
theorem dL_law_632 : decode cL_law 632 = .ok (.iload_n 3, 1) := by decide +kernel
theorem dL_law_633 : decode cL_law 633 = .ok (.iconst 3, 1) := by decide +kernel
theorem dL_law_634 : decode cL_law 634 = .ok (.iadd, 1) := by decide +kernel
theorem dL_law_635 : decode cL_law 635 = .ok (.iaload, 1) := by decide +kernel
theorem dL_law_636 : decode cL_law 636 = .ok (.aload_n 0, 1) := by decide +kernel
theorem dL_law_637 : decode cL_law 637 = .ok (.iload_n 3, 1) := by decide +kernel
theorem dL_law_638 : decode cL_law 638 = .ok (.iconst 4, 1) := by decide +kernel
theorem dL_law_639 : decode cL_law 639 = .ok (.iadd, 1) := by decide +kernel
theorem dL_law_640 : decode cL_law 640 = .ok (.iaload, 1) := by decide +kernel
theorem dL_law_641 : decode cL_law 641 = .ok (.invokevirtual 72, 3) := by decide +kernel
theorem dL_law_644 : decode cL_law 644 = .ok (.if_icmp .eq 28, 3) := by decide +kernel
theorem dL_law_647 : decode cL_law 647 = .ok (.iconst 0, 1) := by decide +kernel
theorem dL_law_648 : decode cL_law 648 = .ok (.ireturn, 1) := by decide +kernel
theorem dL_law_649 : decode cL_law 649 = .ok (.aload_n 1, 1) := by decide +kernel
theorem dL_law_650 : decode cL_law 650 = .ok (.aload_n 0, 1) := by decide +kernel
theorem dL_law_651 : decode cL_law 651 = .ok (.iload_n 3, 1) := by decide +kernel
theorem dL_law_652 : decode cL_law 652 = .ok (.iconst 1, 1) := by decide +kernel
theorem dL_law_653 : decode cL_law 653 = .ok (.iadd, 1) := by decide +kernel
theorem dL_law_654 : decode cL_law 654 = .ok (.iaload, 1) := by decide +kernel
theorem dL_law_655 : decode cL_law 655 = .ok (.invokevirtual 73, 3) := by decide +kernel
theorem dL_law_658 : decode cL_law 658 = .ok (.aload_n 2, 1) := by decide +kernel
theorem dL_law_659 : decode cL_law 659 = .ok (.aload_n 0, 1) := by decide +kernel
theorem dL_law_660 : decode cL_law 660 = .ok (.iload_n 3, 1) := by decide +kernel
theorem dL_law_661 : decode cL_law 661 = .ok (.iconst 1, 1) := by decide +kernel
theorem dL_law_662 : decode cL_law 662 = .ok (.iadd, 1) := by decide +kernel
theorem dL_law_663 : decode cL_law 663 = .ok (.iaload, 1) := by decide +kernel
theorem dL_law_664 : decode cL_law 664 = .ok (.invokevirtual 76, 3) := by decide +kernel
theorem dL_law_667 : decode cL_law 667 = .ok (.if_icmp .eq 5, 3) := by decide +kernel
theorem dL_law_670 : decode cL_law 670 = .ok (.iconst 0, 1) := by decide +kernel
theorem dL_law_671 : decode cL_law 671 = .ok (.ireturn, 1) := by decide +kernel
theorem dL_law_672 : decode cL_law 672 = .ok (.iinc 3 6, 3) := by decide +kernel
theorem dL_law_675 : decode cL_law 675 = .ok (.goto (-657), 3) := by decide +kernel
theorem dL_law_678 : decode cL_law 678 = .ok (.iconst 1, 1) := by decide +kernel
theorem dL_law_679 : decode cL_law 679 = .ok (.ireturn, 1) := by decide +kernel
abbrev vwCl : List vw_C := [(RX0, TX0, 4), (RX1, TX1, 1), (RX2, TX2, 3), (RX3, TX3, 7), (RX4, TX4, 6), (RX5, TX5, 12)]
end
section
/-! MY OWN WORLD: a map from addresses to cells; every contract takes any map that holds, and says which map holds afterwards -/
def iI (z : Int) : Int32 := Int32.ofInt z
abbrev rg (z : Int) : Prop := -2147483648 ≤ z ∧ z < 2147483648
theorem iI_add (a b : Int) : iI (a + b) = iI a + iI b := Int32.ofInt_add a b
theorem iI_mul (a b : Int) : iI (a * b) = iI a * iI b := Int32.ofInt_mul a b
theorem iI_sub (a b : Int) : iI (a - b) = iI a - iI b := Int32.ofInt_sub a b
theorem iI_neg (a : Int) : iI (-a) = -iI a := Int32.ofInt_neg a
theorem iI_bmod {z : Int} (h : rg z) : z.bmod (2 ^ 32) = z := by
  have h1 := h.1
  have h2 := h.2
  rw [Int.bmod_def]
  split <;> omega
theorem iI_int {z : Int} (h : rg z) : (iI z).toInt = z := by
  show (Int32.ofInt z).toInt = z
  rw [Int32.toInt_ofInt]
  exact iI_bmod h
theorem iI_of (x : Int32) : iI x.toInt = x := Int32.ofInt_toInt x
theorem rg_of (x : Int32) : rg x.toInt := ⟨Int32.le_toInt x, Int32.toInt_lt x⟩
theorem iI_ex (x : Int32) : ∃ z : Int, rg z ∧ x = iI z := ⟨x.toInt, rg_of x, (iI_of x).symm⟩
theorem iI_lt {a b : Int} (ha : rg a) (hb : rg b) : iI a < iI b ↔ a < b := by
  rw [Int32.lt_iff_toInt_lt, iI_int ha, iI_int hb]
theorem iI_le {a b : Int} (ha : rg a) (hb : rg b) : iI a ≤ iI b ↔ a ≤ b := by
  rw [Int32.le_iff_toInt_le, iI_int ha, iI_int hb]
theorem iI_eq {a b : Int} (ha : rg a) (hb : rg b) : iI a = iI b ↔ a = b := by
  constructor
  · intro h
    have := congrArg Int32.toInt h
    rwa [iI_int ha, iI_int hb] at this
  · intro h; rw [h]
theorem iI_clamp {z : Int} (h : rg z) : (iI z).toNatClampNeg = z.toNat := by
  show (iI z).toInt.toNat = z.toNat
  rw [iI_int h]
theorem iI_in {z : Int} {j n : Nat} (hz : z = (j : Int)) (hj : j < n) (hn : n < 2147483648) : vp_in (iI z) n := by
  rw [vp_in_iff, iI_int ⟨by omega, by omega⟩]
  omega
theorem iI_cl {z : Int} {j n : Nat} (hz : z = (j : Int)) (hj : j < n) (hn : n < 2147483648) : (iI z).toNatClampNeg = j := by
  rw [iI_clamp ⟨by omega, by omega⟩]
  omega
theorem iI_div {a d : Int} (ha : 0 ≤ a) (ha2 : a < 2147483648) (hd : 0 < d) (hd2 : d < 2147483648) : iI a / iI d = iI (a / d) := by
  obtain ⟨n, rfl⟩ := Int.eq_ofNat_of_zero_le ha
  obtain ⟨k, rfl⟩ := Int.eq_ofNat_of_zero_le (Int.le_of_lt hd)
  exact pk_div (a := n) (d := k) (by omega) (by omega) (by omega)
theorem iI_rem {a d : Int} (ha : 0 ≤ a) (ha2 : a < 2147483648) (hd : 0 < d) (hd2 : d < 2147483648) : iI a - iI a / iI d * iI d = iI (a % d) := by
  obtain ⟨n, rfl⟩ := Int.eq_ofNat_of_zero_le ha
  obtain ⟨k, rfl⟩ := Int.eq_ofNat_of_zero_le (Int.le_of_lt hd)
  exact pk_rem (a := n) (d := k) (by omega) (by omega) (by omega)
/-- a row of bits as a set -/
def bNat (q : Nat → Bool) : Nat → Nat
  | 0 => 0
  | n + 1 => bNat q n ||| (if q n = true then 2 ^ n else 0)
def bO (q : Nat → Bool) : Int64 := Int64.ofNat (bNat q 64)
/-- entries of a map: an array with its component's type, or an object with its class's number -/
abbrev mE : Type := (FieldType × vp_A) ⊕ (Nat × List Value)
abbrev mM : Type := Nat → Option mE
def mset (M : mM) (a : Nat) (v : mE) : mM := fun j => if j = a then some v else M j
theorem mset_self {M : mM} {a : Nat} {v : mE} : mset M a v a = some v := by simp [mset]
theorem mset_ne {M : mM} {a q : Nat} {v : mE} (h : q ≠ a) : mset M a v q = M q := by simp [mset, h]
theorem mset_mset (M : mM) (a : Nat) (v w : mE) : mset (mset M a v) a w = mset M a w := by
  funext j
  by_cases h : j = a <;> simp [mset, h]
theorem mset_id {M : mM} {a : Nat} {v : mE} (h : M a = some v) : mset M a v = M := by
  funext j
  by_cases hj : j = a
  · subst hj; rw [mset_self, h]
  · rw [mset_ne hj]
theorem mset_comm (M : mM) {a q : Nat} (h : a ≠ q) (v w : mE) : mset (mset M a v) q w = mset (mset M q w) a v := by
  funext j
  by_cases h1 : j = a
  · subst h1; simp [mset, h]
  · by_cases h2 : j = q
    · subst h2; simp [mset, h1]
    · simp [mset, h1, h2]
theorem mne {M : mM} {a q : Nat} {v w : mE} (h1 : M a = some v) (h2 : M q = some w) (h : v ≠ w) : a ≠ q := fun z => h (by subst z; exact Option.some.inj (h1.symm.trans h2))
def mAt (D : va_G) (s : State) (H : Heap) (a : Nat) (v : mE) : Prop := match v with
  | .inl x => ∃ cA : ClassId, (ArrOfT s cA x.1 ∧ va_RA s cA x.1) ∧ H[a]? = some (vp_cell cA x.2)
  | .inr o => va_at D vwCl (a, .inr o) H
def mG (D : va_G) (b : Nat) (M : mM) (s : State) (H : Heap) : Prop := b ≤ H.size ∧ ∀ (a : Nat) (v : mE), M a = some v → b ≤ a ∧ mAt D s H a v
abbrev mF (b : Nat) : Nat → Prop := fun q => b ≤ q
def mS (D : va_G) (s : State) : Prop := va_K D vwCl [] s ∧
  (va_Nw (.fieldLinkNest RX1 27 "OverLine$Box" "lowX" "I" "OverLine") s ∧ va_Nw (.fieldLinkNest RX1 31 "OverLine$Box" "highX" "I" "OverLine") s) ∧
  (va_Nw (.fieldLinkNest RX4 73 "OverLine$Box" "lowX" "I" "OverLine") s ∧ va_Nw (.fieldLinkNest RX4 78 "OverLine$Box" "highX" "I" "OverLine") s ∧ va_Nw (.fieldLinkNest RX4 81 "OverLine$Box" "lowY" "I" "OverLine") s ∧ va_Nw (.fieldLinkNest RX4 84 "OverLine$Box" "highY" "I" "OverLine") s) ∧
  (va_Nw (.methodLinkNest RX3 63 yX4_xOf "OverLine") s ∧ va_Nw (.methodLinkNest RX3 67 yX4_yOf "OverLine") s) ∧
  va_AO RX0 s ∧ va_AO RX1 s ∧ va_AO RX3 s
theorem mS.warm {D : va_G} {s U : State} (hW : s.WarmedH U.vm) (h : mS D s) : mS D U := by
  obtain ⟨h0, ⟨h1, h2⟩, ⟨h3, h4, h5, h6⟩, ⟨h7, h8⟩, h9, h10, h11⟩ := h
  exact ⟨va_K.moved hW.alike h0, ⟨h1.warmF hW, h2.warmF hW⟩, ⟨h3.warmF hW, h4.warmF hW, h5.warmF hW, h6.warmF hW⟩, ⟨h7.warmM hW, h8.warmM hW⟩, h9.moved hW.alike, h10.moved hW.alike, h11.moved hW.alike⟩
theorem mS.call {D : va_G} {U : State} {g : JFrame} {mk : MethodId} {a : Array Value} (h : mS D U) : mS D (U.calling g mk a) := by
  obtain ⟨h0, ⟨h1, h2⟩, ⟨h3, h4, h5, h6⟩, ⟨h7, h8⟩, h9, h10, h11⟩ := h
  have hv : U.vm = (U.calling g mk a).vm := rfl
  exact ⟨va_K.moved (Vm.Alike.refl U.vm) h0, ⟨h1.same rfl hv, h2.same rfl hv⟩, ⟨h3.same rfl hv, h4.same rfl hv, h5.same rfl hv, h6.same rfl hv⟩, ⟨h7.same rfl hv, h8.same rfl hv⟩, h9.moved (Vm.Alike.refl U.vm), h10.moved (Vm.Alike.refl U.vm), h11.moved (Vm.Alike.refl U.vm)⟩
theorem mAt.moved {D : va_G} {u U : State} {H : Heap} {a : Nat} {v : mE} (hvm : u.vm.Alike U.vm) (h : mAt D u H a v) : mAt D U H a v := by
  cases v with
  | inl x =>
    obtain ⟨cA, ⟨h1, h2⟩, h3⟩ := h
    exact ⟨cA, ⟨arrOfT_moved hvm h1, h2.moved hvm⟩, h3⟩
  | inr o => exact h
theorem mAt.kept {D : va_G} {s : State} {H H1 : Heap} {a : Nat} {v : mE} (h : mAt D s H a v) (hq : H1[a]? = H[a]?) : mAt D s H1 a v := by
  cases v with
  | inl x =>
    obtain ⟨cA, h1, h3⟩ := h
    exact ⟨cA, h1, hq.trans h3⟩
  | inr o => exact va_at.kept (D := D) (cl := vwCl) (q := (a, .inr o)) h hq
theorem mAt.lt {D : va_G} {s : State} {H : Heap} {a : Nat} {v : mE} (h : mAt D s H a v) : a < H.size := by
  cases v with
  | inl x =>
    obtain ⟨cA, h1, h3⟩ := h
    exact (Array.getElem?_eq_some_iff.mp h3).1
  | inr o => exact va_at.lt (D := D) (cl := vwCl) (q := (a, .inr o)) h
theorem mG.moved {D : va_G} {b : Nat} {M : mM} {u U : State} {H : Heap} (hvm : u.vm.Alike U.vm) (h : mG D b M u H) : mG D b M U H := ⟨h.1, fun a v hv => ⟨(h.2 a v hv).1, (h.2 a v hv).2.moved hvm⟩⟩
theorem mG.set {D : va_G} {b : Nat} {M : mM} {s : State} {H H1 : Heap} {a : Nat} {v : mE} (h : mG D b M s H) (ha : b ≤ a) (hv : mAt D s H1 a v) (z : H1.size = H.size) (oq : ∀ q : Nat, q ≠ a → H1[q]? = H[q]?) : mG D b (mset M a v) s H1 := by
  refine ⟨by rw [z]; exact h.1, fun q w hq => ?_⟩
  by_cases hqa : q = a
  · subst hqa
    rw [mset_self] at hq
    cases hq
    exact ⟨ha, hv⟩
  · rw [mset_ne hqa] at hq
    exact ⟨(h.2 q w hq).1, (h.2 q w hq).2.kept (oq q hqa)⟩
theorem mG.push {D : va_G} {b : Nat} {M : mM} {s : State} {H H1 : Heap} {v : mE} (h : mG D b M s H) (hv : mAt D s H1 H.size v) (z : H1.size = H.size + 1) (oq : ∀ q : Nat, q < H.size → H1[q]? = H[q]?) : mG D b (mset M H.size v) s H1 := by
  refine ⟨by rw [z]; exact Nat.le_succ_of_le h.1, fun q w hq => ?_⟩
  by_cases hqa : q = H.size
  · subst hqa
    rw [mset_self] at hq
    cases hq
    exact ⟨h.1, hv⟩
  · rw [mset_ne hqa] at hq
    exact ⟨(h.2 q w hq).1, (h.2 q w hq).2.kept (oq q (h.2 q w hq).2.lt)⟩
theorem mG.fresh {D : va_G} {b : Nat} {M : mM} {s : State} {H : Heap} (h : mG D b M s H) : M H.size = none := by
  cases hm : M H.size with
  | none => rfl
  | some v => exact absurd (h.2 _ _ hm).2.lt (Nat.lt_irrefl _)
/-- a contract's start and ends -/
def mPc (av : List Value) (D : va_G) (b : Nat) (M : mM) : Array Value → State → Prop := va_Pc av (fun U => mS D U ∧ mG D b M U U.heap)
def mQi (D : va_G) (b : Nat) (post : Int32 → mM → Prop) : Array Value → State → Outcome → State → Prop := va_Qi post (fun M' t => mG D b M' t t.heap) (mF b)
def mQl (D : va_G) (b : Nat) (post : Int64 → mM → Prop) : Array Value → State → Outcome → State → Prop := va_Ql post (fun M' t => mG D b M' t t.heap) (mF b)
def mQv (D : va_G) (b : Nat) (post : mM → Prop) : Array Value → State → Outcome → State → Prop := va_Qv post (fun M' t => mG D b M' t t.heap) (mF b)
def mQq (D : va_G) (b : Nat) (post : Option Nat → mM → Prop) : Array Value → State → Outcome → State → Prop := va_Qq post (fun M' t => mG D b M' t t.heap) (mF b)
theorem mPc.blind {av : List Value} {D : va_G} {b : Nat} {M : mM} : FrameBlind (mPc av D b M) := by
  intro a U g mk q
  obtain ⟨q0, q1, q2⟩ := q
  exact ⟨q0, q1.call, q2.moved (u := U) (U := U.calling g mk a) (Vm.Alike.refl U.vm)⟩
end
section
section MR
variable {p : Program} {l : Launch} {e : Env} {R : Room} {s : State} {m : MethodId} {args : Array Value} {below : List Frame} {meth : Method} {c : Code} {H : Heap} {locs : List Loc} {cells slots : Nat} {Q : State → Prop}
variable {cc : ByteArray} {pc : Nat} {ls : Array Slot} {rest : List Value} {D : va_G} {a b : Nat} {M : mM} {H0 : Heap} {nL : Nat} {Ts : List Cond} {own : String}
theorem m_iadd (hx : p.tables.exec = Jvm.exec) (hb : c.code = cc) {x y : Int} (hdg : decode cc pc = .ok (.iadd, 1)) (k : W p l e R s m args below meth c H locs cells slots Q (F0 m (pc + 1) ls (.int (iI (x + y)) :: rest))) : W p l e R s m args below meth c H locs cells slots Q (F0 m pc ls (.int (iI y) :: .int (iI x) :: rest)) := lv_iadd hx hb hdg (by rw [← iI_add]; exact k)
theorem m_isub (hx : p.tables.exec = Jvm.exec) (hb : c.code = cc) {x y : Int} (hdg : decode cc pc = .ok (.isub, 1)) (k : W p l e R s m args below meth c H locs cells slots Q (F0 m (pc + 1) ls (.int (iI (x - y)) :: rest))) : W p l e R s m args below meth c H locs cells slots Q (F0 m pc ls (.int (iI y) :: .int (iI x) :: rest)) := lv_isub hx hb hdg (by rw [← iI_sub]; exact k)
theorem m_imul (hx : p.tables.exec = Jvm.exec) (hb : c.code = cc) {x y : Int} (hdg : decode cc pc = .ok (.imul, 1)) (k : W p l e R s m args below meth c H locs cells slots Q (F0 m (pc + 1) ls (.int (iI (x * y)) :: rest))) : W p l e R s m args below meth c H locs cells slots Q (F0 m pc ls (.int (iI y) :: .int (iI x) :: rest)) := lv_imul hx hb hdg (by rw [← iI_mul]; exact k)
theorem m_ineg (hx : p.tables.exec = Jvm.exec) (hb : c.code = cc) {x : Int} (hdg : decode cc pc = .ok (.ineg, 1)) (k : W p l e R s m args below meth c H locs cells slots Q (F0 m (pc + 1) ls (.int (iI (-x)) :: rest))) : W p l e R s m args below meth c H locs cells slots Q (F0 m pc ls (.int (iI x) :: rest)) := lv_ineg hx hb hdg (by rw [← iI_neg]; exact k)
theorem m_idiv (hx : p.tables.exec = Jvm.exec) (hb : c.code = cc) {x y : Int} (hdg : decode cc pc = .ok (.idiv, 1)) (h1 : 0 ≤ x ∧ x < 2147483648) (h2 : 0 < y ∧ y < 2147483648) (k : W p l e R s m args below meth c H locs cells slots Q (F0 m (pc + 1) ls (.int (iI (x / y)) :: rest))) : W p l e R s m args below meth c H locs cells slots Q (F0 m pc ls (.int (iI y) :: .int (iI x) :: rest)) := lv_idiv hx hb hdg (fun h => by have := (iI_eq (a := y) (b := 0) ⟨by omega, by omega⟩ ⟨by omega, by omega⟩).mp h; omega) (by rw [iI_div h1.1 h1.2 h2.1 h2.2]; exact k)
theorem m_irem (hx : p.tables.exec = Jvm.exec) (hb : c.code = cc) {x y : Int} (hdg : decode cc pc = .ok (.irem, 1)) (h1 : 0 ≤ x ∧ x < 2147483648) (h2 : 0 < y ∧ y < 2147483648) (k : W p l e R s m args below meth c H locs cells slots Q (F0 m (pc + 1) ls (.int (iI (x % y)) :: rest))) : W p l e R s m args below meth c H locs cells slots Q (F0 m pc ls (.int (iI y) :: .int (iI x) :: rest)) := lv_irem hx hb hdg (fun h => by have := (iI_eq (a := y) (b := 0) ⟨by omega, by omega⟩ ⟨by omega, by omega⟩).mp h; omega) (by rw [iI_rem h1.1 h1.2 h2.1 h2.2]; exact k)
theorem m_iinc (hx : p.tables.exec = Jvm.exec) (hb : c.code = cc) {i k : Nat} {n x : Int} {lv lv' : List (Nat × Value)} (hdg : decode cc pc = .ok (.iinc i n, 3)) (h : lv_has ls nL lv) (hk : lv[k]? = some (i, .int (iI x))) (hn : i < nL) (hl : (i, Value.int (iI (x + n))) :: lv.filter (fun q => !(q.1 == i) && !(q.1 + 1 == i && q.2.category == 2)) = lv')
    (kk : ∀ ls' : Array Slot, lv_has ls' nL lv' → W p l e R s m args below meth c H locs cells slots Q (F0 m (pc + 3) ls' rest)) : W p l e R s m args below meth c H locs cells slots Q (F0 m pc ls rest) := lv_iinc hx hb hdg h hk (iI_add x n).symm hn hl kk
theorem m_icmp_eq (hx : p.tables.exec = Jvm.exec) (hb : c.code = cc) {x y off : Int} {tgt : Nat} (hdg : decode cc pc = .ok (.if_icmp .eq off, 3)) (ht : (pc : Int) + off = (tgt : Int)) (h1 : rg x) (h2 : rg y)
    (kt : x = y → W p l e R s m args below meth c H locs cells slots Q (F0 m tgt ls rest)) (kf : ¬ x = y → W p l e R s m args below meth c H locs cells slots Q (F0 m (pc + 3) ls rest)) : W p l e R s m args below meth c H locs cells slots Q (F0 m pc ls (.int (iI y) :: .int (iI x) :: rest)) := lv_icmp_eq hx hb hdg ht (fun h => kt ((iI_eq h1 h2).mp h)) (fun h => kf (fun z => h ((iI_eq h1 h2).mpr z)))
theorem m_icmp_ne (hx : p.tables.exec = Jvm.exec) (hb : c.code = cc) {x y off : Int} {tgt : Nat} (hdg : decode cc pc = .ok (.if_icmp .ne off, 3)) (ht : (pc : Int) + off = (tgt : Int)) (h1 : rg x) (h2 : rg y)
    (kt : ¬ x = y → W p l e R s m args below meth c H locs cells slots Q (F0 m tgt ls rest)) (kf : x = y → W p l e R s m args below meth c H locs cells slots Q (F0 m (pc + 3) ls rest)) : W p l e R s m args below meth c H locs cells slots Q (F0 m pc ls (.int (iI y) :: .int (iI x) :: rest)) := lv_icmp_ne hx hb hdg ht (fun h => kt (fun z => h ((iI_eq h1 h2).mpr z))) (fun h => kf ((iI_eq h1 h2).mp h))
theorem m_icmp_lt (hx : p.tables.exec = Jvm.exec) (hb : c.code = cc) {x y off : Int} {tgt : Nat} (hdg : decode cc pc = .ok (.if_icmp .lt off, 3)) (ht : (pc : Int) + off = (tgt : Int)) (h1 : rg x) (h2 : rg y)
    (kt : x < y → W p l e R s m args below meth c H locs cells slots Q (F0 m tgt ls rest)) (kf : ¬ x < y → W p l e R s m args below meth c H locs cells slots Q (F0 m (pc + 3) ls rest)) : W p l e R s m args below meth c H locs cells slots Q (F0 m pc ls (.int (iI y) :: .int (iI x) :: rest)) := lv_icmp_lt hx hb hdg ht (fun h => kt ((iI_lt h1 h2).mp h)) (fun h => kf (fun z => h ((iI_lt h1 h2).mpr z)))
theorem m_icmp_le (hx : p.tables.exec = Jvm.exec) (hb : c.code = cc) {x y off : Int} {tgt : Nat} (hdg : decode cc pc = .ok (.if_icmp .le off, 3)) (ht : (pc : Int) + off = (tgt : Int)) (h1 : rg x) (h2 : rg y)
    (kt : x ≤ y → W p l e R s m args below meth c H locs cells slots Q (F0 m tgt ls rest)) (kf : ¬ x ≤ y → W p l e R s m args below meth c H locs cells slots Q (F0 m (pc + 3) ls rest)) : W p l e R s m args below meth c H locs cells slots Q (F0 m pc ls (.int (iI y) :: .int (iI x) :: rest)) := lv_icmp_le hx hb hdg ht (fun h => kt ((iI_le h1 h2).mp h)) (fun h => kf (fun z => h ((iI_le h1 h2).mpr z)))
theorem m_icmp_gt (hx : p.tables.exec = Jvm.exec) (hb : c.code = cc) {x y off : Int} {tgt : Nat} (hdg : decode cc pc = .ok (.if_icmp .gt off, 3)) (ht : (pc : Int) + off = (tgt : Int)) (h1 : rg x) (h2 : rg y)
    (kt : y < x → W p l e R s m args below meth c H locs cells slots Q (F0 m tgt ls rest)) (kf : ¬ y < x → W p l e R s m args below meth c H locs cells slots Q (F0 m (pc + 3) ls rest)) : W p l e R s m args below meth c H locs cells slots Q (F0 m pc ls (.int (iI y) :: .int (iI x) :: rest)) := lv_icmp_gt hx hb hdg ht (fun h => kt ((iI_lt h2 h1).mp h)) (fun h => kf (fun z => h ((iI_lt h2 h1).mpr z)))
theorem m_icmp_ge (hx : p.tables.exec = Jvm.exec) (hb : c.code = cc) {x y off : Int} {tgt : Nat} (hdg : decode cc pc = .ok (.if_icmp .ge off, 3)) (ht : (pc : Int) + off = (tgt : Int)) (h1 : rg x) (h2 : rg y)
    (kt : y ≤ x → W p l e R s m args below meth c H locs cells slots Q (F0 m tgt ls rest)) (kf : ¬ y ≤ x → W p l e R s m args below meth c H locs cells slots Q (F0 m (pc + 3) ls rest)) : W p l e R s m args below meth c H locs cells slots Q (F0 m pc ls (.int (iI y) :: .int (iI x) :: rest)) := lv_icmp_ge hx hb hdg ht (fun h => kt ((iI_le h2 h1).mp h)) (fun h => kf (fun z => h ((iI_le h2 h1).mpr z)))
theorem m_if_eq (hx : p.tables.exec = Jvm.exec) (hb : c.code = cc) {x off : Int} {tgt : Nat} (hdg : decode cc pc = .ok (.ifCond .eq off, 3)) (ht : (pc : Int) + off = (tgt : Int)) (h1 : rg x)
    (kt : x = 0 → W p l e R s m args below meth c H locs cells slots Q (F0 m tgt ls rest)) (kf : ¬ x = 0 → W p l e R s m args below meth c H locs cells slots Q (F0 m (pc + 3) ls rest)) : W p l e R s m args below meth c H locs cells slots Q (F0 m pc ls (.int (iI x) :: rest)) := lv_if_eq hx hb hdg ht (fun h => kt ((iI_eq (b := 0) h1 ⟨by omega, by omega⟩).mp h)) (fun h => kf (fun z => h ((iI_eq (b := 0) h1 ⟨by omega, by omega⟩).mpr z)))
theorem m_if_ne (hx : p.tables.exec = Jvm.exec) (hb : c.code = cc) {x off : Int} {tgt : Nat} (hdg : decode cc pc = .ok (.ifCond .ne off, 3)) (ht : (pc : Int) + off = (tgt : Int)) (h1 : rg x)
    (kt : ¬ x = 0 → W p l e R s m args below meth c H locs cells slots Q (F0 m tgt ls rest)) (kf : x = 0 → W p l e R s m args below meth c H locs cells slots Q (F0 m (pc + 3) ls rest)) : W p l e R s m args below meth c H locs cells slots Q (F0 m pc ls (.int (iI x) :: rest)) := lv_if_ne hx hb hdg ht (fun h => kt (fun z => h ((iI_eq (b := 0) h1 ⟨by omega, by omega⟩).mpr z))) (fun h => kf ((iI_eq (b := 0) h1 ⟨by omega, by omega⟩).mp h))
theorem m_if_lt (hx : p.tables.exec = Jvm.exec) (hb : c.code = cc) {x off : Int} {tgt : Nat} (hdg : decode cc pc = .ok (.ifCond .lt off, 3)) (ht : (pc : Int) + off = (tgt : Int)) (h1 : rg x)
    (kt : x < 0 → W p l e R s m args below meth c H locs cells slots Q (F0 m tgt ls rest)) (kf : ¬ x < 0 → W p l e R s m args below meth c H locs cells slots Q (F0 m (pc + 3) ls rest)) : W p l e R s m args below meth c H locs cells slots Q (F0 m pc ls (.int (iI x) :: rest)) := lv_if_lt hx hb hdg ht (fun h => kt ((iI_lt (b := 0) h1 ⟨by omega, by omega⟩).mp h)) (fun h => kf (fun z => h ((iI_lt (b := 0) h1 ⟨by omega, by omega⟩).mpr z)))
theorem m_if_ge (hx : p.tables.exec = Jvm.exec) (hb : c.code = cc) {x off : Int} {tgt : Nat} (hdg : decode cc pc = .ok (.ifCond .ge off, 3)) (ht : (pc : Int) + off = (tgt : Int)) (h1 : rg x)
    (kt : 0 ≤ x → W p l e R s m args below meth c H locs cells slots Q (F0 m tgt ls rest)) (kf : ¬ 0 ≤ x → W p l e R s m args below meth c H locs cells slots Q (F0 m (pc + 3) ls rest)) : W p l e R s m args below meth c H locs cells slots Q (F0 m pc ls (.int (iI x) :: rest)) := lv_if_ge hx hb hdg ht (fun h => kt ((iI_le (a := 0) ⟨by omega, by omega⟩ h1).mp h)) (fun h => kf (fun z => h ((iI_le (a := 0) ⟨by omega, by omega⟩ h1).mpr z)))
theorem m_if_gt (hx : p.tables.exec = Jvm.exec) (hb : c.code = cc) {x off : Int} {tgt : Nat} (hdg : decode cc pc = .ok (.ifCond .gt off, 3)) (ht : (pc : Int) + off = (tgt : Int)) (h1 : rg x)
    (kt : 0 < x → W p l e R s m args below meth c H locs cells slots Q (F0 m tgt ls rest)) (kf : ¬ 0 < x → W p l e R s m args below meth c H locs cells slots Q (F0 m (pc + 3) ls rest)) : W p l e R s m args below meth c H locs cells slots Q (F0 m pc ls (.int (iI x) :: rest)) := lv_if_gt hx hb hdg ht (fun h => kt ((iI_lt (a := 0) ⟨by omega, by omega⟩ h1).mp h)) (fun h => kf (fun z => h ((iI_lt (a := 0) ⟨by omega, by omega⟩ h1).mpr z)))
theorem m_if_le (hx : p.tables.exec = Jvm.exec) (hb : c.code = cc) {x off : Int} {tgt : Nat} (hdg : decode cc pc = .ok (.ifCond .le off, 3)) (ht : (pc : Int) + off = (tgt : Int)) (h1 : rg x)
    (kt : x ≤ 0 → W p l e R s m args below meth c H locs cells slots Q (F0 m tgt ls rest)) (kf : ¬ x ≤ 0 → W p l e R s m args below meth c H locs cells slots Q (F0 m (pc + 3) ls rest)) : W p l e R s m args below meth c H locs cells slots Q (F0 m pc ls (.int (iI x) :: rest)) := lv_if_le hx hb hdg ht (fun h => kt ((iI_le (b := 0) h1 ⟨by omega, by omega⟩).mp h)) (fun h => kf (fun z => h ((iI_le (b := 0) h1 ⟨by omega, by omega⟩).mpr z)))
/-- a boolean on the stack, tested -/
theorem rg_if {P : Prop} [Decidable P] : rg (if P then (1 : Int) else 0) := by split <;> exact ⟨by omega, by omega⟩
theorem m_ifb_eq (hx : p.tables.exec = Jvm.exec) (hb : c.code = cc) {P : Prop} [Decidable P] {off : Int} {tgt : Nat} (hdg : decode cc pc = .ok (.ifCond .eq off, 3)) (ht : (pc : Int) + off = (tgt : Int))
    (kt : ¬ P → W p l e R s m args below meth c H locs cells slots Q (F0 m tgt ls rest)) (kf : P → W p l e R s m args below meth c H locs cells slots Q (F0 m (pc + 3) ls rest)) : W p l e R s m args below meth c H locs cells slots Q (F0 m pc ls (.int (iI (if P then 1 else 0)) :: rest)) := m_if_eq hx hb hdg ht rg_if (fun h => kt (fun z => by rw [if_pos z] at h; omega)) (fun h => kf (by
    rcases Classical.em P with z | z
    · exact z
    · rw [if_neg z] at h; omega))
theorem m_ifb_ne (hx : p.tables.exec = Jvm.exec) (hb : c.code = cc) {P : Prop} [Decidable P] {off : Int} {tgt : Nat} (hdg : decode cc pc = .ok (.ifCond .ne off, 3)) (ht : (pc : Int) + off = (tgt : Int))
    (kt : P → W p l e R s m args below meth c H locs cells slots Q (F0 m tgt ls rest)) (kf : ¬ P → W p l e R s m args below meth c H locs cells slots Q (F0 m (pc + 3) ls rest)) : W p l e R s m args below meth c H locs cells slots Q (F0 m pc ls (.int (iI (if P then 1 else 0)) :: rest)) := m_if_ne hx hb hdg ht rg_if (fun h => kt (by
    rcases Classical.em P with z | z
    · exact z
    · rw [if_neg z] at h; omega)) (fun h => kf (fun z => by rw [if_pos z] at h; omega))
/-- fields -/
theorem mP1 (hG : mG D b M s H) {o : Nat × List Value} (ha : M a = some (.inr o)) : va_P D vwCl [(a, .inr o)] H := by
  intro k q hk
  have h1 := (hG.2 a _ ha).2
  cases k with
  | zero => cases hk; exact h1
  | succ k => simp at hk
theorem m_get (hx : p.tables.exec = Jvm.exec) (hb : c.code = cc) {C : String} {T : u_T} {N ci index : Nat} (hts : ∀ w ∈ Ts, w.before args s = true) (hin : ∀ w ∈ u_ws C T N, w ∈ Ts) (hown : s.vm.findClass own = some m.cls) (K : mS D s) (hG : mG D b M s H) {fs : List Value} (ha : M a = some (.inr (ci, fs))) (hc : vwCl[ci]? = some (C, T, N)) (k : Nat) (hk : k < N) (hlink : (Cond.fieldLink own index (T k).1 (T k).2.1 (T k).2.2.1) ∈ Ts) {v : Value} (hv : fs[k]? = some v) (hdg : decode cc pc = .ok (.getfield index, 3))
    (kk : W p l e R s m args below meth c H locs cells slots Q (F0 m (pc + 3) ls (v :: rest))) : W p l e R s m args below meth c H locs cells slots Q (F0 m pc ls (.ref a :: rest)) :=
  va_get hx hb hts hin hown K.1 (mP1 hG ha) 0 rfl hc k hk (hts _ hlink) (fun _ h => h) hv hdg kk
theorem m_getN (hx : p.tables.exec = Jvm.exec) (hb : c.code = cc) {C host : String} {T : u_T} {N ci index : Nat} (hts : ∀ w ∈ Ts, w.before args s = true) (hin : ∀ w ∈ u_ws C T N, w ∈ Ts) (hown : s.vm.findClass own = some m.cls) (K : mS D s) (hG : mG D b M s H) {fs : List Value} (ha : M a = some (.inr (ci, fs))) (hc : vwCl[ci]? = some (C, T, N)) (k : Nat) (hk : k < N) (hlink : va_Nw (Cond.fieldLinkNest own index (T k).1 (T k).2.1 (T k).2.2.1 host) s) {v : Value} (hv : fs[k]? = some v) (hdg : decode cc pc = .ok (.getfield index, 3))
    (kk : W p l e R s m args below meth c H locs cells slots Q (F0 m (pc + 3) ls (v :: rest))) : W p l e R s m args below meth c H locs cells slots Q (F0 m pc ls (.ref a :: rest)) :=
  va_getN hx hb hts hin hown K.1 (mP1 hG ha) 0 rfl hc k hk (hlink.use rfl) (fun _ h => h) hv hdg kk
theorem m_put (hx : p.tables.exec = Jvm.exec) (hb : c.code = cc) {C : String} {T : u_T} {N ci index : Nat} (hts : ∀ w ∈ Ts, w.before args s = true) (hin : ∀ w ∈ u_ws C T N, w ∈ Ts) (ty0 : Nat → FieldType) (hty : ∀ k, k < N → parseFieldDescriptor (T k).2.2.1 = some (ty0 k)) (hnm : ∀ a, a < N → ∀ b, b < N → a ≠ b → (T a).2.1 ≠ (T b).2.1) (hown : s.vm.findClass own = some m.cls) (K : mS D s) (hG : mG D b M s H) (hS0 : va_S (mF b) H0 H locs) {fs fs' : List Value} (ha : M a = some (.inr (ci, fs))) (hc : vwCl[ci]? = some (C, T, N)) (k : Nat) (hk : k < N) (hlink : (Cond.fieldLink own index (T k).1 (T k).2.1 (T k).2.2.1) ∈ Ts) (hfin : (T k).2.2.2 = false) {ty : FieldType} {v : Value} (hd : parseFieldDescriptor (T k).2.2.1 = some ty) (hn : narrow ty v = v) (hfit : fits ty v = true) (hl : k < fs.length) (hfs : fs.set k v = fs')
    (hdg : decode cc pc = .ok (.putfield index, 3)) (kk : ∀ (H1 : Heap) (locs1 : List Loc), mG D b (mset M a (.inr (ci, fs'))) s H1 → va_S (mF b) H0 H1 locs1 → W p l e R s m args below meth c H1 locs1 cells slots Q (F0 m (pc + 3) ls rest)) : W p l e R s m args below meth c H locs cells slots Q (F0 m pc ls (v :: .ref a :: rest)) := by
  subst hfs
  have hap := va_apart (own := own) hts hin ty0 hty hnm K.1 hc
  obtain ⟨hba, r, h1, cell, q1, q2, q3, q4⟩ := hG.2 a _ ha
  have hr : r = (C, T, N) := Option.some.inj (h1.symm.trans hc)
  subst hr
  obtain ⟨hS, hfc, kC, hkC, hkind⟩ := K.1.1 ci _ hc
  obtain ⟨cf, kf, fi, f, hi, hsl⟩ := hS k hk
  have hlay := hts _ (hin _ (u_in_lay hk))
  unfold u_lay at hlay
  rw [if_neg (by rw [hfin]; decide)] at hlay
  have hst := (u_facts hfc hkC (u_lays hts hin hk) hi).1
  have h6 := u_store hfc hkC hkind hlay hi hd hn hfit
  refine W.putK hx hb (f := f) ⟨hown, hts _ hlink, ⟨_, _, _, hi⟩, hst⟩ (by rw [q2]; exact h6) q1 q3 (by rw [hsl]; exact k2_hasslot (q4 k hk)) rfl rfl hdg fun H' e1 e2 e3 => ?_
  rw [hsl] at e1 ⊢
  exact kk H' _ (hG.set hba (v := .inr (ci, fs.set k v)) ⟨_, hc, t_OB.to (V := updV (vp_V fs) k v) ⟨_, e1, q2, q3, t_set q4 hap hk v⟩ (fun j _ => vp_updV_set hl v j)⟩ e2 e3) (hS0.put e2 e3 hba)
theorem m_putF (hx : p.tables.exec = Jvm.exec) (hb : c.code = cc) {C : String} {T : u_T} {N ci index : Nat} (hts : ∀ w ∈ Ts, w.before args s = true) (hin : ∀ w ∈ u_ws C T N, w ∈ Ts) (ty0 : Nat → FieldType) (hty : ∀ k, k < N → parseFieldDescriptor (T k).2.2.1 = some (ty0 k)) (hnm : ∀ a, a < N → ∀ b, b < N → a ≠ b → (T a).2.1 ≠ (T b).2.1) (hown : s.vm.findClass own = some m.cls) (K : mS D s) (hG : mG D b M s H) (hS0 : va_S (mF b) H0 H locs) {fs fs' : List Value} (ha : M a = some (.inr (ci, fs))) (hc : vwCl[ci]? = some (C, T, N)) (k : Nat) (hk : k < N) (hlink : (Cond.fieldLink own index (T k).1 (T k).2.1 (T k).2.2.1) ∈ Ts) (hfin : (T k).2.2.2 = true) (hin2 : meth.name = "<init>") (hdecl : (T k).1 = own) {ty : FieldType} {v : Value} (hd : parseFieldDescriptor (T k).2.2.1 = some ty) (hn : narrow ty v = v) (hfit : fits ty v = true) (hl : k < fs.length) (hfs : fs.set k v = fs')
    (hdg : decode cc pc = .ok (.putfield index, 3)) (kk : ∀ (H1 : Heap) (locs1 : List Loc), mG D b (mset M a (.inr (ci, fs'))) s H1 → va_S (mF b) H0 H1 locs1 → W p l e R s m args below meth c H1 locs1 cells slots Q (F0 m (pc + 3) ls rest)) : W p l e R s m args below meth c H locs cells slots Q (F0 m pc ls (v :: .ref a :: rest)) := by
  subst hfs
  have hap := va_apart (own := own) hts hin ty0 hty hnm K.1 hc
  obtain ⟨hba, r, h1, cell, q1, q2, q3, q4⟩ := hG.2 a _ ha
  have hr : r = (C, T, N) := Option.some.inj (h1.symm.trans hc)
  subst hr
  obtain ⟨hS, hfc, kC, hkC, hkind⟩ := K.1.1 ci _ hc
  obtain ⟨cf, kf, fi, f, hi, hsl⟩ := hS k hk
  have hlay := hts _ (hin _ (u_in_lay hk))
  unfold u_lay at hlay
  rw [if_pos hfin] at hlay
  have hst := (u_facts hfc hkC (u_lays hts hin hk) hi).1
  have hcf : m.cls = cf := by
    obtain ⟨_, _, c', _, _, _, -, -, hf', -, -, -, hown2, -⟩ := Cond.laysFinal_spec hlay
    have e1 : c' = cf := by have := hi.symm.trans hf'; simp at this; exact this.1.symm
    rw [hdecl] at hown2
    rw [← e1]; exact Option.some.inj (hown.symm.trans hown2)
  have h6 := u_fits hfc hkC hkind (Or.inr hlay) hi hd hn hfit
  refine W.putFinK hx hb hown (hts _ hlink) hi hst hcf hin2 (by rw [q2]; exact h6) q1 q3 (by rw [hsl]; exact k2_hasslot (q4 k hk)) rfl rfl hdg fun H' e1 e2 e3 => ?_
  rw [hsl] at e1 ⊢
  exact kk H' _ (hG.set hba (v := .inr (ci, fs.set k v)) ⟨_, hc, t_OB.to (V := updV (vp_V fs) k v) ⟨_, e1, q2, q3, t_set q4 hap hk v⟩ (fun j _ => vp_updV_set hl v j)⟩ e2 e3) (hS0.put e2 e3 hba)
/-- arrays, read -/
abbrev aI (n : Nat) (v : Nat → Int) : mE := .inl (.int, n, .inl (fun k => iI (v k)))
abbrev aZ (n : Nat) (v : Nat → Bool) : mE := .inl (.boolean, n, .inl (fun k => iI (if v k = true then 1 else 0)))
abbrev aL (n : Nat) (v : Nat → Nat → Bool) : mE := .inl (.long, n, .inr (.inl (fun k => bO (v k))))
abbrev aQ (C : String) (n : Nat) (v : Nat → Option Nat) : mE := .inl (.object C, n, .inr (.inr (.inr (.inr v))))
theorem m_iald (hx : p.tables.exec = Jvm.exec) (hb : c.code = cc) (hG : mG D b M s H) {n : Nat} {v : Nat → Int} (ha : M a = some (aI n v)) {i : Int} (j : Nat) (hj : i = (j : Int)) (hj2 : j < n) (hn : n < 2147483648) (hdg : decode cc pc = .ok (.iaload, 1))
    (kk : W p l e R s m args below meth c H locs cells slots Q (F0 m (pc + 1) ls (.int (iI (v j)) :: rest))) : W p l e R s m args below meth c H locs cells slots Q (F0 m pc ls (.int (iI i) :: .ref a :: rest)) := by
  obtain ⟨-, cA, ⟨h1, -⟩, h3⟩ := hG.2 a _ ha
  have hin := iI_in hj hj2 hn
  have hcl := iI_cl hj hj2 hn
  exact W.iald (v := .int (iI (v j))) hx hb h3 (h1 n (fun k => .int (iI (v k)))) (fun q => by cases q) (by show ¬ (_ < 0 ∨ (arrV _ _ _).slots.size ≤ _); rw [arrV_size]; exact hin) (by show (arrV _ _ _).slots[_]? = _; rw [hcl, arrV_read _ _ hj2]) rfl rfl hdg kk
theorem m_zald (hx : p.tables.exec = Jvm.exec) (hb : c.code = cc) (hG : mG D b M s H) {n : Nat} {v : Nat → Bool} (ha : M a = some (aZ n v)) {i : Int} (j : Nat) (hj : i = (j : Int)) (hj2 : j < n) (hn : n < 2147483648) (hdg : decode cc pc = .ok (.baload, 1))
    (kk : W p l e R s m args below meth c H locs cells slots Q (F0 m (pc + 1) ls (.int (iI (if v j = true then 1 else 0)) :: rest))) : W p l e R s m args below meth c H locs cells slots Q (F0 m pc ls (.int (iI i) :: .ref a :: rest)) := by
  obtain ⟨-, cA, ⟨h1, -⟩, h3⟩ := hG.2 a _ ha
  have hin := iI_in hj hj2 hn
  have hcl := iI_cl hj hj2 hn
  exact W.zald (v := .int (iI (if v j = true then 1 else 0))) hx hb h3 (h1 n (fun k => .int (iI (if v k = true then 1 else 0)))) (fun q => by cases q) (by show ¬ (_ < 0 ∨ (arrV _ _ _).slots.size ≤ _); rw [arrV_size]; exact hin) (by show (arrV _ _ _).slots[_]? = _; rw [hcl, arrV_read _ _ hj2]) rfl rfl hdg kk
theorem m_lald (hx : p.tables.exec = Jvm.exec) (hb : c.code = cc) (hG : mG D b M s H) {n : Nat} {v : Nat → Nat → Bool} (ha : M a = some (aL n v)) {i : Int} (j : Nat) (hj : i = (j : Int)) (hj2 : j < n) (hn : n < 2147483648) (hdg : decode cc pc = .ok (.laload, 1))
    (kk : W p l e R s m args below meth c H locs cells slots Q (F0 m (pc + 1) ls (.long (bO (v j)) :: rest))) : W p l e R s m args below meth c H locs cells slots Q (F0 m pc ls (.int (iI i) :: .ref a :: rest)) := by
  obtain ⟨-, cA, ⟨h1, -⟩, h3⟩ := hG.2 a _ ha
  have hin := iI_in hj hj2 hn
  have hcl := iI_cl hj hj2 hn
  exact W.lald (v := .long (bO (v j))) hx hb h3 (h1 n (fun k => .long (bO (v k)))) (fun q => by cases q) (by show ¬ (_ < 0 ∨ (arrV _ _ _).slots.size ≤ _); rw [arrV_size]; exact hin) (by show (arrV _ _ _).slots[_]? = _; rw [hcl, arrV_read _ _ hj2]) rfl rfl hdg kk
theorem m_aald (hx : p.tables.exec = Jvm.exec) (hb : c.code = cc) (hG : mG D b M s H) {C : String} {n : Nat} {v : Nat → Option Nat} (ha : M a = some (aQ C n v)) {i : Int} (j : Nat) (hj : i = (j : Int)) (hj2 : j < n) (hn : n < 2147483648) {y : Nat} (hy : v j = some y) (hdg : decode cc pc = .ok (.aaload, 1))
    (kk : W p l e R s m args below meth c H locs cells slots Q (F0 m (pc + 1) ls (.ref y :: rest))) : W p l e R s m args below meth c H locs cells slots Q (F0 m pc ls (.int (iI i) :: .ref a :: rest)) := by
  obtain ⟨-, cA, ⟨h1, -⟩, h3⟩ := hG.2 a _ ha
  have hin := iI_in hj hj2 hn
  have hcl := iI_cl hj hj2 hn
  exact W.aald (v := .ref y) (ty := .object C) hx hb h3 (h1 n (fun k => va_rf (v k))) rfl (fun q => by cases q) (by show ¬ (_ < 0 ∨ (arrV _ _ _).slots.size ≤ _); rw [arrV_size]; exact hin) (by show (arrV _ _ _).slots[_]? = _; rw [hcl, arrV_read _ _ hj2, hy]; rfl) rfl rfl hdg kk
/-- arrays, written -/
theorem m_iast (hx : p.tables.exec = Jvm.exec) (hb : c.code = cc) (hG : mG D b M s H) (hS : va_S (mF b) H0 H locs) {n : Nat} {v : Nat → Int} (ha : M a = some (aI n v)) {i z : Int} (j : Nat) (hj : i = (j : Int)) (hj2 : j < n) (hn : n < 2147483648) (hdg : decode cc pc = .ok (.iastore, 1))
    (kk : ∀ (H1 : Heap) (locs1 : List Loc), mG D b (mset M a (aI n (va_up v j z))) s H1 → va_S (mF b) H0 H1 locs1 → W p l e R s m args below meth c H1 locs1 cells slots Q (F0 m (pc + 1) ls rest)) : W p l e R s m args below meth c H locs cells slots Q (F0 m pc ls (.int (iI z) :: .int (iI i) :: .ref a :: rest)) := by
  obtain ⟨hba, cA, ⟨h1, h2⟩, h3⟩ := hG.2 a _ ha
  have hin := iI_in hj hj2 hn
  have hcl := iI_cl hj hj2 hn
  refine W.iast hx hb h3 (h1 n (fun k => .int (iI (v k)))) (fun q => by cases q) (by show ¬ (_ < 0 ∨ (arrV _ _ _).slots.size ≤ _); rw [arrV_size]; exact hin) rfl rfl hdg fun H1 e1 z1 oq => ?_
  refine kk H1 _ (hG.set hba ⟨cA, ⟨h1, h2⟩, ?_⟩ z1 oq) (hS.put z1 oq hba)
  show H1[a]? = some (vp_cell _ _)
  rw [e1, vp_cell_i, vp_cell_i, arrV_store, hcl]
  congr 2
  funext q
  by_cases hq : q = j <;> simp [updV, va_up, hq]
theorem m_zast (hx : p.tables.exec = Jvm.exec) (hb : c.code = cc) (hG : mG D b M s H) (hS : va_S (mF b) H0 H locs) {n : Nat} {v : Nat → Bool} (ha : M a = some (aZ n v)) {i : Int} {P : Prop} [Decidable P] (j : Nat) (hj : i = (j : Int)) (hj2 : j < n) (hn : n < 2147483648) (hdg : decode cc pc = .ok (.bastore, 1))
    (kk : ∀ (H1 : Heap) (locs1 : List Loc), mG D b (mset M a (aZ n (va_up v j (decide P)))) s H1 → va_S (mF b) H0 H1 locs1 → W p l e R s m args below meth c H1 locs1 cells slots Q (F0 m (pc + 1) ls rest)) : W p l e R s m args below meth c H locs cells slots Q (F0 m pc ls (.int (iI (if P then 1 else 0)) :: .int (iI i) :: .ref a :: rest)) := by
  obtain ⟨hba, cA, ⟨h1, h2⟩, h3⟩ := hG.2 a _ ha
  have hin := iI_in hj hj2 hn
  have hcl := iI_cl hj hj2 hn
  have hnar : narrow .boolean (.int (iI (if P then 1 else 0))) = .int (iI (if P then 1 else 0)) := by split <;> decide
  refine W.zast hx hb h3 (h1 n (fun k => .int (iI (if v k = true then 1 else 0)))) (fun q => by cases q) (by show ¬ (_ < 0 ∨ (arrV _ _ _).slots.size ≤ _); rw [arrV_size]; exact hin) rfl rfl hdg fun H1 e1 z1 oq => ?_
  refine kk H1 _ (hG.set hba ⟨cA, ⟨h1, h2⟩, ?_⟩ z1 oq) (hS.put z1 oq hba)
  show H1[a]? = some (vp_cell _ _)
  rw [e1, vp_cell_i, vp_cell_i, arrV_store, hcl]
  congr 2
  funext q
  by_cases hq : q = j
  · simp only [updV, va_up, hq, if_true, decide_eq_true_eq]
    first | exact hnar | (rw [hnar])
  · simp [updV, va_up, hq]
theorem m_last (hx : p.tables.exec = Jvm.exec) (hb : c.code = cc) (hG : mG D b M s H) (hS : va_S (mF b) H0 H locs) {n : Nat} {v : Nat → Nat → Bool} (ha : M a = some (aL n v)) {i : Int} {z : Nat → Bool} (j : Nat) (hj : i = (j : Int)) (hj2 : j < n) (hn : n < 2147483648) (hdg : decode cc pc = .ok (.lastore, 1))
    (kk : ∀ (H1 : Heap) (locs1 : List Loc), mG D b (mset M a (aL n (va_up v j z))) s H1 → va_S (mF b) H0 H1 locs1 → W p l e R s m args below meth c H1 locs1 cells slots Q (F0 m (pc + 1) ls rest)) : W p l e R s m args below meth c H locs cells slots Q (F0 m pc ls (.long (bO z) :: .int (iI i) :: .ref a :: rest)) := by
  obtain ⟨hba, cA, ⟨h1, h2⟩, h3⟩ := hG.2 a _ ha
  have hin := iI_in hj hj2 hn
  have hcl := iI_cl hj hj2 hn
  refine W.last hx hb h3 (h1 n (fun k => .long (bO (v k)))) (fun q => by cases q) (by show ¬ (_ < 0 ∨ (arrV _ _ _).slots.size ≤ _); rw [arrV_size]; exact hin) rfl rfl hdg fun H1 e1 z1 oq => ?_
  refine kk H1 _ (hG.set hba ⟨cA, ⟨h1, h2⟩, ?_⟩ z1 oq) (hS.put z1 oq hba)
  show H1[a]? = some (vp_cell _ _)
  rw [e1, vp_cell_l, vp_cell_l, arrV_store, hcl]
  congr 2
  funext q
  by_cases hq : q = j <;> simp [updV, va_up, hq]
theorem m_aast (hx : p.tables.exec = Jvm.exec) (hb : c.code = cc) (K : mS D s) (hG : mG D b M s H) (hS : va_S (mF b) H0 H locs) {r : vw_C} {n y ci : Nat} {vs : List Value} {v : Nat → Option Nat} (ha : M a = some (aQ r.1 n v)) (hy : M y = some (.inr (ci, vs))) (hc : vwCl[ci]? = some r) {i : Int} (j : Nat) (hj : i = (j : Int)) (hj2 : j < n) (hn : n < 2147483648) (hdg : decode cc pc = .ok (.aastore, 1))
    (kk : ∀ (H1 : Heap) (locs1 : List Loc), mG D b (mset M a (aQ r.1 n (va_up v j (some y)))) s H1 → va_S (mF b) H0 H1 locs1 → W p l e R s m args below meth c H1 locs1 cells slots Q (F0 m (pc + 1) ls rest)) : W p l e R s m args below meth c H locs cells slots Q (F0 m pc ls (.ref y :: .int (iI i) :: .ref a :: rest)) := by
  obtain ⟨hba, cA, ⟨h1, h2⟩, h3⟩ := hG.2 a _ ha
  have hin := iI_in hj hj2 hn
  have hcl := iI_cl hj hj2 hn
  have h0 : ¬ iI i < 0 := fun q => hin (Or.inl q)
  obtain ⟨-, r', hr', cellV, g1, g2, g3, -⟩ := hG.2 y _ hy
  have hcls := (K.1.1 ci r hc).2
  obtain ⟨kA, comp, k1, k2, k3, -⟩ := id h2
  have hcomp : comp = D.1 ci := Option.some.inj (k3.symm.trans hcls.1)
  subst hcomp
  obtain ⟨kC, hkC, -⟩ := hcls.2
  refine W.aast hx hb h3 (fun q h => by cases h) (fun h => by cases h) k1 k2 rfl hkC ⟨h0, by show _ < (arrV _ _ _).slots.size; rw [arrV_size, hcl]; exact hj2⟩ g1 (fun q h => by rw [g3] at h; cases h) (by rw [g2]; exact hkC) (by rw [g2]; exact va_assign hcls) rfl rfl hdg fun H1 e1 z1 oq => ?_
  refine kk H1 _ (hG.set hba ⟨cA, ⟨h1, h2⟩, ?_⟩ z1 oq) (hS.put z1 oq hba)
  show H1[a]? = some (vp_cell _ _)
  rw [e1, vp_cell_q, vp_cell_q, arrV_store, hcl]
  congr 2
  funext q
  by_cases hq : q = j <;> simp [updV, va_up, hq, va_rf]
/-- new cells -/
theorem m_new (hx : p.tables.exec = Jvm.exec) (hb : c.code = cc) {C : String} {T : u_T} {N ci index : Nat} (hts : ∀ w ∈ Ts, w.before args s = true) (hin : ∀ w ∈ u_ws C T N, w ∈ Ts) (ty : Nat → FieldType) (hty : ∀ k, k < N → parseFieldDescriptor (T k).2.2.1 = some (ty k)) (hown : s.vm.findClass own = some m.cls) (hcl : (Cond.classLink own index C) ∈ Ts) (hinst : (Cond.instantiable C N) ∈ Ts) (hini : (Cond.initialized C) ∈ Ts) (K : mS D s) (hG : mG D b M s H) (hS : va_S (mF b) H0 H locs) (hc : vwCl[ci]? = some (C, T, N)) {fs : List Value} (hfs : ∀ j, j < N → defaultValue (ty j) = vp_V fs j) (hcells : cells + 1 ≤ R.cells) (hslots : slots + N ≤ R.slots) (hdg : decode cc pc = .ok (.new index, 3))
    (kk : ∀ (q : Nat) (H1 : Heap), M q = none → mG D b (mset M q (.inr (ci, fs))) s H1 → va_S (mF b) H0 H1 locs → W p l e R s m args below meth c H1 locs (cells + 1) (slots + N) Q (F0 m (pc + 3) ls (.ref q :: rest))) : W p l e R s m args below meth c H locs cells slots Q (F0 m pc ls rest) := by
  have hKn := K.1.1 ci _ hc
  refine W.newcK hx hb hown (hts _ hcl) (hts _ hinst) (hts _ hini) rfl hdg hcells hslots hKn.2.1 rfl fun H1 kC hkC e1 z1 o1 => ?_
  exact kk H.size H1 hG.fresh (hG.push ⟨_, hc, (u_born ty hts hin hKn hkC e1 hty).to hfs⟩ z1 o1) ⟨Nat.le_trans hS.1 (by omega), fun x h1 h2 => (o1 x (Nat.lt_of_lt_of_le h1 hS.1)).trans (hS.2.1 x h1 h2), hS.2.2⟩
theorem m_newa (hx : p.tables.exec = Jvm.exec) (hb : c.code = cc) {atype : ArrayType} (hts : ∀ w ∈ Ts, w.before args s = true) (harr : (Cond.arrayClass (newarray.typeOf atype)) ∈ Ts) {ty : FieldType} (hty : newarray.typeOf atype = ty) (hra : ∀ cA : ClassId, s.vm.findClass ("[" ++ ty.toString) = some cA → va_RA s cA ty) (hG : mG D b M s H) (hS : va_S (mF b) H0 H locs) {z : Int} {N' : Nat} {a0 : vp_A} (ha : ∀ cA : ClassId, vp_cell cA a0 = arrV cA N' (fun _ => defaultValue ty)) (hz : z = (N' : Int)) (hz2 : N' < 2147483648) (hbytes : N' * componentBytes ty ≤ 536870912) (hcells : cells + 1 ≤ R.cells) (hslots : slots + N' ≤ R.slots) (hdg : decode cc pc = .ok (.newarray atype, 2))
    (kk : ∀ (q : Nat) (H1 : Heap), M q = none → mG D b (mset M q (.inl (ty, a0))) s H1 → va_S (mF b) H0 H1 locs → W p l e R s m args below meth c H1 locs (cells + 1) (slots + N') Q (F0 m (pc + 2) ls (.ref q :: rest))) : W p l e R s m args below meth c H locs cells slots Q (F0 m pc ls (.int (iI z) :: rest)) := by
  subst hty
  have hcl : (iI z).toNatClampNeg = N' := iI_cl (n := N' + 1) hz (Nat.lt_succ_self _) (by
    rcases Nat.lt_or_ge (N' + 1) 2147483648 with h | h
    · exact h
    · exfalso
      have h8 : 1 ≤ componentBytes (newarray.typeOf atype) := by cases atype <;> decide
      have := Nat.mul_le_mul_left N' h8
      omega)
  have hn : ¬ iI z < 0 := by
    rw [show (0 : Int32) = iI 0 from rfl, iI_lt ⟨by omega, by omega⟩ ⟨by omega, by omega⟩]
    omega
  refine va_newaK hx hb (hts _ harr) rfl hdg rfl hn hcl hbytes hcells hslots rfl fun H1 cA e1 z1 o1 hAr hNm => ?_
  exact kk H.size H1 hG.fresh (hG.push ⟨cA, ⟨hAr, hra cA hNm⟩, by show _ = some (vp_cell _ _); rw [ha]; exact e1⟩ z1 o1) ⟨Nat.le_trans hS.1 (by omega), fun x h1 h2 => (o1 x (Nat.lt_of_lt_of_le h1 hS.1)).trans (hS.2.1 x h1 h2), hS.2.2⟩
theorem m_newq (hx : p.tables.exec = Jvm.exec) (hb : c.code = cc) {C : String} {index : Nat} (hts : ∀ w ∈ Ts, w.before args s = true) (hown : s.vm.findClass own = some m.cls) (hclink : (Cond.classLink own index C) ∈ Ts) (hover : va_AO C s) (hG : mG D b M s H) (hS : va_S (mF b) H0 H locs) {z : Int} {N' : Nat} (hz : z = (N' : Int)) (hz2 : N' < 100000) (hcells : cells + 1 ≤ R.cells) (hslots : slots + N' ≤ R.slots) (hdg : decode cc pc = .ok (.anewarray index, 3))
    (kk : ∀ (q : Nat) (H1 : Heap), M q = none → mG D b (mset M q (aQ C N' (fun _ => none))) s H1 → va_S (mF b) H0 H1 locs → W p l e R s m args below meth c H1 locs (cells + 1) (slots + N') Q (F0 m (pc + 3) ls (.ref q :: rest))) : W p l e R s m args below meth c H locs cells slots Q (F0 m pc ls (.int (iI z) :: rest)) := by
  have hcl : (iI z).toNatClampNeg = N' := iI_cl (n := N' + 1) hz (Nat.lt_succ_self _) (by omega)
  have hn : ¬ iI z < 0 := by
    rw [show (0 : Int32) = iI 0 from rfl, iI_lt ⟨by omega, by omega⟩ ⟨by omega, by omega⟩]
    omega
  refine W.anew hx hb hown (hts _ hclink) (va_AO.use hover) rfl hdg rfl hn (by rw [hcl]; omega) hcells (by rw [hcl]; exact hslots) fun cA kA comp f1 f2 f3 f4 => ?_
  rw [hcl]
  generalize hH1 : H.push ({ cls := cA, slots := Array.replicate N' .null, vm := .none } : Cell) = H1
  have z1 : H1.size = H.size + 1 := by rw [← hH1, Array.size_push]
  have e1 : H1[H.size]? = some (arrV cA N' (fun _ => .null)) := by rw [← hH1, Array.getElem?_push_size, ← arrV_new]
  have o1 : ∀ q : Nat, q < H.size → H1[q]? = H[q]? := fun q hq => by rw [← hH1, Array.getElem?_push, if_neg (Nat.ne_of_lt hq)]
  have hAr : ArrOfT s cA (.object C) := fun N z => ⟨(fun k h => by cases h), kA, f2, comp, f3⟩
  refine kk H.size H1 hG.fresh (hG.push ⟨cA, ⟨hAr, kA, comp, f2, f3, f4, f1⟩, ?_⟩ z1 o1) ⟨Nat.le_trans hS.1 (by omega), fun x h1 h2 => (o1 x (Nat.lt_of_lt_of_le h1 hS.1)).trans (hS.2.1 x h1 h2), hS.2.2⟩
  show H1[H.size]? = some (vp_cell _ _)
  rw [e1]
  rfl
end MR
end
section
section MC
variable {p : Program} {l : Launch} {e : Env} {R : Room} {s : State} {m : MethodId} {args : Array Value} {below : List Frame} {meth : Method} {c : Code} {H : Heap} {locs : List Loc} {cells slots : Nat} {Q : State → Prop}
variable {cc : ByteArray} {pc : Nat} {ls : Array Slot} {rest st0 : List Value} {D : va_G} {a b : Nat} {M : mM} {H0 : Heap} {nL : Nat} {Ts : List Cond} {own : String} {mc ms : Nat}
/-- a contract out of a walk -/
theorem m_met {y : MethodName} {ws ws' : List Cond} {rm : Room} {maxL : Nat} {ret : Option FieldType} {av : List Value} {Qc : Array Value → State → Outcome → State → Prop} (hy : plainName y.cls = true) (hw : ws = Cond.code y cc maxL ret :: ws') (hlen : (lg_sl av).length ≤ maxL)
    (body : ∀ (p : Program) (e : Env) (s : State) (m : MethodId) (args : Array Value) (below : List Frame) (meth : Method) (c : Code) (Q : State → Prop) (ls : Array Slot),
      p.tables.exec = Jvm.exec → c.code = cc → c.maxLocals = maxL → meth.sig.returnType = ret → (∀ w ∈ ws, w.before args s = true) → s.vm.findClass y.cls = some m.cls → meth.locks = false → meth.name = y.name → Q = MQ below Qc args s mc ms (mF b) → mS D s → mG D b M s s.heap → va_S (mF b) s.heap s.heap [] → lv_has ls maxL (lv_args 0 av) → W p l e rm s m args below meth c s.heap [] 0 0 Q (F0 m 0 ls [])) : Met l y ws rm (mPc av D b M) Qc mc ms (mF b) := by
  refine Met.ofW (cc := cc) (maxL := maxL) (ret := ret) hy hw ?_
  intro p e s m args below meth c s₁ B hml hv
  obtain ⟨rfl, hK, hG⟩ := hv
  have hl := lv_entry av (n := maxL) hlen
  rw [lg_entry_eq]
  generalize (lg_sl av ++ List.replicate (maxL - (lg_sl av).length) Slot.unset).toArray = ls at hl ⊢
  exact body p e s m av.toArray below meth c _ ls B.exec B.bytes hml B.returns (atoms_spec (ws := ws) B.pre) (findClass_of_methodNamed B.named) B.notSynchronized (name_of_methodNamed B.named B.method).1 rfl hK hG va_S.rf hl
/-- returns -/
theorem m_vret {post : mM → Prop} (hx : p.tables.exec = Jvm.exec) (hb : c.code = cc) (hr : meth.sig.returnType = none) (hlk : meth.locks = false) (hQ : Q = MQ below (mQv D b post) args s mc ms (mF b)) (hG : mG D b M s H) (hS : va_S (mF b) s.heap H locs) (hc : cells ≤ mc) (hs : slots ≤ ms) (hdg : decode cc pc = .ok (.return_, 1)) (hp : post M) : W p l e R s m args below meth c H locs cells slots Q (F0 m pc ls []) := by
  subst hQ
  exact W.widen hc hs (W.vret hx hb hr (fun t ht hW => ⟨⟨M, rfl, hp, by show mG D b M t t.heap; rw [ht]; exact hG.moved hW.alike⟩, hS.F ht⟩) hS.2.2 hdg hlk)
theorem m_iret {post : Int32 → mM → Prop} {v : Int32} (hx : p.tables.exec = Jvm.exec) (hb : c.code = cc) (hr : meth.sig.returnType = some .int) (hlk : meth.locks = false) (hQ : Q = MQ below (mQi D b post) args s mc ms (mF b)) (hG : mG D b M s H) (hS : va_S (mF b) s.heap H locs) (hc : cells ≤ mc) (hs : slots ≤ ms) (hdg : decode cc pc = .ok (.ireturn, 1)) (hp : post v M) : W p l e R s m args below meth c H locs cells slots Q (F0 m pc ls [.int v]) := by
  subst hQ
  exact W.widen hc hs (W.iret hx hb hr (fun t ht hW => ⟨⟨v, M, rfl, hp, by show mG D b M t t.heap; rw [ht]; exact hG.moved hW.alike⟩, hS.F ht⟩) hS.2.2 hdg hlk)
theorem m_zret {post : Int32 → mM → Prop} {v : Int32} (hx : p.tables.exec = Jvm.exec) (hb : c.code = cc) (hr : meth.sig.returnType = some .boolean) (hlk : meth.locks = false) (hQ : Q = MQ below (mQi D b post) args s mc ms (mF b)) (hG : mG D b M s H) (hS : va_S (mF b) s.heap H locs) (hc : cells ≤ mc) (hs : slots ≤ ms) (hdg : decode cc pc = .ok (.ireturn, 1)) (hv : v = iI 0 ∨ v = iI 1) (hp : post v M) : W p l e R s m args below meth c H locs cells slots Q (F0 m pc ls [.int v]) := by
  subst hQ
  exact W.widen hc hs (W.zret hx hb hr (by rcases hv with h | h <;> rw [h] <;> decide) (fun t ht hW => ⟨⟨v, M, rfl, hp, by show mG D b M t t.heap; rw [ht]; exact hG.moved hW.alike⟩, hS.F ht⟩) hS.2.2 hdg hlk)
theorem iI_if {P : Prop} [Decidable P] : iI (if P then 1 else 0) = iI 0 ∨ iI (if P then 1 else 0) = iI 1 := by
  by_cases h : P
  · rw [if_pos h]; exact Or.inr rfl
  · rw [if_neg h]; exact Or.inl rfl
theorem m_lret {post : Int64 → mM → Prop} {v : Int64} (hx : p.tables.exec = Jvm.exec) (hb : c.code = cc) (hr : meth.sig.returnType = some .long) (hlk : meth.locks = false) (hQ : Q = MQ below (mQl D b post) args s mc ms (mF b)) (hG : mG D b M s H) (hS : va_S (mF b) s.heap H locs) (hc : cells ≤ mc) (hs : slots ≤ ms) (hdg : decode cc pc = .ok (.lreturn, 1)) (hp : post v M) : W p l e R s m args below meth c H locs cells slots Q (F0 m pc ls [.long v]) := by
  subst hQ
  exact W.widen hc hs (W.lret hx hb hr (fun t ht hW => ⟨⟨v, M, rfl, hp, by show mG D b M t t.heap; rw [ht]; exact hG.moved hW.alike⟩, hS.F ht⟩) hS.2.2 hdg hlk)
theorem m_aret {post : Option Nat → mM → Prop} {v : Value} (v0 : Option Nat) {C : String} (hv : v = va_rf v0) (hx : p.tables.exec = Jvm.exec) (hb : c.code = cc) (hr : meth.sig.returnType = some (.object C)) (hlk : meth.locks = false) (hQ : Q = MQ below (mQq D b post) args s mc ms (mF b)) (hG : mG D b M s H) (hS : va_S (mF b) s.heap H locs) (hc : cells ≤ mc) (hs : slots ≤ ms) (hdg : decode cc pc = .ok (.areturn, 1)) (hp : post v0 M) : W p l e R s m args below meth c H locs cells slots Q (F0 m pc ls [v]) := by
  subst hQ
  subst hv
  exact W.widen hc hs (W.aret hx hb hr (Or.inl ⟨C, rfl⟩) (va_rf_or v0) (fun t ht hW => ⟨⟨v0, M, rfl, hp, by show mG D b M t t.heap; rw [ht]; exact hG.moved hW.alike⟩, hS.F ht⟩) hS.2.2 hdg hlk)
variable {y : MethodName} {bytes : ByteArray} {maxL n index : Nat} {ret : Option FieldType} {ws : List Cond} {rm : Room} {Qc : Array Value → State → Outcome → State → Prop} {C : String} {As : List Value} {av : List Value}
theorem m_runV (S : CallFix p m c cc nL s args Ts own) (hM : Met l y ws rm (mPc av D b M) Qc mc ms (mF b)) (cw : CallW R s args own C index y bytes maxL ret ws rm mc ms n) (K : mS D s) (hG : mG D b M s H) {ci : Nat} {fs : List Value} {T : u_T} {N : Nat} (ha : M a = some (.inr (ci, fs))) (hc : vwCl[ci]? = some (C, T, N)) (hav : av = .ref a :: As) (hn : As.length = n) (hsize : ls.size = nL) (hstack : st0 = As.reverse ++ .ref a :: rest) (hW : (rest.map fun v => v.category).sum ≤ 8) (hdg : decode cc pc = .ok (.invokevirtual index, 3)) (hf : cells + mc ≤ R.cells ∧ slots + ms ≤ R.slots) :
    va_Run p l e R s m args below meth c H locs cells slots mc ms (F0 m pc ls st0) rest (Qc (Value.ref a :: As).toArray) (mF b) := by
  subst hav
  exact va_runV S hM cw ⟨mPc.blind, va_recv K.1 (mP1 hG ha) (q0 := 0) hc rfl, fun U hU hWm => ⟨rfl, K.warm hWm, by rw [hU]; exact hG.moved hWm.alike⟩⟩ rfl hn hsize hstack (lv_room hW) hdg hf
theorem m_runS (S : CallFix p m c cc nL s args Ts own) (hM : Met l y ws rm (mPc As D b M) Qc mc ms (mF b)) (cw : CallB R s args own index y bytes maxL ret ws rm mc ms n ∧ (Cond.static y).before args s = true) (K : mS D s) (hG : mG D b M s H) (hn : As.length = n) (hsize : ls.size = nL) (hstack : st0 = As.reverse ++ rest) (hW : (rest.map fun v => v.category).sum ≤ 8) (hdg : decode cc pc = .ok (.invokestatic index, 3)) (hf : cells + mc ≤ R.cells ∧ slots + ms ≤ R.slots) :
    va_Run p l e R s m args below meth c H locs cells slots mc ms (F0 m pc ls st0) rest (Qc As.toArray) (mF b) :=
  va_runS S hM cw ⟨mPc.blind, fun U hU hWm => ⟨rfl, K.warm hWm, by rw [hU]; exact hG.moved hWm.alike⟩⟩ rfl hn hsize hstack (lv_room hW) hdg hf
theorem m_runSN {host : String} (S : CallFix p m c cc nL s args Ts own) (hM : Met l y ws rm (mPc As D b M) Qc mc ms (mF b)) (cw : va_CN R s args own index y host bytes maxL ret ws rm mc ms n ∧ (Cond.static y).before args s = true ∧ True) (K : mS D s) (hG : mG D b M s H) (hn : As.length = n) (hsize : ls.size = nL) (hstack : st0 = As.reverse ++ rest) (hW : (rest.map fun v => v.category).sum ≤ 8) (hdg : decode cc pc = .ok (.invokestatic index, 3)) (hf : cells + mc ≤ R.cells ∧ slots + ms ≤ R.slots) :
    va_Run p l e R s m args below meth c H locs cells slots mc ms (F0 m pc ls st0) rest (Qc As.toArray) (mF b) :=
  va_runSN S hM cw ⟨mPc.blind, fun U hU hWm => ⟨rfl, K.warm hWm, by rw [hU]; exact hG.moved hWm.alike⟩⟩ rfl hn hsize hstack (lv_room hW) hdg hf
theorem m_runI (S : CallFix p m c cc nL s args Ts own) (hM : Met l y ws rm (mPc av D b M) Qc mc ms (mF b)) (cw : CallB R s args own index y bytes maxL none ws rm mc ms n ∧ y.name = "<init>" ∧ (Cond.instanceMethod y).before args s = true) (K : mS D s) (hG : mG D b M s H) (hav : av = .ref a :: As) (hn : As.length = n) (hsize : ls.size = nL) (hstack : st0 = As.reverse ++ .ref a :: rest) (hW : (rest.map fun v => v.category).sum ≤ 8) (hdg : decode cc pc = .ok (.invokespecial index, 3)) (hf : cells + mc ≤ R.cells ∧ slots + ms ≤ R.slots) :
    va_Run p l e R s m args below meth c H locs cells slots mc ms (F0 m pc ls st0) rest (Qc (Value.ref a :: As).toArray) (mF b) := by
  subst hav
  exact va_runI S hM cw ⟨mPc.blind, fun U hU hWm => ⟨rfl, K.warm hWm, by rw [hU]; exact hG.moved hWm.alike⟩⟩ rfl hn hsize hstack (lv_room hW) hdg hf
variable {ar : Array Value}
theorem m_calli {post : Int32 → mM → Prop} (hr : va_Run p l e R s m args below meth c H locs cells slots mc ms (F0 m pc ls st0) rest (mQi D b post ar) (mF b)) (hS : va_S (mF b) H0 H locs)
    (kk : ∀ (r : Int32) (M1 : mM) (H1 : Heap) (locs1 : List Loc), post r M1 → mG D b M1 s H1 → va_S (mF b) H0 H1 locs1 → W p l e R s m args below meth c H1 locs1 (cells + mc) (slots + ms) Q (F0 m (pc + 3) ls (.int r :: rest))) : W p l e R s m args below meth c H locs cells slots Q (F0 m pc ls st0) :=
  va_calli hr hS (fun q _ h => h) (fun q h => h) (fun r u t H1 locs1 ht hvm hw hB hz hk hS1 => kk r u H1 locs1 hw (by rw [← ht]; exact hB.moved hvm.symm) hS1)
theorem m_calll {post : Int64 → mM → Prop} (hr : va_Run p l e R s m args below meth c H locs cells slots mc ms (F0 m pc ls st0) rest (mQl D b post ar) (mF b)) (hS : va_S (mF b) H0 H locs)
    (kk : ∀ (r : Int64) (M1 : mM) (H1 : Heap) (locs1 : List Loc), post r M1 → mG D b M1 s H1 → va_S (mF b) H0 H1 locs1 → W p l e R s m args below meth c H1 locs1 (cells + mc) (slots + ms) Q (F0 m (pc + 3) ls (.long r :: rest))) : W p l e R s m args below meth c H locs cells slots Q (F0 m pc ls st0) :=
  va_calll hr hS (fun q _ h => h) (fun q h => h) (fun r u t H1 locs1 ht hvm hw hB hz hk hS1 => kk r u H1 locs1 hw (by rw [← ht]; exact hB.moved hvm.symm) hS1)
theorem m_callv {post : mM → Prop} (hr : va_Run p l e R s m args below meth c H locs cells slots mc ms (F0 m pc ls st0) rest (mQv D b post ar) (mF b)) (hS : va_S (mF b) H0 H locs)
    (kk : ∀ (M1 : mM) (H1 : Heap) (locs1 : List Loc), post M1 → mG D b M1 s H1 → va_S (mF b) H0 H1 locs1 → W p l e R s m args below meth c H1 locs1 (cells + mc) (slots + ms) Q (F0 m (pc + 3) ls rest)) : W p l e R s m args below meth c H locs cells slots Q (F0 m pc ls st0) :=
  va_callv hr hS (fun q _ h => h) (fun q h => h) (fun u t H1 locs1 ht hvm hw hB hz hk hS1 => kk u H1 locs1 hw (by rw [← ht]; exact hB.moved hvm.symm) hS1)
theorem m_callq {post : Option Nat → mM → Prop} (hr : va_Run p l e R s m args below meth c H locs cells slots mc ms (F0 m pc ls st0) rest (mQq D b post ar) (mF b)) (hS : va_S (mF b) H0 H locs)
    (kk : ∀ (r : Option Nat) (M1 : mM) (H1 : Heap) (locs1 : List Loc), post r M1 → mG D b M1 s H1 → va_S (mF b) H0 H1 locs1 → W p l e R s m args below meth c H1 locs1 (cells + mc) (slots + ms) Q (F0 m (pc + 3) ls (va_rf r :: rest))) : W p l e R s m args below meth c H locs cells slots Q (F0 m pc ls st0) :=
  va_callq hr hS (fun q _ h => h) (fun q h => h) (fun r u t H1 locs1 ht hvm hw hB hz hk hS1 => kk r u H1 locs1 hw (by rw [← ht]; exact hB.moved hvm.symm) hS1)
/-- answers and maps by a formula -/
def fI (z : Int) (M : mM) : Int32 → mM → Prop := fun r M1 => r = iI z ∧ M1 = M
def fL (q : Nat → Bool) (M : mM) : Int64 → mM → Prop := fun r M1 => r = bO q ∧ M1 = M
def fV (M : mM) : mM → Prop := fun M1 => M1 = M
def fQ (y : Option Nat) (M : mM) : Option Nat → mM → Prop := fun r M1 => r = y ∧ M1 = M
theorem m_callfi {z : Int} {M2 : mM} (hr : va_Run p l e R s m args below meth c H locs cells slots mc ms (F0 m pc ls st0) rest (mQi D b (fI z M2) ar) (mF b)) (hS : va_S (mF b) H0 H locs)
    (kk : ∀ (H1 : Heap) (locs1 : List Loc), mG D b M2 s H1 → va_S (mF b) H0 H1 locs1 → W p l e R s m args below meth c H1 locs1 (cells + mc) (slots + ms) Q (F0 m (pc + 3) ls (.int (iI z) :: rest))) : W p l e R s m args below meth c H locs cells slots Q (F0 m pc ls st0) :=
  m_calli hr hS (fun r M1 H1 locs1 hw hG hS1 => by rw [hw.1]; rw [hw.2] at hG; exact kk H1 locs1 hG hS1)
theorem m_callfl {z : Nat → Bool} {M2 : mM} (hr : va_Run p l e R s m args below meth c H locs cells slots mc ms (F0 m pc ls st0) rest (mQl D b (fL z M2) ar) (mF b)) (hS : va_S (mF b) H0 H locs)
    (kk : ∀ (H1 : Heap) (locs1 : List Loc), mG D b M2 s H1 → va_S (mF b) H0 H1 locs1 → W p l e R s m args below meth c H1 locs1 (cells + mc) (slots + ms) Q (F0 m (pc + 3) ls (.long (bO z) :: rest))) : W p l e R s m args below meth c H locs cells slots Q (F0 m pc ls st0) :=
  m_calll hr hS (fun r M1 H1 locs1 hw hG hS1 => by rw [hw.1]; rw [hw.2] at hG; exact kk H1 locs1 hG hS1)
theorem m_callfv {M2 : mM} (hr : va_Run p l e R s m args below meth c H locs cells slots mc ms (F0 m pc ls st0) rest (mQv D b (fV M2) ar) (mF b)) (hS : va_S (mF b) H0 H locs)
    (kk : ∀ (H1 : Heap) (locs1 : List Loc), mG D b M2 s H1 → va_S (mF b) H0 H1 locs1 → W p l e R s m args below meth c H1 locs1 (cells + mc) (slots + ms) Q (F0 m (pc + 3) ls rest)) : W p l e R s m args below meth c H locs cells slots Q (F0 m pc ls st0) :=
  m_callv hr hS (fun M1 H1 locs1 hw hG hS1 => by rw [show M1 = M2 from hw] at hG; exact kk H1 locs1 hG hS1)
theorem m_callfq {y : Option Nat} {M2 : mM} (hr : va_Run p l e R s m args below meth c H locs cells slots mc ms (F0 m pc ls st0) rest (mQq D b (fQ y M2) ar) (mF b)) (hS : va_S (mF b) H0 H locs)
    (kk : ∀ (H1 : Heap) (locs1 : List Loc), mG D b M2 s H1 → va_S (mF b) H0 H1 locs1 → W p l e R s m args below meth c H1 locs1 (cells + mc) (slots + ms) Q (F0 m (pc + 3) ls (va_rf y :: rest))) : W p l e R s m args below meth c H locs cells slots Q (F0 m pc ls st0) :=
  m_callq hr hS (fun r M1 H1 locs1 hw hG hS1 => by rw [hw.1]; rw [hw.2] at hG; exact kk H1 locs1 hG hS1)
/-- Math.max, Math.min -/
theorem m_mmax (hx : p.tables.exec = Jvm.exec) (hb : c.code = cc) (hml : c.maxLocals = ls.size) (hts : ∀ w ∈ Ts, w.before args s = true) (hown : s.vm.findClass own = some m.cls) (hlink : (Cond.methodLink own index Lib.Math.max.name) ∈ Ts) (hstat : (Cond.static Lib.Math.max.name) ∈ Ts) (hini : (Cond.initialized "java/lang/Math") ∈ Ts) (hcode : (Cond.code Lib.Math.max.name Lib.Math.max.code 2 (some .int)) ∈ Ts)
    (hframes : 1 ≤ R.frames) (hlocals : (rest.map fun v => v.category).sum + 13 ≤ R.locals) (hc : cells ≤ R.cells) (hs : slots ≤ R.slots) {x y : Int} (h1 : rg x) (h2 : rg y) (hdg : decode cc pc = .ok (.invokestatic index, 3))
    (kk : W p l e R s m args below meth c H locs cells slots Q (F0 m (pc + 3) ls (.int (iI (max x y)) :: rest))) : W p l e R s m args below meth c H locs cells slots Q (F0 m pc ls (.int (iI y) :: .int (iI x) :: rest)) := by
  refine va_mmax hx hb hml hown (hts _ hlink) (hts _ hstat) (hts _ hini) (hts _ hcode) hframes hlocals hc hs hdg ?_
  have e1 : (if iI x < iI y then iI y else iI x) = iI (max x y) := by
    by_cases h : x < y
    · rw [if_pos ((iI_lt h1 h2).mpr h), show max x y = y by omega]
    · rw [if_neg (fun z => h ((iI_lt h1 h2).mp z)), show max x y = x by omega]
  rw [e1]
  exact kk
theorem m_mmin (hx : p.tables.exec = Jvm.exec) (hb : c.code = cc) (hml : c.maxLocals = ls.size) (hts : ∀ w ∈ Ts, w.before args s = true) (hown : s.vm.findClass own = some m.cls) (hlink : (Cond.methodLink own index Lib.Math.min.name) ∈ Ts) (hstat : (Cond.static Lib.Math.min.name) ∈ Ts) (hini : (Cond.initialized "java/lang/Math") ∈ Ts) (hcode : (Cond.code Lib.Math.min.name Lib.Math.min.code 2 (some .int)) ∈ Ts)
    (hframes : 1 ≤ R.frames) (hlocals : (rest.map fun v => v.category).sum + 13 ≤ R.locals) (hc : cells ≤ R.cells) (hs : slots ≤ R.slots) {x y : Int} (h1 : rg x) (h2 : rg y) (hdg : decode cc pc = .ok (.invokestatic index, 3))
    (kk : W p l e R s m args below meth c H locs cells slots Q (F0 m (pc + 3) ls (.int (iI (min x y)) :: rest))) : W p l e R s m args below meth c H locs cells slots Q (F0 m pc ls (.int (iI y) :: .int (iI x) :: rest)) := by
  refine va_mmin hx hb hml hown (hts _ hlink) (hts _ hstat) (hts _ hini) (hts _ hcode) hframes hlocals hc hs hdg ?_
  have e1 : (if iI y < iI x then iI y else iI x) = iI (min x y) := by
    by_cases h : y < x
    · rw [if_pos ((iI_lt h2 h1).mpr h), show min x y = y by omega]
    · rw [if_neg (fun z => h ((iI_lt h2 h1).mp z)), show min x y = x by omega]
  rw [e1]
  exact kk
/-- the same number, said otherwise -/
theorem m_top {x y : Int} (h : x = y) (k : W p l e R s m args below meth c H locs cells slots Q (F0 m pc ls (.int (iI y) :: rest))) : W p l e R s m args below meth c H locs cells slots Q (F0 m pc ls (.int (iI x) :: rest)) := by rw [h]; exact k
theorem m_topl {x y : Int64} (h : x = y) (k : W p l e R s m args below meth c H locs cells slots Q (F0 m pc ls (.long y :: rest))) : W p l e R s m args below meth c H locs cells slots Q (F0 m pc ls (.long x :: rest)) := by rw [h]; exact k
/-- switches -/
theorem m_tabOut (hx : p.tables.exec = Jvm.exec) (hb : c.code = cc) {dflt lo hi : Int} {offs : Array Int} {len : Nat} {x : Int} {tgt : Nat} (hdg : decode cc pc = .ok (.tableswitch dflt lo hi offs, len)) (h0 : rg x) (h : x < lo ∨ hi < x) (ht : (pc : Int) + dflt = (tgt : Int))
    (k : W p l e R s m args below meth c H locs cells slots Q (F0 m tgt ls rest)) : W p l e R s m args below meth c H locs cells slots Q (F0 m pc ls (.int (iI x) :: rest)) := lv_tableOut hx hb hdg (by rw [iI_int h0]; exact h) ht k
theorem m_tabIn (hx : p.tables.exec = Jvm.exec) (hb : c.code = cc) {dflt lo hi : Int} {offs : Array Int} {len : Nat} {x : Int} {off : Int} {tgt : Nat} (hdg : decode cc pc = .ok (.tableswitch dflt lo hi offs, len)) (h0 : rg x) (h1 : ¬ x < lo) (h2 : ¬ hi < x) (ho : offs[(x - lo).toNat]? = some off) (ht : (pc : Int) + off = (tgt : Int))
    (k : W p l e R s m args below meth c H locs cells slots Q (F0 m tgt ls rest)) : W p l e R s m args below meth c H locs cells slots Q (F0 m pc ls (.int (iI x) :: rest)) := lv_tableIn hx hb hdg (by rw [iI_int h0]; exact h1) (by rw [iI_int h0]; exact h2) (by rw [iI_int h0]; exact ho) ht k
theorem m_lookup (hx : p.tables.exec = Jvm.exec) (hb : c.code = cc) {dflt : Int} {ps : Array (Int × Int)} {len : Nat} {x : Int} {off : Int} {tgt : Nat} (hdg : decode cc pc = .ok (.lookupswitch dflt ps, len)) (hp : (ps.toList.zip (ps.toList.drop 1)).all (fun (a, next) => a.1 < next.1) = true) (h0 : rg x) (ho : Op.lookupswitch.offset ps.toList dflt x = off) (ht : (pc : Int) + off = (tgt : Int))
    (k : W p l e R s m args below meth c H locs cells slots Q (F0 m tgt ls rest)) : W p l e R s m args below meth c H locs cells slots Q (F0 m pc ls (.int (iI x) :: rest)) := lv_lookup hx hb hdg hp (by rw [iI_int h0]; exact ho) ht k
end MC
end
section
theorem bNat_bit (q : Nat → Bool) (n i : Nat) : (bNat q n).testBit i = (decide (i < n) && q i) := by
  induction n with
  | zero => simp [bNat]
  | succ n ih =>
    rw [bNat, Nat.testBit_or, ih]
    by_cases hi : i = n
    · subst hi
      by_cases hq : q i = true
      · rw [if_pos hq, Nat.testBit_two_pow]; simp [hq]
      · rw [if_neg hq]; simp [hq]
    · have e2 : (if q n = true then 2 ^ n else 0).testBit i = false := by
        split
        · rw [Nat.testBit_two_pow]; simp; omega
        · simp
      rw [e2, Bool.or_false]
      congr 1
      simp
      omega
theorem bO_bit (q : Nat → Bool) {i : Nat} (h : i < 64) : (bO q).toBitVec.getLsbD i = q i := by
  show (BitVec.ofNat 64 (bNat q 64)).getLsbD i = q i
  rw [BitVec.getLsbD_ofNat, bNat_bit]
  simp [h]
theorem bO_ext {x : Int64} {q : Nat → Bool} (h : ∀ i, i < 64 → x.toBitVec.getLsbD i = q i) : x = bO q := by
  apply Int64.toBitVec_inj.mp
  apply BitVec.eq_of_getLsbD_eq
  intro i hi
  rw [h i hi, bO_bit q hi]
theorem bO_cong {q r : Nat → Bool} (h : ∀ i, i < 64 → q i = r i) : bO q = bO r := bO_ext (fun i hi => by rw [bO_bit q hi, h i hi])
theorem bO_eq {q r : Nat → Bool} : bO q = bO r ↔ ∀ i, i < 64 → q i = r i := by
  constructor
  · intro h i hi
    rw [← bO_bit q hi, ← bO_bit r hi, h]
  · exact bO_cong
theorem bO_0 : (0 : Int64) = bO (fun _ => false) := by decide +kernel
theorem bO_1 : (1 : Int64) = bO (fun y => decide (y = 0)) := by decide +kernel
theorem bO_m1 : (-1 : Int64) = bO (fun _ => true) := by decide +kernel
theorem bO_and (q r : Nat → Bool) : bO q &&& bO r = bO (fun y => q y && r y) := bO_ext (fun i hi => by rw [Int64.toBitVec_and, BitVec.getLsbD_and, bO_bit q hi, bO_bit r hi])
theorem bO_or (q r : Nat → Bool) : bO q ||| bO r = bO (fun y => q y || r y) := bO_ext (fun i hi => by rw [Int64.toBitVec_or, BitVec.getLsbD_or, bO_bit q hi, bO_bit r hi])
theorem bO_not (q : Nat → Bool) : bO q ^^^ bO (fun _ => true) = bO (fun y => !q y) := bO_ext (fun i hi => by rw [Int64.toBitVec_xor, BitVec.getLsbD_xor, bO_bit q hi, bO_bit _ hi]; simp)
theorem sh_c : ∀ k, k < 64 → ((iI (k : Nat)).toInt64 &&& 63).toBitVec.smod 64 = BitVec.ofNat 64 k := by decide +kernel
theorem sh_u : ∀ k, k < 64 → ((iI (k : Nat)).toInt64.toUInt64 &&& Int64.toUInt64 63) = UInt64.ofNat k := by decide +kernel
theorem bO_shl (q : Nat → Bool) {k : Nat} (hk : k < 64) : bO q <<< ((iI (k : Int)).toInt64 &&& 63) = bO (fun y => decide (k ≤ y) && q (y - k)) := by
  refine bO_ext (fun i hi => ?_)
  rw [Int64.toBitVec_shiftLeft, sh_c k hk, BitVec.shiftLeft_eq', BitVec.toNat_ofNat, Nat.mod_eq_of_lt (by omega), BitVec.getLsbD_shiftLeft]
  by_cases h : k ≤ i
  · rw [bO_bit q (show i - k < 64 by omega)]
    simp [hi, h]
  · simp [h]
    try omega
theorem bO_shr (q : Nat → Bool) {k : Nat} (hk : k < 64) : ((bO q).toUInt64 >>> ((iI (k : Int)).toInt64.toUInt64 &&& Int64.toUInt64 63)).toInt64 = bO (fun y => decide (y + k < 64) && q (y + k)) := by
  refine bO_ext (fun i hi => ?_)
  rw [sh_u k hk]
  show ((bO q).toUInt64 >>> UInt64.ofNat k).toBitVec.getLsbD i = _
  rw [UInt64.toBitVec_shiftRight]
  have e1 : ((UInt64.ofNat k).toBitVec % 64).toNat = k := by
    show ((BitVec.ofNat 64 k) % 64).toNat = k
    rw [BitVec.toNat_umod, BitVec.toNat_ofNat]
    show k % 2 ^ 64 % 64 = k
    omega
  rw [BitVec.ushiftRight_eq', e1, BitVec.getLsbD_ushiftRight]
  show (bO q).toBitVec.getLsbD (k + i) = _
  by_cases h : k + i < 64
  · rw [bO_bit q h, Nat.add_comm k i]
    simp
    omega
  · rw [BitVec.getLsbD_of_ge _ _ (by omega)]
    simp
    omega
section MB
variable {p : Program} {l : Launch} {e : Env} {R : Room} {s : State} {m : MethodId} {args : Array Value} {below : List Frame} {meth : Method} {c : Code} {H : Heap} {locs : List Loc} {cells slots : Nat} {Q : State → Prop}
variable {cc : ByteArray} {pc : Nat} {ls : Array Slot} {rest : List Value} {q r : Nat → Bool} {D : va_G} {b : Nat} {M : mM} {H0 : Heap} {Ts : List Cond}
theorem m_land (hx : p.tables.exec = Jvm.exec) (hb : c.code = cc) (hdg : decode cc pc = .ok (.land, 1)) (k : W p l e R s m args below meth c H locs cells slots Q (F0 m (pc + 1) ls (.long (bO (fun y => q y && r y)) :: rest))) : W p l e R s m args below meth c H locs cells slots Q (F0 m pc ls (.long (bO r) :: .long (bO q) :: rest)) := lv_land hx hb hdg (by rw [bO_and]; exact k)
theorem m_lor (hx : p.tables.exec = Jvm.exec) (hb : c.code = cc) (hdg : decode cc pc = .ok (.lor, 1)) (k : W p l e R s m args below meth c H locs cells slots Q (F0 m (pc + 1) ls (.long (bO (fun y => q y || r y)) :: rest))) : W p l e R s m args below meth c H locs cells slots Q (F0 m pc ls (.long (bO r) :: .long (bO q) :: rest)) := lv_lor hx hb hdg (by rw [bO_or]; exact k)
theorem m_lnot (hx : p.tables.exec = Jvm.exec) (hb : c.code = cc) (hdg : decode cc pc = .ok (.lxor, 1)) (k : W p l e R s m args below meth c H locs cells slots Q (F0 m (pc + 1) ls (.long (bO (fun y => !q y)) :: rest))) : W p l e R s m args below meth c H locs cells slots Q (F0 m pc ls (.long (bO (fun _ => true)) :: .long (bO q) :: rest)) := lv_lxor hx hb hdg (by rw [bO_not]; exact k)
theorem m_lshl (hx : p.tables.exec = Jvm.exec) (hb : c.code = cc) {z : Int} (j : Nat) (hz : z = (j : Int)) (hj : j < 64) (hdg : decode cc pc = .ok (.lshl, 1)) (k : W p l e R s m args below meth c H locs cells slots Q (F0 m (pc + 1) ls (.long (bO (fun y => decide (j ≤ y) && q (y - j))) :: rest))) : W p l e R s m args below meth c H locs cells slots Q (F0 m pc ls (.int (iI z) :: .long (bO q) :: rest)) := lv_lshl hx hb hdg (by rw [hz]; exact bO_shl q hj) k
theorem m_lushr (hx : p.tables.exec = Jvm.exec) (hb : c.code = cc) {z : Int} (j : Nat) (hz : z = (j : Int)) (hj : j < 64) (hdg : decode cc pc = .ok (.lushr, 1)) (k : W p l e R s m args below meth c H locs cells slots Q (F0 m (pc + 1) ls (.long (bO (fun y => decide (y + j < 64) && q (y + j))) :: rest))) : W p l e R s m args below meth c H locs cells slots Q (F0 m pc ls (.int (iI z) :: .long (bO q) :: rest)) := lv_lushr hx hb hdg (by rw [hz]; exact bO_shr q hj) k
/-- lcmp, then a test whether they are the same -/
theorem m_lcmp_eq (hx : p.tables.exec = Jvm.exec) (hb : c.code = cc) {off : Int} {tgt : Nat} (hd1 : decode cc pc = .ok (.lcmp, 1)) (hd2 : decode cc (pc + 1) = .ok (.ifCond .eq off, 3)) (ht : ((pc + 1 : Nat) : Int) + off = (tgt : Int))
    (kt : (∀ i, i < 64 → q i = r i) → W p l e R s m args below meth c H locs cells slots Q (F0 m tgt ls rest)) (kf : ¬ (∀ i, i < 64 → q i = r i) → W p l e R s m args below meth c H locs cells slots Q (F0 m (pc + 1 + 3) ls rest)) : W p l e R s m args below meth c H locs cells slots Q (F0 m pc ls (.long (bO r) :: .long (bO q) :: rest)) :=
  W.lcmp hx hb hd1 (lv_if_eq hx hb hd2 ht (fun h => kt (bO_eq.mp ((lg_cmp_eq _ _).mp h))) (fun h => kf (fun z => h ((lg_cmp_eq _ _).mpr (bO_eq.mpr z)))))
theorem m_lcmp_ne (hx : p.tables.exec = Jvm.exec) (hb : c.code = cc) {off : Int} {tgt : Nat} (hd1 : decode cc pc = .ok (.lcmp, 1)) (hd2 : decode cc (pc + 1) = .ok (.ifCond .ne off, 3)) (ht : ((pc + 1 : Nat) : Int) + off = (tgt : Int))
    (kt : ¬ (∀ i, i < 64 → q i = r i) → W p l e R s m args below meth c H locs cells slots Q (F0 m tgt ls rest)) (kf : (∀ i, i < 64 → q i = r i) → W p l e R s m args below meth c H locs cells slots Q (F0 m (pc + 1 + 3) ls rest)) : W p l e R s m args below meth c H locs cells slots Q (F0 m pc ls (.long (bO r) :: .long (bO q) :: rest)) :=
  W.lcmp hx hb hd1 (lv_if_ne hx hb hd2 ht (fun h => kt (fun z => h ((lg_cmp_eq _ _).mpr (bO_eq.mpr z)))) (fun h => kf (bO_eq.mp ((lg_cmp_eq _ _).mp h))))
theorem mset_skip {M : mM} {a y : Nat} {v v1 w : mE} (h : a ≠ y) : mset (mset (mset M a v) y w) a v1 = mset (mset M a v1) y w := by
  funext j
  by_cases h1 : j = a
  · subst h1; simp [mset, h]
  · by_cases h2 : j = y
    · subst h2; simp [mset, h1]
    · simp [mset, h1, h2]
theorem mfresh {M : mM} {a x : Nat} {v : mE} (h : M a = none) (hx : M x = some v) : x ≠ a := fun z => by subst z; rw [h] at hx; cases hx
/-- new arrays of numbers -/
theorem m_newa_i (hx : p.tables.exec = Jvm.exec) (hb : c.code = cc) (hts : ∀ w ∈ Ts, w.before args s = true) (harr : (Cond.arrayClass .int) ∈ Ts) (hG : mG D b M s H) (hS : va_S (mF b) H0 H locs) {z : Int} {N' : Nat} (hz : z = (N' : Int)) (hz2 : N' < 100000) (hcells : cells + 1 ≤ R.cells) (hslots : slots + N' ≤ R.slots) (hdg : decode cc pc = .ok (.newarray .int, 2))
    (kk : ∀ (q : Nat) (H1 : Heap), M q = none → mG D b (mset M q (aI N' (fun _ => 0))) s H1 → va_S (mF b) H0 H1 locs → W p l e R s m args below meth c H1 locs (cells + 1) (slots + N') Q (F0 m (pc + 2) ls (.ref q :: rest))) : W p l e R s m args below meth c H locs cells slots Q (F0 m pc ls (.int (iI z) :: rest)) :=
  m_newa (atype := .int) hx hb hts harr (ty := .int) rfl (fun _ h => h) hG hS (fun _ => rfl) hz (by omega) (by show N' * 4 ≤ _; omega) hcells hslots hdg kk
theorem m_newa_l (hx : p.tables.exec = Jvm.exec) (hb : c.code = cc) (hts : ∀ w ∈ Ts, w.before args s = true) (harr : (Cond.arrayClass .long) ∈ Ts) (hG : mG D b M s H) (hS : va_S (mF b) H0 H locs) {z : Int} {N' : Nat} (hz : z = (N' : Int)) (hz2 : N' < 100000) (hcells : cells + 1 ≤ R.cells) (hslots : slots + N' ≤ R.slots) (hdg : decode cc pc = .ok (.newarray .long, 2))
    (kk : ∀ (q : Nat) (H1 : Heap), M q = none → mG D b (mset M q (aL N' (fun _ _ => false))) s H1 → va_S (mF b) H0 H1 locs → W p l e R s m args below meth c H1 locs (cells + 1) (slots + N') Q (F0 m (pc + 2) ls (.ref q :: rest))) : W p l e R s m args below meth c H locs cells slots Q (F0 m pc ls (.int (iI z) :: rest)) :=
  m_newa (atype := .long) hx hb hts harr (ty := .long) rfl (fun _ h => h) hG hS (fun cA => by rw [vp_cell_l]; exact congrArg (arrV cA N') (funext fun _ => congrArg Value.long bO_0.symm)) hz (by omega) (by show N' * 8 ≤ _; omega) hcells hslots hdg kk
theorem m_newa_z (hx : p.tables.exec = Jvm.exec) (hb : c.code = cc) (hts : ∀ w ∈ Ts, w.before args s = true) (harr : (Cond.arrayClass .boolean) ∈ Ts) (hG : mG D b M s H) (hS : va_S (mF b) H0 H locs) {z : Int} {N' : Nat} (hz : z = (N' : Int)) (hz2 : N' < 100000) (hcells : cells + 1 ≤ R.cells) (hslots : slots + N' ≤ R.slots) (hdg : decode cc pc = .ok (.newarray .boolean, 2))
    (kk : ∀ (q : Nat) (H1 : Heap), M q = none → mG D b (mset M q (aZ N' (fun _ => false))) s H1 → va_S (mF b) H0 H1 locs → W p l e R s m args below meth c H1 locs (cells + 1) (slots + N') Q (F0 m (pc + 2) ls (.ref q :: rest))) : W p l e R s m args below meth c H locs cells slots Q (F0 m pc ls (.int (iI z) :: rest)) :=
  m_newa (atype := .boolean) hx hb hts harr (ty := .boolean) rfl (fun _ h => h) hG hS (fun _ => rfl) hz (by omega) (by show N' * 1 ≤ _; omega) hcells hslots hdg kk
end MB
/-- a truth as a number -/
noncomputable def tf (P : Prop) : Int := @ite Int P (Classical.propDecidable P) 1 0
theorem tf_t {P : Prop} (h : P) : tf P = 1 := by unfold tf; rw [if_pos h]
theorem tf_f {P : Prop} (h : ¬ P) : tf P = 0 := by unfold tf; rw [if_neg h]
theorem tf_cong {P R : Prop} (h : P ↔ R) : tf P = tf R := by rw [show P = R from propext h]
theorem tf_if {P : Prop} [Decidable P] : (if P then (1 : Int) else 0) = tf P := by
  by_cases h : P
  · rw [if_pos h, tf_t h]
  · rw [if_neg h, tf_f h]
theorem iI_tf {P : Prop} : iI (tf P) = iI 0 ∨ iI (tf P) = iI 1 := by
  rcases Classical.em P with h | h
  · rw [tf_t h]; exact Or.inr rfl
  · rw [tf_f h]; exact Or.inl rfl
section MT
variable {p : Program} {l : Launch} {e : Env} {R : Room} {s : State} {m : MethodId} {args : Array Value} {below : List Frame} {meth : Method} {c : Code} {H : Heap} {locs : List Loc} {cells slots : Nat} {Q : State → Prop}
variable {cc : ByteArray} {pc : Nat} {ls : Array Slot} {rest : List Value} {P : Prop}
theorem m_ift_eq (hx : p.tables.exec = Jvm.exec) (hb : c.code = cc) {off : Int} {tgt : Nat} (hdg : decode cc pc = .ok (.ifCond .eq off, 3)) (ht : (pc : Int) + off = (tgt : Int))
    (kt : ¬ P → W p l e R s m args below meth c H locs cells slots Q (F0 m tgt ls rest)) (kf : P → W p l e R s m args below meth c H locs cells slots Q (F0 m (pc + 3) ls rest)) : W p l e R s m args below meth c H locs cells slots Q (F0 m pc ls (.int (iI (tf P)) :: rest)) := @m_ifb_eq _ _ _ _ _ _ _ _ _ _ _ _ _ _ _ _ _ _ _ hx hb P (Classical.propDecidable P) off tgt hdg ht kt kf
theorem m_ift_ne (hx : p.tables.exec = Jvm.exec) (hb : c.code = cc) {off : Int} {tgt : Nat} (hdg : decode cc pc = .ok (.ifCond .ne off, 3)) (ht : (pc : Int) + off = (tgt : Int))
    (kt : P → W p l e R s m args below meth c H locs cells slots Q (F0 m tgt ls rest)) (kf : ¬ P → W p l e R s m args below meth c H locs cells slots Q (F0 m (pc + 3) ls rest)) : W p l e R s m args below meth c H locs cells slots Q (F0 m pc ls (.int (iI (tf P)) :: rest)) := @m_ifb_ne _ _ _ _ _ _ _ _ _ _ _ _ _ _ _ _ _ _ _ hx hb P (Classical.propDecidable P) off tgt hdg ht kt kf
end MT
end
section
abbrev Bx (w x y z : Int) : mE := .inr (0, [.int (iI w), .int (iI x), .int (iI y), .int (iI z)])
abbrev sm (z : Int) : Prop := -100000 ≤ z ∧ z ≤ 100000
set_option maxHeartbeats 4000000 in
set_option maxRecDepth 100000 in
theorem c_X0_init (l : Launch) (D : va_G) (b : Nat) (M : mM) (h0 : Nat) (w x y z : Int) (h : M h0 = some (Bx 0 0 0 0)) : Met l yX0_init wsX0_init ({ frames := 1, cells := 0, slots := 0, locals := 12 } : Room) (mPc [.ref h0, .int (iI w), .int (iI x), .int (iI y), .int (iI z)] D b M) (mQv D b (fV (mset M h0 (Bx w x y z)))) 0 0 (mF b) := by
  refine m_met (cc := cX0_init) (maxL := 5) (ret := none) (by decide) rfl (Nat.le_of_ble_eq_true rfl) ?_
  intro p e s m args below meth c Q ls hx hb hml hr hts hown hlk hnm hQ K hG hS hl
  have hown : s.vm.findClass RX0 = some m.cls := hown
  have hl : lv_has ls 5 [(0, .ref h0), (1, .int (iI w)), (2, .int (iI x)), (3, .int (iI y)), (4, .int (iI z))] := hl
  refine lv_aload_n hx hb dX0_init_0 rfl (lv_at hl 0 rfl) ?_
  refine W.objInit hx hb hown (hts (.methodLink RX0 3 objectInit) (by decide +kernel)) (hts (.instanceMethod objectInit) (by decide +kernel)) (hts (.code objectInit ⟨#[0xb1]⟩ 1 none) (by decide +kernel)) rfl (by rw [hml]; exact hl.1) rfl dX0_init_1 (Nat.le_of_ble_eq_true rfl) (Nat.le_of_ble_eq_true rfl) ?_
  refine W.eq (g2 := F0 m 4 ls []) rfl ?_
  refine lv_aload_n hx hb dX0_init_4 rfl (lv_at hl 0 rfl) ?_
  refine lv_iload_n hx hb dX0_init_5 rfl (lv_at hl 1 rfl) ?_
  refine m_put (ci := 0) (v := .int (iI w)) (ty := .int) (fs' := [.int (iI w), .int (iI 0), .int (iI 0), .int (iI 0)]) (C := RX0) (T := TX0) (N := 4) hx hb hts (by decide +kernel) tyX0 tyX0_ok nmX0 hown K hG hS h rfl 0 (by decide) (by decide +kernel) rfl (by decide +kernel) rfl rfl (Nat.le_of_ble_eq_true rfl) rfl dX0_init_6 (fun H locs hG hS => ?_)
  have hG : mG D b (mset M h0 (.inr (0, [.int (iI w), .int (iI 0), .int (iI 0), .int (iI 0)]))) s H := hG
  refine lv_aload_n hx hb dX0_init_9 rfl (lv_at hl 0 rfl) ?_
  refine lv_iload_n hx hb dX0_init_10 rfl (lv_at hl 2 rfl) ?_
  refine m_put (ci := 0) (v := .int (iI x)) (ty := .int) (fs' := [.int (iI w), .int (iI x), .int (iI 0), .int (iI 0)]) (C := RX0) (T := TX0) (N := 4) hx hb hts (by decide +kernel) tyX0 tyX0_ok nmX0 hown K hG hS mset_self rfl 1 (by decide) (by decide +kernel) rfl (by decide +kernel) rfl rfl (Nat.le_of_ble_eq_true rfl) rfl dX0_init_11 (fun H locs hG hS => ?_)
  rw [mset_mset] at hG
  have hG : mG D b (mset M h0 (.inr (0, [.int (iI w), .int (iI x), .int (iI 0), .int (iI 0)]))) s H := hG
  refine lv_aload_n hx hb dX0_init_14 rfl (lv_at hl 0 rfl) ?_
  refine lv_iload_n hx hb dX0_init_15 rfl (lv_at hl 3 rfl) ?_
  refine m_put (ci := 0) (v := .int (iI y)) (ty := .int) (fs' := [.int (iI w), .int (iI x), .int (iI y), .int (iI 0)]) (C := RX0) (T := TX0) (N := 4) hx hb hts (by decide +kernel) tyX0 tyX0_ok nmX0 hown K hG hS mset_self rfl 2 (by decide) (by decide +kernel) rfl (by decide +kernel) rfl rfl (Nat.le_of_ble_eq_true rfl) rfl dX0_init_16 (fun H locs hG hS => ?_)
  rw [mset_mset] at hG
  have hG : mG D b (mset M h0 (.inr (0, [.int (iI w), .int (iI x), .int (iI y), .int (iI 0)]))) s H := hG
  refine lv_aload_n hx hb dX0_init_19 rfl (lv_at hl 0 rfl) ?_
  refine lv_iload hx hb dX0_init_20 (lv_at hl 4 rfl) ?_
  refine m_put (ci := 0) (v := .int (iI z)) (ty := .int) (fs' := [.int (iI w), .int (iI x), .int (iI y), .int (iI z)]) (C := RX0) (T := TX0) (N := 4) hx hb hts (by decide +kernel) tyX0 tyX0_ok nmX0 hown K hG hS mset_self rfl 3 (by decide) (by decide +kernel) rfl (by decide +kernel) rfl rfl (Nat.le_of_ble_eq_true rfl) rfl dX0_init_22 (fun H locs hG hS => ?_)
  rw [mset_mset] at hG
  have hG : mG D b (mset M h0 (.inr (0, [.int (iI w), .int (iI x), .int (iI y), .int (iI z)]))) s H := hG
  exact m_vret hx hb hr hlk hQ hG hS (Nat.le_of_ble_eq_true rfl) (Nat.le_of_ble_eq_true rfl) dX0_init_25 rfl

set_option maxHeartbeats 4000000 in
set_option maxRecDepth 100000 in
theorem c_X0_setToField (l : Launch) (D : va_G) (b : Nat) (M : mM) (h0 : Nat) (w x y z : Int) (h : M h0 = some (Bx w x y z)) : Met l yX0_setToField wsX0_setToField ({ frames := 0, cells := 0, slots := 0, locals := 0 } : Room) (mPc [.ref h0] D b M) (mQv D b (fV (mset M h0 (Bx 0 63 0 63)))) 0 0 (mF b) := by
  refine m_met (cc := cX0_setToField) (maxL := 1) (ret := none) (by decide) rfl (Nat.le_of_ble_eq_true rfl) ?_
  intro p e s m args below meth c Q ls hx hb hml hr hts hown hlk hnm hQ K hG hS hl
  have hown : s.vm.findClass RX0 = some m.cls := hown
  have hl : lv_has ls 1 [(0, .ref h0)] := hl
  refine lv_aload_n hx hb dX0_setToField_0 rfl (lv_at hl 0 rfl) ?_
  refine lv_iconst (v := iI 0) hx hb dX0_setToField_1 rfl ?_
  refine m_put (ci := 0) (v := .int (iI 0)) (ty := .int) (fs' := [.int (iI 0), .int (iI x), .int (iI y), .int (iI z)]) (C := RX0) (T := TX0) (N := 4) hx hb hts (by decide +kernel) tyX0 tyX0_ok nmX0 hown K hG hS h rfl 0 (by decide) (by decide +kernel) rfl (by decide +kernel) rfl rfl (Nat.le_of_ble_eq_true rfl) rfl dX0_setToField_2 (fun H locs hG hS => ?_)
  have hG : mG D b (mset M h0 (.inr (0, [.int (iI 0), .int (iI x), .int (iI y), .int (iI z)]))) s H := hG
  refine lv_aload_n hx hb dX0_setToField_5 rfl (lv_at hl 0 rfl) ?_
  refine lv_bipush (v := iI 63) hx hb dX0_setToField_6 (by decide) ?_
  refine m_put (ci := 0) (v := .int (iI 63)) (ty := .int) (fs' := [.int (iI 0), .int (iI 63), .int (iI y), .int (iI z)]) (C := RX0) (T := TX0) (N := 4) hx hb hts (by decide +kernel) tyX0 tyX0_ok nmX0 hown K hG hS mset_self rfl 1 (by decide) (by decide +kernel) rfl (by decide +kernel) rfl rfl (Nat.le_of_ble_eq_true rfl) rfl dX0_setToField_8 (fun H locs hG hS => ?_)
  rw [mset_mset] at hG
  have hG : mG D b (mset M h0 (.inr (0, [.int (iI 0), .int (iI 63), .int (iI y), .int (iI z)]))) s H := hG
  refine lv_aload_n hx hb dX0_setToField_11 rfl (lv_at hl 0 rfl) ?_
  refine lv_iconst (v := iI 0) hx hb dX0_setToField_12 rfl ?_
  refine m_put (ci := 0) (v := .int (iI 0)) (ty := .int) (fs' := [.int (iI 0), .int (iI 63), .int (iI 0), .int (iI z)]) (C := RX0) (T := TX0) (N := 4) hx hb hts (by decide +kernel) tyX0 tyX0_ok nmX0 hown K hG hS mset_self rfl 2 (by decide) (by decide +kernel) rfl (by decide +kernel) rfl rfl (Nat.le_of_ble_eq_true rfl) rfl dX0_setToField_13 (fun H locs hG hS => ?_)
  rw [mset_mset] at hG
  have hG : mG D b (mset M h0 (.inr (0, [.int (iI 0), .int (iI 63), .int (iI 0), .int (iI z)]))) s H := hG
  refine lv_aload_n hx hb dX0_setToField_16 rfl (lv_at hl 0 rfl) ?_
  refine lv_bipush (v := iI 63) hx hb dX0_setToField_17 (by decide) ?_
  refine m_put (ci := 0) (v := .int (iI 63)) (ty := .int) (fs' := [.int (iI 0), .int (iI 63), .int (iI 0), .int (iI 63)]) (C := RX0) (T := TX0) (N := 4) hx hb hts (by decide +kernel) tyX0 tyX0_ok nmX0 hown K hG hS mset_self rfl 3 (by decide) (by decide +kernel) rfl (by decide +kernel) rfl rfl (Nat.le_of_ble_eq_true rfl) rfl dX0_setToField_19 (fun H locs hG hS => ?_)
  rw [mset_mset] at hG
  have hG : mG D b (mset M h0 (.inr (0, [.int (iI 0), .int (iI 63), .int (iI 0), .int (iI 63)]))) s H := hG
  exact m_vret hx hb hr hlk hQ hG hS (Nat.le_of_ble_eq_true rfl) (Nat.le_of_ble_eq_true rfl) dX0_setToField_22 rfl

set_option maxHeartbeats 4000000 in
set_option maxRecDepth 100000 in
theorem c_X0_keepAround (l : Launch) (D : va_G) (b : Nat) (M : mM) (h0 : Nat) (w x y z : Int) (h : M h0 = some (Bx w x y z)) (hw : sm w) (hx0 : sm x) (hy0 : sm y) (hz0 : sm z) (u v r : Int) (hu : sm u) (hv : sm v) (hr0 : sm r) : Met l yX0_keepAround wsX0_keepAround ({ frames := 1, cells := 0, slots := 0, locals := 14 } : Room) (mPc [.ref h0, .int (iI u), .int (iI v), .int (iI r)] D b M) (mQv D b (fV (mset M h0 (Bx (max w (u - r)) (min x (u + r)) (max y (v - r)) (min z (v + r)))))) 0 0 (mF b) := by
  refine m_met (cc := cX0_keepAround) (maxL := 4) (ret := none) (by decide) rfl (Nat.le_of_ble_eq_true rfl) ?_
  intro p e s m args below meth c Q ls hx hb hml hr hts hown hlk hnm hQ K hG hS hl
  have hown : s.vm.findClass RX0 = some m.cls := hown
  have hl : lv_has ls 4 [(0, .ref h0), (1, .int (iI u)), (2, .int (iI v)), (3, .int (iI r))] := hl
  refine lv_aload_n hx hb dX0_keepAround_0 rfl (lv_at hl 0 rfl) ?_
  refine lv_aload_n hx hb dX0_keepAround_1 rfl (lv_at hl 0 rfl) ?_
  refine m_get (ci := 0) (v := .int (iI w)) (C := RX0) (T := TX0) (N := 4) hx hb hts (by decide +kernel) hown K hG h rfl 0 (by decide) (by decide +kernel) rfl dX0_keepAround_2 ?_
  refine lv_iload_n hx hb dX0_keepAround_5 rfl (lv_at hl 1 rfl) ?_
  refine lv_iload_n hx hb dX0_keepAround_6 rfl (lv_at hl 3 rfl) ?_
  refine m_isub hx hb dX0_keepAround_7 ?_
  refine m_mmax hx hb (hml.trans hl.1.symm) hts hown (by decide +kernel) (by decide +kernel) (by decide +kernel) (by decide +kernel) (Nat.le_of_ble_eq_true rfl) (Nat.le_of_ble_eq_true rfl) (Nat.zero_le _) (Nat.zero_le _) ⟨by omega, by omega⟩ ⟨by omega, by omega⟩ dX0_keepAround_8 ?_
  refine m_put (ci := 0) (v := .int (iI (max w (u - r)))) (ty := .int) (fs' := [.int (iI (max w (u - r))), .int (iI x), .int (iI y), .int (iI z)]) (C := RX0) (T := TX0) (N := 4) hx hb hts (by decide +kernel) tyX0 tyX0_ok nmX0 hown K hG hS h rfl 0 (by decide) (by decide +kernel) rfl (by decide +kernel) rfl rfl (Nat.le_of_ble_eq_true rfl) rfl dX0_keepAround_11 (fun H locs hG hS => ?_)
  have hG : mG D b (mset M h0 (.inr (0, [.int (iI (max w (u - r))), .int (iI x), .int (iI y), .int (iI z)]))) s H := hG
  refine lv_aload_n hx hb dX0_keepAround_14 rfl (lv_at hl 0 rfl) ?_
  refine lv_aload_n hx hb dX0_keepAround_15 rfl (lv_at hl 0 rfl) ?_
  refine m_get (ci := 0) (v := .int (iI x)) (C := RX0) (T := TX0) (N := 4) hx hb hts (by decide +kernel) hown K hG mset_self rfl 1 (by decide) (by decide +kernel) rfl dX0_keepAround_16 ?_
  refine lv_iload_n hx hb dX0_keepAround_19 rfl (lv_at hl 1 rfl) ?_
  refine lv_iload_n hx hb dX0_keepAround_20 rfl (lv_at hl 3 rfl) ?_
  refine m_iadd hx hb dX0_keepAround_21 ?_
  refine m_mmin hx hb (hml.trans hl.1.symm) hts hown (by decide +kernel) (by decide +kernel) (by decide +kernel) (by decide +kernel) (Nat.le_of_ble_eq_true rfl) (Nat.le_of_ble_eq_true rfl) (Nat.zero_le _) (Nat.zero_le _) ⟨by omega, by omega⟩ ⟨by omega, by omega⟩ dX0_keepAround_22 ?_
  refine m_put (ci := 0) (v := .int (iI (min x (u + r)))) (ty := .int) (fs' := [.int (iI (max w (u - r))), .int (iI (min x (u + r))), .int (iI y), .int (iI z)]) (C := RX0) (T := TX0) (N := 4) hx hb hts (by decide +kernel) tyX0 tyX0_ok nmX0 hown K hG hS mset_self rfl 1 (by decide) (by decide +kernel) rfl (by decide +kernel) rfl rfl (Nat.le_of_ble_eq_true rfl) rfl dX0_keepAround_25 (fun H locs hG hS => ?_)
  rw [mset_mset] at hG
  have hG : mG D b (mset M h0 (.inr (0, [.int (iI (max w (u - r))), .int (iI (min x (u + r))), .int (iI y), .int (iI z)]))) s H := hG
  refine lv_aload_n hx hb dX0_keepAround_28 rfl (lv_at hl 0 rfl) ?_
  refine lv_aload_n hx hb dX0_keepAround_29 rfl (lv_at hl 0 rfl) ?_
  refine m_get (ci := 0) (v := .int (iI y)) (C := RX0) (T := TX0) (N := 4) hx hb hts (by decide +kernel) hown K hG mset_self rfl 2 (by decide) (by decide +kernel) rfl dX0_keepAround_30 ?_
  refine lv_iload_n hx hb dX0_keepAround_33 rfl (lv_at hl 2 rfl) ?_
  refine lv_iload_n hx hb dX0_keepAround_34 rfl (lv_at hl 3 rfl) ?_
  refine m_isub hx hb dX0_keepAround_35 ?_
  refine m_mmax hx hb (hml.trans hl.1.symm) hts hown (by decide +kernel) (by decide +kernel) (by decide +kernel) (by decide +kernel) (Nat.le_of_ble_eq_true rfl) (Nat.le_of_ble_eq_true rfl) (Nat.zero_le _) (Nat.zero_le _) ⟨by omega, by omega⟩ ⟨by omega, by omega⟩ dX0_keepAround_36 ?_
  refine m_put (ci := 0) (v := .int (iI (max y (v - r)))) (ty := .int) (fs' := [.int (iI (max w (u - r))), .int (iI (min x (u + r))), .int (iI (max y (v - r))), .int (iI z)]) (C := RX0) (T := TX0) (N := 4) hx hb hts (by decide +kernel) tyX0 tyX0_ok nmX0 hown K hG hS mset_self rfl 2 (by decide) (by decide +kernel) rfl (by decide +kernel) rfl rfl (Nat.le_of_ble_eq_true rfl) rfl dX0_keepAround_39 (fun H locs hG hS => ?_)
  rw [mset_mset] at hG
  have hG : mG D b (mset M h0 (.inr (0, [.int (iI (max w (u - r))), .int (iI (min x (u + r))), .int (iI (max y (v - r))), .int (iI z)]))) s H := hG
  refine lv_aload_n hx hb dX0_keepAround_42 rfl (lv_at hl 0 rfl) ?_
  refine lv_aload_n hx hb dX0_keepAround_43 rfl (lv_at hl 0 rfl) ?_
  refine m_get (ci := 0) (v := .int (iI z)) (C := RX0) (T := TX0) (N := 4) hx hb hts (by decide +kernel) hown K hG mset_self rfl 3 (by decide) (by decide +kernel) rfl dX0_keepAround_44 ?_
  refine lv_iload_n hx hb dX0_keepAround_47 rfl (lv_at hl 2 rfl) ?_
  refine lv_iload_n hx hb dX0_keepAround_48 rfl (lv_at hl 3 rfl) ?_
  refine m_iadd hx hb dX0_keepAround_49 ?_
  refine m_mmin hx hb (hml.trans hl.1.symm) hts hown (by decide +kernel) (by decide +kernel) (by decide +kernel) (by decide +kernel) (Nat.le_of_ble_eq_true rfl) (Nat.le_of_ble_eq_true rfl) (Nat.zero_le _) (Nat.zero_le _) ⟨by omega, by omega⟩ ⟨by omega, by omega⟩ dX0_keepAround_50 ?_
  refine m_put (ci := 0) (v := .int (iI (min z (v + r)))) (ty := .int) (fs' := [.int (iI (max w (u - r))), .int (iI (min x (u + r))), .int (iI (max y (v - r))), .int (iI (min z (v + r)))]) (C := RX0) (T := TX0) (N := 4) hx hb hts (by decide +kernel) tyX0 tyX0_ok nmX0 hown K hG hS mset_self rfl 3 (by decide) (by decide +kernel) rfl (by decide +kernel) rfl rfl (Nat.le_of_ble_eq_true rfl) rfl dX0_keepAround_53 (fun H locs hG hS => ?_)
  rw [mset_mset] at hG
  have hG : mG D b (mset M h0 (.inr (0, [.int (iI (max w (u - r))), .int (iI (min x (u + r))), .int (iI (max y (v - r))), .int (iI (min z (v + r)))]))) s H := hG
  exact m_vret hx hb hr hlk hQ hG hS (Nat.le_of_ble_eq_true rfl) (Nat.le_of_ble_eq_true rfl) dX0_keepAround_56 rfl

set_option maxHeartbeats 4000000 in
set_option maxRecDepth 100000 in
theorem c_X0_keepNear (l : Launch) (D : va_G) (b : Nat) (M : mM) (h0 : Nat) (w x y z : Int) (h : M h0 = some (Bx w x y z)) (hw : sm w) (hx0 : sm x) (hy0 : sm y) (hz0 : sm z) (o : Nat) (w2 x2 y2 z2 d : Int) (h2 : M o = some (Bx w2 x2 y2 z2)) (hw2 : sm w2) (hx2 : sm x2) (hy2 : sm y2) (hz2 : sm z2) (hd : sm d) (ho : o ≠ h0) : Met l yX0_keepNear wsX0_keepNear ({ frames := 1, cells := 0, slots := 0, locals := 14 } : Room) (mPc [.ref h0, .ref o, .int (iI d)] D b M) (mQv D b (fV (mset M h0 (Bx (max w (w2 - d)) (min x (x2 + d)) (max y (y2 - d)) (min z (z2 + d)))))) 0 0 (mF b) := by
  refine m_met (cc := cX0_keepNear) (maxL := 3) (ret := none) (by decide) rfl (Nat.le_of_ble_eq_true rfl) ?_
  intro p e s m args below meth c Q ls hx hb hml hr hts hown hlk hnm hQ K hG hS hl
  have hown : s.vm.findClass RX0 = some m.cls := hown
  have hl : lv_has ls 3 [(0, .ref h0), (1, .ref o), (2, .int (iI d))] := hl
  refine lv_aload_n hx hb dX0_keepNear_0 rfl (lv_at hl 0 rfl) ?_
  refine lv_aload_n hx hb dX0_keepNear_1 rfl (lv_at hl 0 rfl) ?_
  refine m_get (ci := 0) (v := .int (iI w)) (C := RX0) (T := TX0) (N := 4) hx hb hts (by decide +kernel) hown K hG h rfl 0 (by decide) (by decide +kernel) rfl dX0_keepNear_2 ?_
  refine lv_aload_n hx hb dX0_keepNear_5 rfl (lv_at hl 1 rfl) ?_
  refine m_get (ci := 0) (v := .int (iI w2)) (C := RX0) (T := TX0) (N := 4) hx hb hts (by decide +kernel) hown K hG h2 rfl 0 (by decide) (by decide +kernel) rfl dX0_keepNear_6 ?_
  refine lv_iload_n hx hb dX0_keepNear_9 rfl (lv_at hl 2 rfl) ?_
  refine m_isub hx hb dX0_keepNear_10 ?_
  refine m_mmax hx hb (hml.trans hl.1.symm) hts hown (by decide +kernel) (by decide +kernel) (by decide +kernel) (by decide +kernel) (Nat.le_of_ble_eq_true rfl) (Nat.le_of_ble_eq_true rfl) (Nat.zero_le _) (Nat.zero_le _) ⟨by omega, by omega⟩ ⟨by omega, by omega⟩ dX0_keepNear_11 ?_
  refine m_put (ci := 0) (v := .int (iI (max w (w2 - d)))) (ty := .int) (fs' := [.int (iI (max w (w2 - d))), .int (iI x), .int (iI y), .int (iI z)]) (C := RX0) (T := TX0) (N := 4) hx hb hts (by decide +kernel) tyX0 tyX0_ok nmX0 hown K hG hS h rfl 0 (by decide) (by decide +kernel) rfl (by decide +kernel) rfl rfl (Nat.le_of_ble_eq_true rfl) rfl dX0_keepNear_14 (fun H locs hG hS => ?_)
  have hG : mG D b (mset M h0 (.inr (0, [.int (iI (max w (w2 - d))), .int (iI x), .int (iI y), .int (iI z)]))) s H := hG
  refine lv_aload_n hx hb dX0_keepNear_17 rfl (lv_at hl 0 rfl) ?_
  refine lv_aload_n hx hb dX0_keepNear_18 rfl (lv_at hl 0 rfl) ?_
  refine m_get (ci := 0) (v := .int (iI x)) (C := RX0) (T := TX0) (N := 4) hx hb hts (by decide +kernel) hown K hG mset_self rfl 1 (by decide) (by decide +kernel) rfl dX0_keepNear_19 ?_
  refine lv_aload_n hx hb dX0_keepNear_22 rfl (lv_at hl 1 rfl) ?_
  refine m_get (ci := 0) (v := .int (iI x2)) (C := RX0) (T := TX0) (N := 4) hx hb hts (by decide +kernel) hown K hG ((mset_ne ho).trans h2) rfl 1 (by decide) (by decide +kernel) rfl dX0_keepNear_23 ?_
  refine lv_iload_n hx hb dX0_keepNear_26 rfl (lv_at hl 2 rfl) ?_
  refine m_iadd hx hb dX0_keepNear_27 ?_
  refine m_mmin hx hb (hml.trans hl.1.symm) hts hown (by decide +kernel) (by decide +kernel) (by decide +kernel) (by decide +kernel) (Nat.le_of_ble_eq_true rfl) (Nat.le_of_ble_eq_true rfl) (Nat.zero_le _) (Nat.zero_le _) ⟨by omega, by omega⟩ ⟨by omega, by omega⟩ dX0_keepNear_28 ?_
  refine m_put (ci := 0) (v := .int (iI (min x (x2 + d)))) (ty := .int) (fs' := [.int (iI (max w (w2 - d))), .int (iI (min x (x2 + d))), .int (iI y), .int (iI z)]) (C := RX0) (T := TX0) (N := 4) hx hb hts (by decide +kernel) tyX0 tyX0_ok nmX0 hown K hG hS mset_self rfl 1 (by decide) (by decide +kernel) rfl (by decide +kernel) rfl rfl (Nat.le_of_ble_eq_true rfl) rfl dX0_keepNear_31 (fun H locs hG hS => ?_)
  rw [mset_mset] at hG
  have hG : mG D b (mset M h0 (.inr (0, [.int (iI (max w (w2 - d))), .int (iI (min x (x2 + d))), .int (iI y), .int (iI z)]))) s H := hG
  refine lv_aload_n hx hb dX0_keepNear_34 rfl (lv_at hl 0 rfl) ?_
  refine lv_aload_n hx hb dX0_keepNear_35 rfl (lv_at hl 0 rfl) ?_
  refine m_get (ci := 0) (v := .int (iI y)) (C := RX0) (T := TX0) (N := 4) hx hb hts (by decide +kernel) hown K hG mset_self rfl 2 (by decide) (by decide +kernel) rfl dX0_keepNear_36 ?_
  refine lv_aload_n hx hb dX0_keepNear_39 rfl (lv_at hl 1 rfl) ?_
  refine m_get (ci := 0) (v := .int (iI y2)) (C := RX0) (T := TX0) (N := 4) hx hb hts (by decide +kernel) hown K hG ((mset_ne ho).trans h2) rfl 2 (by decide) (by decide +kernel) rfl dX0_keepNear_40 ?_
  refine lv_iload_n hx hb dX0_keepNear_43 rfl (lv_at hl 2 rfl) ?_
  refine m_isub hx hb dX0_keepNear_44 ?_
  refine m_mmax hx hb (hml.trans hl.1.symm) hts hown (by decide +kernel) (by decide +kernel) (by decide +kernel) (by decide +kernel) (Nat.le_of_ble_eq_true rfl) (Nat.le_of_ble_eq_true rfl) (Nat.zero_le _) (Nat.zero_le _) ⟨by omega, by omega⟩ ⟨by omega, by omega⟩ dX0_keepNear_45 ?_
  refine m_put (ci := 0) (v := .int (iI (max y (y2 - d)))) (ty := .int) (fs' := [.int (iI (max w (w2 - d))), .int (iI (min x (x2 + d))), .int (iI (max y (y2 - d))), .int (iI z)]) (C := RX0) (T := TX0) (N := 4) hx hb hts (by decide +kernel) tyX0 tyX0_ok nmX0 hown K hG hS mset_self rfl 2 (by decide) (by decide +kernel) rfl (by decide +kernel) rfl rfl (Nat.le_of_ble_eq_true rfl) rfl dX0_keepNear_48 (fun H locs hG hS => ?_)
  rw [mset_mset] at hG
  have hG : mG D b (mset M h0 (.inr (0, [.int (iI (max w (w2 - d))), .int (iI (min x (x2 + d))), .int (iI (max y (y2 - d))), .int (iI z)]))) s H := hG
  refine lv_aload_n hx hb dX0_keepNear_51 rfl (lv_at hl 0 rfl) ?_
  refine lv_aload_n hx hb dX0_keepNear_52 rfl (lv_at hl 0 rfl) ?_
  refine m_get (ci := 0) (v := .int (iI z)) (C := RX0) (T := TX0) (N := 4) hx hb hts (by decide +kernel) hown K hG mset_self rfl 3 (by decide) (by decide +kernel) rfl dX0_keepNear_53 ?_
  refine lv_aload_n hx hb dX0_keepNear_56 rfl (lv_at hl 1 rfl) ?_
  refine m_get (ci := 0) (v := .int (iI z2)) (C := RX0) (T := TX0) (N := 4) hx hb hts (by decide +kernel) hown K hG ((mset_ne ho).trans h2) rfl 3 (by decide) (by decide +kernel) rfl dX0_keepNear_57 ?_
  refine lv_iload_n hx hb dX0_keepNear_60 rfl (lv_at hl 2 rfl) ?_
  refine m_iadd hx hb dX0_keepNear_61 ?_
  refine m_mmin hx hb (hml.trans hl.1.symm) hts hown (by decide +kernel) (by decide +kernel) (by decide +kernel) (by decide +kernel) (Nat.le_of_ble_eq_true rfl) (Nat.le_of_ble_eq_true rfl) (Nat.zero_le _) (Nat.zero_le _) ⟨by omega, by omega⟩ ⟨by omega, by omega⟩ dX0_keepNear_62 ?_
  refine m_put (ci := 0) (v := .int (iI (min z (z2 + d)))) (ty := .int) (fs' := [.int (iI (max w (w2 - d))), .int (iI (min x (x2 + d))), .int (iI (max y (y2 - d))), .int (iI (min z (z2 + d)))]) (C := RX0) (T := TX0) (N := 4) hx hb hts (by decide +kernel) tyX0 tyX0_ok nmX0 hown K hG hS mset_self rfl 3 (by decide) (by decide +kernel) rfl (by decide +kernel) rfl rfl (Nat.le_of_ble_eq_true rfl) rfl dX0_keepNear_65 (fun H locs hG hS => ?_)
  rw [mset_mset] at hG
  have hG : mG D b (mset M h0 (.inr (0, [.int (iI (max w (w2 - d))), .int (iI (min x (x2 + d))), .int (iI (max y (y2 - d))), .int (iI (min z (z2 + d)))]))) s H := hG
  exact m_vret hx hb hr hlk hQ hG hS (Nat.le_of_ble_eq_true rfl) (Nat.le_of_ble_eq_true rfl) dX0_keepNear_68 rfl

set_option maxHeartbeats 4000000 in
set_option maxRecDepth 100000 in
theorem c_X0_isEmpty (l : Launch) (D : va_G) (b : Nat) (M : mM) (h0 : Nat) (w x y z : Int) (h : M h0 = some (Bx w x y z)) (hw : sm w) (hx0 : sm x) (hy0 : sm y) (hz0 : sm z) : Met l yX0_isEmpty wsX0_isEmpty ({ frames := 0, cells := 0, slots := 0, locals := 0 } : Room) (mPc [.ref h0] D b M) (mQi D b (fI (if x < w ∨ z < y then 1 else 0) M)) 0 0 (mF b) := by
  refine m_met (cc := cX0_isEmpty) (maxL := 1) (ret := (some .boolean)) (by decide) rfl (Nat.le_of_ble_eq_true rfl) ?_
  intro p e s m args below meth c Q ls hx hb hml hr hts hown hlk hnm hQ K hG hS hl
  have hown : s.vm.findClass RX0 = some m.cls := hown
  have hl : lv_has ls 1 [(0, .ref h0)] := hl
  refine lv_aload_n hx hb dX0_isEmpty_0 rfl (lv_at hl 0 rfl) ?_
  refine m_get (ci := 0) (v := .int (iI w)) (C := RX0) (T := TX0) (N := 4) hx hb hts (by decide +kernel) hown K hG h rfl 0 (by decide) (by decide +kernel) rfl dX0_isEmpty_1 ?_
  refine lv_aload_n hx hb dX0_isEmpty_4 rfl (lv_at hl 0 rfl) ?_
  refine m_get (ci := 0) (v := .int (iI x)) (C := RX0) (T := TX0) (N := 4) hx hb hts (by decide +kernel) hown K hG h rfl 1 (by decide) (by decide +kernel) rfl dX0_isEmpty_5 ?_
  refine m_icmp_gt (tgt := 22) hx hb dX0_isEmpty_8 (by decide) ⟨by omega, by omega⟩ ⟨by omega, by omega⟩ (fun c8 => ?_) (fun c8 => ?_)
  · refine lv_iconst (v := iI 1) hx hb dX0_isEmpty_22 rfl ?_
    refine lv_goto (tgt := 27) hx hb dX0_isEmpty_23 (by decide) ?_
    exact m_zret hx hb hr hlk hQ hG hS (Nat.le_of_ble_eq_true rfl) (Nat.le_of_ble_eq_true rfl) dX0_isEmpty_27 (Or.inr rfl) ⟨congrArg iI (by first | rfl | omega | (split <;> omega)), rfl⟩
  · refine lv_aload_n hx hb dX0_isEmpty_11 rfl (lv_at hl 0 rfl) ?_
    refine m_get (ci := 0) (v := .int (iI y)) (C := RX0) (T := TX0) (N := 4) hx hb hts (by decide +kernel) hown K hG h rfl 2 (by decide) (by decide +kernel) rfl dX0_isEmpty_12 ?_
    refine lv_aload_n hx hb dX0_isEmpty_15 rfl (lv_at hl 0 rfl) ?_
    refine m_get (ci := 0) (v := .int (iI z)) (C := RX0) (T := TX0) (N := 4) hx hb hts (by decide +kernel) hown K hG h rfl 3 (by decide) (by decide +kernel) rfl dX0_isEmpty_16 ?_
    refine m_icmp_le (tgt := 26) hx hb dX0_isEmpty_19 (by decide) ⟨by omega, by omega⟩ ⟨by omega, by omega⟩ (fun c19 => ?_) (fun c19 => ?_)
    · refine lv_iconst (v := iI 0) hx hb dX0_isEmpty_26 rfl ?_
      exact m_zret hx hb hr hlk hQ hG hS (Nat.le_of_ble_eq_true rfl) (Nat.le_of_ble_eq_true rfl) dX0_isEmpty_27 (Or.inl rfl) ⟨congrArg iI (by first | rfl | omega | (split <;> omega)), rfl⟩
    · refine lv_iconst (v := iI 1) hx hb dX0_isEmpty_22 rfl ?_
      refine lv_goto (tgt := 27) hx hb dX0_isEmpty_23 (by decide) ?_
      exact m_zret hx hb hr hlk hQ hG hS (Nat.le_of_ble_eq_true rfl) (Nat.le_of_ble_eq_true rfl) dX0_isEmpty_27 (Or.inr rfl) ⟨congrArg iI (by first | rfl | omega | (split <;> omega)), rfl⟩

set_option maxHeartbeats 4000000 in
set_option maxRecDepth 100000 in
theorem c_X0_size (l : Launch) (D : va_G) (b : Nat) (M : mM) (h0 : Nat) (w x y z : Int) (h : M h0 = some (Bx w x y z)) : Met l yX0_size wsX0_size ({ frames := 0, cells := 0, slots := 0, locals := 0 } : Room) (mPc [.ref h0] D b M) (mQi D b (fI ((x - w + 1) * (z - y + 1)) M)) 0 0 (mF b) := by
  refine m_met (cc := cX0_size) (maxL := 1) (ret := (some .int)) (by decide) rfl (Nat.le_of_ble_eq_true rfl) ?_
  intro p e s m args below meth c Q ls hx hb hml hr hts hown hlk hnm hQ K hG hS hl
  have hown : s.vm.findClass RX0 = some m.cls := hown
  have hl : lv_has ls 1 [(0, .ref h0)] := hl
  refine lv_aload_n hx hb dX0_size_0 rfl (lv_at hl 0 rfl) ?_
  refine m_get (ci := 0) (v := .int (iI x)) (C := RX0) (T := TX0) (N := 4) hx hb hts (by decide +kernel) hown K hG h rfl 1 (by decide) (by decide +kernel) rfl dX0_size_1 ?_
  refine lv_aload_n hx hb dX0_size_4 rfl (lv_at hl 0 rfl) ?_
  refine m_get (ci := 0) (v := .int (iI w)) (C := RX0) (T := TX0) (N := 4) hx hb hts (by decide +kernel) hown K hG h rfl 0 (by decide) (by decide +kernel) rfl dX0_size_5 ?_
  refine m_isub hx hb dX0_size_8 ?_
  refine lv_iconst (v := iI 1) hx hb dX0_size_9 rfl ?_
  refine m_iadd hx hb dX0_size_10 ?_
  refine lv_aload_n hx hb dX0_size_11 rfl (lv_at hl 0 rfl) ?_
  refine m_get (ci := 0) (v := .int (iI z)) (C := RX0) (T := TX0) (N := 4) hx hb hts (by decide +kernel) hown K hG h rfl 3 (by decide) (by decide +kernel) rfl dX0_size_12 ?_
  refine lv_aload_n hx hb dX0_size_15 rfl (lv_at hl 0 rfl) ?_
  refine m_get (ci := 0) (v := .int (iI y)) (C := RX0) (T := TX0) (N := 4) hx hb hts (by decide +kernel) hown K hG h rfl 2 (by decide) (by decide +kernel) rfl dX0_size_16 ?_
  refine m_isub hx hb dX0_size_19 ?_
  refine lv_iconst (v := iI 1) hx hb dX0_size_20 rfl ?_
  refine m_iadd hx hb dX0_size_21 ?_
  refine m_imul hx hb dX0_size_22 ?_
  exact m_iret hx hb hr hlk hQ hG hS (Nat.le_of_ble_eq_true rfl) (Nat.le_of_ble_eq_true rfl) dX0_size_23 ⟨congrArg iI (by first | rfl | omega | (split <;> omega)), rfl⟩

set_option maxHeartbeats 4000000 in
set_option maxRecDepth 100000 in
theorem c_X0_leastApart (l : Launch) (D : va_G) (b : Nat) (M : mM) (h0 : Nat) (w x y z : Int) (h : M h0 = some (Bx w x y z)) (hw : sm w) (hx0 : sm x) (hy0 : sm y) (hz0 : sm z) (o : Nat) (w2 x2 y2 z2 : Int) (h2 : M o = some (Bx w2 x2 y2 z2)) (hw2 : sm w2) (hx2 : sm x2) (hy2 : sm y2) (hz2 : sm z2) : Met l yX0_leastApart wsX0_leastApart ({ frames := 1, cells := 0, slots := 0, locals := 14 } : Room) (mPc [.ref h0, .ref o] D b M) (mQi D b (fI (max 0 (max (max (w - x2) (w2 - x)) (max (y - z2) (y2 - z)))) M)) 0 0 (mF b) := by
  refine m_met (cc := cX0_leastApart) (maxL := 4) (ret := (some .int)) (by decide) rfl (Nat.le_of_ble_eq_true rfl) ?_
  intro p e s m args below meth c Q ls hx hb hml hr hts hown hlk hnm hQ K hG hS hl
  have hown : s.vm.findClass RX0 = some m.cls := hown
  have hl : lv_has ls 4 [(0, .ref h0), (1, .ref o)] := hl
  refine lv_aload_n hx hb dX0_leastApart_0 rfl (lv_at hl 0 rfl) ?_
  refine m_get (ci := 0) (v := .int (iI w)) (C := RX0) (T := TX0) (N := 4) hx hb hts (by decide +kernel) hown K hG h rfl 0 (by decide) (by decide +kernel) rfl dX0_leastApart_1 ?_
  refine lv_aload_n hx hb dX0_leastApart_4 rfl (lv_at hl 1 rfl) ?_
  refine m_get (ci := 0) (v := .int (iI x2)) (C := RX0) (T := TX0) (N := 4) hx hb hts (by decide +kernel) hown K hG h2 rfl 1 (by decide) (by decide +kernel) rfl dX0_leastApart_5 ?_
  refine m_isub hx hb dX0_leastApart_8 ?_
  refine lv_aload_n hx hb dX0_leastApart_9 rfl (lv_at hl 1 rfl) ?_
  refine m_get (ci := 0) (v := .int (iI w2)) (C := RX0) (T := TX0) (N := 4) hx hb hts (by decide +kernel) hown K hG h2 rfl 0 (by decide) (by decide +kernel) rfl dX0_leastApart_10 ?_
  refine lv_aload_n hx hb dX0_leastApart_13 rfl (lv_at hl 0 rfl) ?_
  refine m_get (ci := 0) (v := .int (iI x)) (C := RX0) (T := TX0) (N := 4) hx hb hts (by decide +kernel) hown K hG h rfl 1 (by decide) (by decide +kernel) rfl dX0_leastApart_14 ?_
  refine m_isub hx hb dX0_leastApart_17 ?_
  refine m_mmax hx hb (hml.trans hl.1.symm) hts hown (by decide +kernel) (by decide +kernel) (by decide +kernel) (by decide +kernel) (Nat.le_of_ble_eq_true rfl) (Nat.le_of_ble_eq_true rfl) (Nat.zero_le _) (Nat.zero_le _) ⟨by omega, by omega⟩ ⟨by omega, by omega⟩ dX0_leastApart_18 ?_
  refine lv_istore_n (lv' := [(2, .int (iI (max (w - x2) (w2 - x)))), (0, .ref h0), (1, .ref o)]) hx hb dX0_leastApart_21 rfl hl (by decide) rfl (fun ls hl => ?_)
  refine lv_aload_n hx hb dX0_leastApart_22 rfl (lv_at hl 1 rfl) ?_
  refine m_get (ci := 0) (v := .int (iI y)) (C := RX0) (T := TX0) (N := 4) hx hb hts (by decide +kernel) hown K hG h rfl 2 (by decide) (by decide +kernel) rfl dX0_leastApart_23 ?_
  refine lv_aload_n hx hb dX0_leastApart_26 rfl (lv_at hl 2 rfl) ?_
  refine m_get (ci := 0) (v := .int (iI z2)) (C := RX0) (T := TX0) (N := 4) hx hb hts (by decide +kernel) hown K hG h2 rfl 3 (by decide) (by decide +kernel) rfl dX0_leastApart_27 ?_
  refine m_isub hx hb dX0_leastApart_30 ?_
  refine lv_aload_n hx hb dX0_leastApart_31 rfl (lv_at hl 2 rfl) ?_
  refine m_get (ci := 0) (v := .int (iI y2)) (C := RX0) (T := TX0) (N := 4) hx hb hts (by decide +kernel) hown K hG h2 rfl 2 (by decide) (by decide +kernel) rfl dX0_leastApart_32 ?_
  refine lv_aload_n hx hb dX0_leastApart_35 rfl (lv_at hl 1 rfl) ?_
  refine m_get (ci := 0) (v := .int (iI z)) (C := RX0) (T := TX0) (N := 4) hx hb hts (by decide +kernel) hown K hG h rfl 3 (by decide) (by decide +kernel) rfl dX0_leastApart_36 ?_
  refine m_isub hx hb dX0_leastApart_39 ?_
  refine m_mmax hx hb (hml.trans hl.1.symm) hts hown (by decide +kernel) (by decide +kernel) (by decide +kernel) (by decide +kernel) (Nat.le_of_ble_eq_true rfl) (Nat.le_of_ble_eq_true rfl) (Nat.zero_le _) (Nat.zero_le _) ⟨by omega, by omega⟩ ⟨by omega, by omega⟩ dX0_leastApart_40 ?_
  refine lv_istore_n (lv' := [(3, .int (iI (max (y - z2) (y2 - z)))), (2, .int (iI (max (w - x2) (w2 - x)))), (0, .ref h0), (1, .ref o)]) hx hb dX0_leastApart_43 rfl hl (by decide) rfl (fun ls hl => ?_)
  refine lv_iconst (v := iI 0) hx hb dX0_leastApart_44 rfl ?_
  refine lv_iload_n hx hb dX0_leastApart_45 rfl (lv_at hl 1 rfl) ?_
  refine lv_iload_n hx hb dX0_leastApart_46 rfl (lv_at hl 0 rfl) ?_
  refine m_mmax hx hb (hml.trans hl.1.symm) hts hown (by decide +kernel) (by decide +kernel) (by decide +kernel) (by decide +kernel) (Nat.le_of_ble_eq_true rfl) (Nat.le_of_ble_eq_true rfl) (Nat.zero_le _) (Nat.zero_le _) ⟨by omega, by omega⟩ ⟨by omega, by omega⟩ dX0_leastApart_47 ?_
  refine m_mmax hx hb (hml.trans hl.1.symm) hts hown (by decide +kernel) (by decide +kernel) (by decide +kernel) (by decide +kernel) (Nat.le_of_ble_eq_true rfl) (Nat.le_of_ble_eq_true rfl) (Nat.zero_le _) (Nat.zero_le _) ⟨by omega, by omega⟩ ⟨by omega, by omega⟩ dX0_leastApart_50 ?_
  exact m_iret hx hb hr hlk hQ hG hS (Nat.le_of_ble_eq_true rfl) (Nat.le_of_ble_eq_true rfl) dX0_leastApart_53 ⟨congrArg iI (by first | rfl | omega | (split <;> omega)), rfl⟩

set_option maxHeartbeats 4000000 in
set_option maxRecDepth 100000 in
theorem c_X0_mostApart (l : Launch) (D : va_G) (b : Nat) (M : mM) (h0 : Nat) (w x y z : Int) (h : M h0 = some (Bx w x y z)) (hw : sm w) (hx0 : sm x) (hy0 : sm y) (hz0 : sm z) (o : Nat) (w2 x2 y2 z2 : Int) (h2 : M o = some (Bx w2 x2 y2 z2)) (hw2 : sm w2) (hx2 : sm x2) (hy2 : sm y2) (hz2 : sm z2) : Met l yX0_mostApart wsX0_mostApart ({ frames := 1, cells := 0, slots := 0, locals := 13 } : Room) (mPc [.ref h0, .ref o] D b M) (mQi D b (fI (max (max (x - w2) (x2 - w)) (max (z - y2) (z2 - y))) M)) 0 0 (mF b) := by
  refine m_met (cc := cX0_mostApart) (maxL := 4) (ret := (some .int)) (by decide) rfl (Nat.le_of_ble_eq_true rfl) ?_
  intro p e s m args below meth c Q ls hx hb hml hr hts hown hlk hnm hQ K hG hS hl
  have hown : s.vm.findClass RX0 = some m.cls := hown
  have hl : lv_has ls 4 [(0, .ref h0), (1, .ref o)] := hl
  refine lv_aload_n hx hb dX0_mostApart_0 rfl (lv_at hl 0 rfl) ?_
  refine m_get (ci := 0) (v := .int (iI x)) (C := RX0) (T := TX0) (N := 4) hx hb hts (by decide +kernel) hown K hG h rfl 1 (by decide) (by decide +kernel) rfl dX0_mostApart_1 ?_
  refine lv_aload_n hx hb dX0_mostApart_4 rfl (lv_at hl 1 rfl) ?_
  refine m_get (ci := 0) (v := .int (iI w2)) (C := RX0) (T := TX0) (N := 4) hx hb hts (by decide +kernel) hown K hG h2 rfl 0 (by decide) (by decide +kernel) rfl dX0_mostApart_5 ?_
  refine m_isub hx hb dX0_mostApart_8 ?_
  refine lv_aload_n hx hb dX0_mostApart_9 rfl (lv_at hl 1 rfl) ?_
  refine m_get (ci := 0) (v := .int (iI x2)) (C := RX0) (T := TX0) (N := 4) hx hb hts (by decide +kernel) hown K hG h2 rfl 1 (by decide) (by decide +kernel) rfl dX0_mostApart_10 ?_
  refine lv_aload_n hx hb dX0_mostApart_13 rfl (lv_at hl 0 rfl) ?_
  refine m_get (ci := 0) (v := .int (iI w)) (C := RX0) (T := TX0) (N := 4) hx hb hts (by decide +kernel) hown K hG h rfl 0 (by decide) (by decide +kernel) rfl dX0_mostApart_14 ?_
  refine m_isub hx hb dX0_mostApart_17 ?_
  refine m_mmax hx hb (hml.trans hl.1.symm) hts hown (by decide +kernel) (by decide +kernel) (by decide +kernel) (by decide +kernel) (Nat.le_of_ble_eq_true rfl) (Nat.le_of_ble_eq_true rfl) (Nat.zero_le _) (Nat.zero_le _) ⟨by omega, by omega⟩ ⟨by omega, by omega⟩ dX0_mostApart_18 ?_
  refine lv_istore_n (lv' := [(2, .int (iI (max (x - w2) (x2 - w)))), (0, .ref h0), (1, .ref o)]) hx hb dX0_mostApart_21 rfl hl (by decide) rfl (fun ls hl => ?_)
  refine lv_aload_n hx hb dX0_mostApart_22 rfl (lv_at hl 1 rfl) ?_
  refine m_get (ci := 0) (v := .int (iI z)) (C := RX0) (T := TX0) (N := 4) hx hb hts (by decide +kernel) hown K hG h rfl 3 (by decide) (by decide +kernel) rfl dX0_mostApart_23 ?_
  refine lv_aload_n hx hb dX0_mostApart_26 rfl (lv_at hl 2 rfl) ?_
  refine m_get (ci := 0) (v := .int (iI y2)) (C := RX0) (T := TX0) (N := 4) hx hb hts (by decide +kernel) hown K hG h2 rfl 2 (by decide) (by decide +kernel) rfl dX0_mostApart_27 ?_
  refine m_isub hx hb dX0_mostApart_30 ?_
  refine lv_aload_n hx hb dX0_mostApart_31 rfl (lv_at hl 2 rfl) ?_
  refine m_get (ci := 0) (v := .int (iI z2)) (C := RX0) (T := TX0) (N := 4) hx hb hts (by decide +kernel) hown K hG h2 rfl 3 (by decide) (by decide +kernel) rfl dX0_mostApart_32 ?_
  refine lv_aload_n hx hb dX0_mostApart_35 rfl (lv_at hl 1 rfl) ?_
  refine m_get (ci := 0) (v := .int (iI y)) (C := RX0) (T := TX0) (N := 4) hx hb hts (by decide +kernel) hown K hG h rfl 2 (by decide) (by decide +kernel) rfl dX0_mostApart_36 ?_
  refine m_isub hx hb dX0_mostApart_39 ?_
  refine m_mmax hx hb (hml.trans hl.1.symm) hts hown (by decide +kernel) (by decide +kernel) (by decide +kernel) (by decide +kernel) (Nat.le_of_ble_eq_true rfl) (Nat.le_of_ble_eq_true rfl) (Nat.zero_le _) (Nat.zero_le _) ⟨by omega, by omega⟩ ⟨by omega, by omega⟩ dX0_mostApart_40 ?_
  refine lv_istore_n (lv' := [(3, .int (iI (max (z - y2) (z2 - y)))), (2, .int (iI (max (x - w2) (x2 - w)))), (0, .ref h0), (1, .ref o)]) hx hb dX0_mostApart_43 rfl hl (by decide) rfl (fun ls hl => ?_)
  refine lv_iload_n hx hb dX0_mostApart_44 rfl (lv_at hl 1 rfl) ?_
  refine lv_iload_n hx hb dX0_mostApart_45 rfl (lv_at hl 0 rfl) ?_
  refine m_mmax hx hb (hml.trans hl.1.symm) hts hown (by decide +kernel) (by decide +kernel) (by decide +kernel) (by decide +kernel) (Nat.le_of_ble_eq_true rfl) (Nat.le_of_ble_eq_true rfl) (Nat.zero_le _) (Nat.zero_le _) ⟨by omega, by omega⟩ ⟨by omega, by omega⟩ dX0_mostApart_46 ?_
  exact m_iret hx hb hr hlk hQ hG hS (Nat.le_of_ble_eq_true rfl) (Nat.le_of_ble_eq_true rfl) dX0_mostApart_49 ⟨congrArg iI (by first | rfl | omega | (split <;> omega)), rfl⟩

set_option maxHeartbeats 4000000 in
set_option maxRecDepth 100000 in
theorem c_X0_rowBits (l : Launch) (D : va_G) (b : Nat) (M : mM) (h0 : Nat) (w x y z : Int) (h : M h0 = some (Bx w x y z)) (hy : 0 ≤ y) (hyz : y ≤ z) (hz : z ≤ 63) : Met l yX0_rowBits wsX0_rowBits ({ frames := 0, cells := 0, slots := 0, locals := 0 } : Room) (mPc [.ref h0] D b M) (mQl D b (fL (fun t => decide (y ≤ (t : Int) ∧ (t : Int) ≤ z)) M)) 0 0 (mF b) := by
  refine m_met (cc := cX0_rowBits) (maxL := 1) (ret := (some .long)) (by decide) rfl (Nat.le_of_ble_eq_true rfl) ?_
  intro p e s m args below meth c Q ls hx hb hml hr hts hown hlk hnm hQ K hG hS hl
  have hown : s.vm.findClass RX0 = some m.cls := hown
  have hl : lv_has ls 1 [(0, .ref h0)] := hl
  refine lv_ldc2 (v := -1) hx hb hown (hts _ (by decide +kernel : Cond.constantLong RX0 33 (-1) ∈ wsX0_rowBits)) dX0_rowBits_0 ?_
  refine m_topl bO_m1 ?_
  refine lv_bipush (v := iI 63) hx hb dX0_rowBits_3 (by decide) ?_
  refine lv_aload_n hx hb dX0_rowBits_5 rfl (lv_at hl 0 rfl) ?_
  refine m_get (ci := 0) (v := .int (iI z)) (C := RX0) (T := TX0) (N := 4) hx hb hts (by decide +kernel) hown K hG h rfl 3 (by decide) (by decide +kernel) rfl dX0_rowBits_6 ?_
  refine lv_aload_n hx hb dX0_rowBits_9 rfl (lv_at hl 0 rfl) ?_
  refine m_get (ci := 0) (v := .int (iI y)) (C := RX0) (T := TX0) (N := 4) hx hb hts (by decide +kernel) hown K hG h rfl 2 (by decide) (by decide +kernel) rfl dX0_rowBits_10 ?_
  refine m_isub hx hb dX0_rowBits_13 ?_
  refine m_isub hx hb dX0_rowBits_14 ?_
  refine m_lushr hx hb (63 - (z - y)).toNat (by omega) (by omega) dX0_rowBits_15 ?_
  refine lv_aload_n hx hb dX0_rowBits_16 rfl (lv_at hl 0 rfl) ?_
  refine m_get (ci := 0) (v := .int (iI y)) (C := RX0) (T := TX0) (N := 4) hx hb hts (by decide +kernel) hown K hG h rfl 2 (by decide) (by decide +kernel) rfl dX0_rowBits_17 ?_
  refine m_lshl hx hb y.toNat (by omega) (by omega) dX0_rowBits_20 ?_
  exact m_lret hx hb hr hlk hQ hG hS (Nat.le_of_ble_eq_true rfl) (Nat.le_of_ble_eq_true rfl) dX0_rowBits_21 ⟨bO_cong (fun t ht => by rw [Bool.and_true, ← Bool.decide_and]; exact decide_eq_decide.mpr (by omega)), rfl⟩
end
section
abbrev Pl (r : Nat) : mE := .inr (1, [.ref r])
set_option maxHeartbeats 4000000 in
set_option maxRecDepth 100000 in
theorem c_X1_init (l : Launch) (D : va_G) (b : Nat) (M : mM) (h : Nat) (h1 : M h = some (.inr (1, [.null]))) : Met l yX1_init wsX1_init ({ frames := 1, cells := 1, slots := 64, locals := 12 } : Room) (mPc [.ref h] D b M) (mQv D b (fun M1 => ∃ r, M r = none ∧ M1 = mset (mset M r (aL 64 (fun _ _ => false))) h (Pl r))) 1 64 (mF b) := by
  refine m_met (cc := cX1_init) (maxL := 1) (ret := none) (by decide) rfl (Nat.le_of_ble_eq_true rfl) ?_
  intro p e s m args below meth c Q ls hx hb hml hr hts hown hlk hnm hQ K hG hS hl
  have hown : s.vm.findClass RX1 = some m.cls := hown
  have hl : lv_has ls 1 [(0, .ref h)] := hl
  refine lv_aload_n hx hb dX1_init_0 rfl (lv_at hl 0 rfl) ?_
  refine W.objInit hx hb hown (hts (.methodLink RX1 3 objectInit) (by decide +kernel)) (hts (.instanceMethod objectInit) (by decide +kernel)) (hts (.code objectInit ⟨#[0xb1]⟩ 1 none) (by decide +kernel)) rfl (by rw [hml]; exact hl.1) rfl dX1_init_1 (Nat.le_of_ble_eq_true rfl) (Nat.le_of_ble_eq_true rfl) ?_
  refine W.eq (g2 := F0 m 4 ls []) rfl ?_
  refine lv_aload_n hx hb dX1_init_4 rfl (lv_at hl 0 rfl) ?_
  refine lv_bipush (v := iI 64) hx hb dX1_init_5 (by decide) ?_
  refine m_newa_l (N' := 64) hx hb hts (by decide +kernel) hG hS rfl (by decide) (Nat.le_of_ble_eq_true rfl) (Nat.le_of_ble_eq_true rfl) dX1_init_7 (fun q1 H hq1 hG hS => ?_)
  have ne2 : h ≠ q1 := mfresh hq1 h1
  have hG : mG D b (mset M q1 (aL 64 (fun _ _ => false))) s H := hG
  refine m_putF (ci := 1) (v := .ref q1) (ty := .array .long) (fs' := [.ref q1]) (C := RX1) (T := TX1) (N := 1) hx hb hts (by decide +kernel) tyX1 tyX1_ok nmX1 hown K hG hS ((mset_ne ne2).trans h1) rfl 0 (by decide) (by decide +kernel) rfl hnm rfl (by decide +kernel) rfl rfl (Nat.le_of_ble_eq_true rfl) rfl dX1_init_9 (fun H locs hG hS => ?_)
  have hG : mG D b (mset (mset M q1 (aL 64 (fun _ _ => false))) h (.inr (1, [.ref q1]))) s H := hG
  exact m_vret hx hb hr hlk hQ hG hS (Nat.le_of_ble_eq_true rfl) (Nat.le_of_ble_eq_true rfl) dX1_init_12 ⟨_, hq1, rfl⟩

set_option maxHeartbeats 4000000 in
set_option maxRecDepth 100000 in
theorem c_X1_holds (l : Launch) (D : va_G) (b : Nat) (M : mM) (h r : Nat) (S : Nat → Nat → Bool) (h1 : M h = some (Pl r)) (h2 : M r = some (aL 64 S)) (x y : Int) (hx0 : 0 ≤ x) (hx1 : x ≤ 63) (hy0 : 0 ≤ y) (hy1 : y ≤ 63) : Met l yX1_holds wsX1_holds ({ frames := 0, cells := 0, slots := 0, locals := 0 } : Room) (mPc [.ref h, .int (iI x), .int (iI y)] D b M) (mQi D b (fI (if S x.toNat y.toNat = true then 1 else 0) M)) 0 0 (mF b) := by
  refine m_met (cc := cX1_holds) (maxL := 3) (ret := (some .boolean)) (by decide) rfl (Nat.le_of_ble_eq_true rfl) ?_
  intro p e s m args below meth c Q ls hx hb hml hr hts hown hlk hnm hQ K hG hS hl
  have hown : s.vm.findClass RX1 = some m.cls := hown
  have hl : lv_has ls 3 [(0, .ref h), (1, .int (iI x)), (2, .int (iI y))] := hl
  refine lv_aload_n hx hb dX1_holds_0 rfl (lv_at hl 0 rfl) ?_
  refine m_get (ci := 1) (v := .ref r) (C := RX1) (T := TX1) (N := 1) hx hb hts (by decide +kernel) hown K hG h1 rfl 0 (by decide) (by decide +kernel) rfl dX1_holds_1 ?_
  refine lv_iload_n hx hb dX1_holds_4 rfl (lv_at hl 1 rfl) ?_
  refine m_lald hx hb hG h2 x.toNat (by omega) (by omega) (by decide) dX1_holds_5 ?_
  refine lv_iload_n hx hb dX1_holds_6 rfl (lv_at hl 2 rfl) ?_
  refine m_lushr hx hb y.toNat (by omega) (by omega) dX1_holds_7 ?_
  refine lv_lconst (v := 1) hx hb dX1_holds_8 rfl ?_
  refine m_topl bO_1 ?_
  refine m_land hx hb dX1_holds_9 ?_
  refine lv_lconst (v := 0) hx hb dX1_holds_10 rfl ?_
  refine m_topl bO_0 ?_
  refine m_lcmp_eq (tgt := 19) (q := fun tt => (decide (tt + y.toNat < 64) && (S x.toNat) (tt + y.toNat)) && (decide (tt = 0))) (r := fun _ => false) hx hb dX1_holds_11 dX1_holds_12 (by decide) (fun c11 => ?_) (fun c11 => ?_)
  · refine lv_iconst (v := iI 0) hx hb dX1_holds_19 rfl ?_
    exact m_zret hx hb hr hlk hQ hG hS (Nat.le_of_ble_eq_true rfl) (Nat.le_of_ble_eq_true rfl) dX1_holds_20 (Or.inl rfl) ⟨congrArg iI (by have h9 := c11 0 (by omega); simp at h9; rw [if_neg (by rw [h9 (by omega)]; decide)]), rfl⟩
  · refine lv_iconst (v := iI 1) hx hb dX1_holds_15 rfl ?_
    refine lv_goto (tgt := 20) hx hb dX1_holds_16 (by decide) ?_
    exact m_zret hx hb hr hlk hQ hG hS (Nat.le_of_ble_eq_true rfl) (Nat.le_of_ble_eq_true rfl) dX1_holds_20 (Or.inr rfl) ⟨congrArg iI (by rw [if_pos]; rcases hS9 : S x.toNat y.toNat with _ | _; exact absurd (fun i _ => by by_cases hi : i = 0 <;> simp [hi, hS9]) c11; rfl), rfl⟩

set_option maxHeartbeats 4000000 in
set_option maxRecDepth 100000 in
theorem c_X1_isEmpty (l : Launch) (D : va_G) (b : Nat) (M : mM) (h r : Nat) (S : Nat → Nat → Bool) (h1 : M h = some (Pl r)) (h2 : M r = some (aL 64 S)) : Met l yX1_isEmpty wsX1_isEmpty ({ frames := 0, cells := 0, slots := 0, locals := 0 } : Room) (mPc [.ref h] D b M) (mQi D b (fI (tf (∀ a c : Nat, a < 64 → c < 64 → S a c = false)) M)) 0 0 (mF b) := by
  refine m_met (cc := cX1_isEmpty) (maxL := 2) (ret := (some .boolean)) (by decide) rfl (Nat.le_of_ble_eq_true rfl) ?_
  intro p e s m args below meth c Q ls hx hb hml hr hts hown hlk hnm hQ K hG hS hl
  have hown : s.vm.findClass RX1 = some m.cls := hown
  have hl : lv_has ls 2 [(0, .ref h)] := hl
  refine lv_iconst (v := iI 0) hx hb dX1_isEmpty_0 rfl ?_
  refine lv_istore_n (lv' := [(1, .int (iI 0)), (0, .ref h)]) hx hb dX1_isEmpty_1 rfl hl (by decide) rfl (fun ls hl => ?_)
  have loop2 : ∀ (fuel : Nat) (i : Int) (H : Heap) (locs : List Loc) (ls : Array Slot), (0 ≤ i) → (i ≤ 64) → (∀ a c : Nat, (a : Int) < i → c < 64 → S a c = false) → (64 - i).toNat < fuel → mG D b M s H → va_S (mF b) s.heap H locs → lv_has ls 2 [(0, .ref h), (1, .int (iI i))] → W p l e ({ frames := 0, cells := 0, slots := 0, locals := 0 } : Room) s m args below meth c H locs 0 0 Q (F0 m 2 ls []) := by
    intro fuel
    induction fuel with
    | zero => intro i H locs ls hi0 hi1 hA hm; exact absurd hm (Nat.not_lt_zero _)
    | succ fuel ih2 =>
      intro i H locs ls hi0 hi1 hA hm hG hS hl
      refine lv_iload_n hx hb dX1_isEmpty_2 rfl (lv_at hl 1 rfl) ?_
      refine lv_bipush (v := iI 64) hx hb dX1_isEmpty_3 (by decide) ?_
      refine m_icmp_ge (tgt := 27) hx hb dX1_isEmpty_5 (by decide) ⟨by omega, by omega⟩ ⟨by omega, by omega⟩ (fun c5 => ?_) (fun c5 => ?_)
      · refine lv_iconst (v := iI 1) hx hb dX1_isEmpty_27 rfl ?_
        exact m_zret hx hb hr hlk hQ hG hS (Nat.le_of_ble_eq_true rfl) (Nat.le_of_ble_eq_true rfl) dX1_isEmpty_28 (Or.inr rfl) ⟨congrArg iI (tf_t (fun a c h h9 => hA a c (by omega) h9)).symm, rfl⟩
      · refine lv_aload_n hx hb dX1_isEmpty_8 rfl (lv_at hl 0 rfl) ?_
        refine m_get (ci := 1) (v := .ref r) (C := RX1) (T := TX1) (N := 1) hx hb hts (by decide +kernel) hown K hG h1 rfl 0 (by decide) (by decide +kernel) rfl dX1_isEmpty_9 ?_
        refine lv_iload_n hx hb dX1_isEmpty_12 rfl (lv_at hl 1 rfl) ?_
        refine m_lald hx hb hG h2 i.toNat (by omega) (by omega) (by decide) dX1_isEmpty_13 ?_
        refine lv_lconst (v := 0) hx hb dX1_isEmpty_14 rfl ?_
        refine m_topl bO_0 ?_
        refine m_lcmp_eq (tgt := 21) (q := S i.toNat) (r := fun _ => false) hx hb dX1_isEmpty_15 dX1_isEmpty_16 (by decide) (fun c15 => ?_) (fun c15 => ?_)
        · refine m_iinc (lv' := [(1, .int (iI (i + 1))), (0, .ref h)]) (k := 1) hx hb dX1_isEmpty_21 hl rfl (by decide) rfl (fun ls hl => ?_)
          refine lv_goto (tgt := 2) hx hb dX1_isEmpty_24 (by decide) ?_
          exact ih2 (i + 1) _ _ _ (by omega) (by omega) (fun a c h h9 => by rcases Int.lt_or_le (a : Int) i with q | q; exact hA a c q h9; rw [show a = i.toNat by omega]; exact c15 c h9) (by omega) hG hS (lv_sub hl [1, 0] rfl)
        · refine lv_iconst (v := iI 0) hx hb dX1_isEmpty_19 rfl ?_
          exact m_zret hx hb hr hlk hQ hG hS (Nat.le_of_ble_eq_true rfl) (Nat.le_of_ble_eq_true rfl) dX1_isEmpty_20 (Or.inl rfl) ⟨congrArg iI (tf_f (fun q => c15 (fun a ha => q i.toNat a (by omega) ha))).symm, rfl⟩
  exact loop2 _ 0 _ _ _ (by omega) (by omega) (fun a c h _ => absurd h (by omega)) (Nat.lt_succ_self _) hG hS (lv_sub hl [1, 0] rfl)

set_option maxHeartbeats 4000000 in
set_option maxRecDepth 100000 in
theorem c_X1_meets (l : Launch) (D : va_G) (b : Nat) (M : mM) (h r : Nat) (S : Nat → Nat → Bool) (h1 : M h = some (Pl r)) (h2 : M r = some (aL 64 S)) (o : Nat) (w x y z : Int) (h3 : M o = some (Bx w x y z)) (hw : 0 ≤ w) (hwx : w ≤ x) (hx0 : x ≤ 63) (hy : 0 ≤ y) (hyz : y ≤ z) (hz : z ≤ 63) : Met l yX1_meets wsX1_meets ({ frames := 1, cells := 0, slots := 0, locals := 20 } : Room) (mPc [.ref h, .ref o] D b M) (mQi D b (fI (tf (∃ a c : Nat, w ≤ a ∧ (a : Int) ≤ x ∧ y ≤ c ∧ (c : Int) ≤ z ∧ S a c = true)) M)) 0 0 (mF b) := by
  refine m_met (cc := cX1_meets) (maxL := 5) (ret := (some .boolean)) (by decide) rfl (Nat.le_of_ble_eq_true rfl) ?_
  intro p e s m args below meth c Q ls hx hb hml hr hts hown hlk hnm hQ K hG hS hl
  have hown : s.vm.findClass RX1 = some m.cls := hown
  have hl : lv_has ls 5 [(0, .ref h), (1, .ref o)] := hl
  refine lv_aload_n hx hb dX1_meets_0 rfl (lv_at hl 1 rfl) ?_
  refine m_callfl (m_runV (a := o) (As := []) (rest := []) ⟨hx, hb, hml, hown, hts⟩ (c_X0_rowBits l D b _ o w x y z h3 (by omega) (by omega) (by omega)) (cwV 0 hts gX1_meets_X0_rowBits rfl rfl rfl (by decide +kernel) ⟨Nat.le_of_ble_eq_true rfl, Nat.le_of_ble_eq_true rfl⟩) K hG h3 rfl rfl rfl hl.1 rfl (Nat.le_of_ble_eq_true rfl) dX1_meets_1 ⟨Nat.le_of_ble_eq_true rfl, Nat.le_of_ble_eq_true rfl⟩) hS (fun H locs hG hS => ?_)
  have hG : mG D b M s H := hG
  refine lv_lstore_n (lv' := [(2, .long (bO (fun tt => decide (y ≤ (tt : Int) ∧ (tt : Int) ≤ z)))), (0, .ref h), (1, .ref o)]) hx hb dX1_meets_4 rfl hl (by decide) rfl (fun ls hl => ?_)
  refine lv_aload_n hx hb dX1_meets_5 rfl (lv_at hl 2 rfl) ?_
  refine m_getN (ci := 0) (v := .int (iI w)) (C := RX0) (T := TX0) (N := 4) hx hb hts (by decide +kernel) hown K hG h3 rfl 0 (by decide) K.2.1.1 rfl dX1_meets_6 ?_
  refine lv_istore (lv' := [(4, .int (iI w)), (2, .long (bO (fun tt => decide (y ≤ (tt : Int) ∧ (tt : Int) ≤ z)))), (0, .ref h), (1, .ref o)]) hx hb dX1_meets_9 hl (by decide) rfl (fun ls hl => ?_)
  have loop11 : ∀ (fuel : Nat) (i : Int) (H : Heap) (locs : List Loc) (ls : Array Slot), (w ≤ i) → (i ≤ x + 1) → (∀ a c : Nat, w ≤ a → (a : Int) < i → y ≤ c → (c : Int) ≤ z → S a c = false) → (64 - i).toNat < fuel → mG D b M s H → va_S (mF b) s.heap H locs → lv_has ls 5 [(4, .int (iI i)), (2, .long (bO (fun tt => decide (y ≤ (tt : Int) ∧ (tt : Int) ≤ z)))), (0, .ref h), (1, .ref o)] → W p l e ({ frames := 1, cells := 0, slots := 0, locals := 20 } : Room) s m args below meth c H locs 0 0 Q (F0 m 11 ls []) := by
    intro fuel
    induction fuel with
    | zero => intro i H locs ls hi0 hi1 hA hm; exact absurd hm (Nat.not_lt_zero _)
    | succ fuel ih11 =>
      intro i H locs ls hi0 hi1 hA hm hG hS hl
      refine lv_iload hx hb dX1_meets_11 (lv_at hl 0 rfl) ?_
      refine lv_aload_n hx hb dX1_meets_13 rfl (lv_at hl 3 rfl) ?_
      refine m_getN (ci := 0) (v := .int (iI x)) (C := RX0) (T := TX0) (N := 4) hx hb hts (by decide +kernel) hown K hG h3 rfl 1 (by decide) K.2.1.2 rfl dX1_meets_14 ?_
      refine m_icmp_gt (tgt := 42) hx hb dX1_meets_17 (by decide) ⟨by omega, by omega⟩ ⟨by omega, by omega⟩ (fun c17 => ?_) (fun c17 => ?_)
      · refine lv_iconst (v := iI 0) hx hb dX1_meets_42 rfl ?_
        exact m_zret hx hb hr hlk hQ hG hS (Nat.le_of_ble_eq_true rfl) (Nat.le_of_ble_eq_true rfl) dX1_meets_43 (Or.inl rfl) ⟨congrArg iI (by rw [tf_f]; rintro ⟨a, c, g1, g2, g3, g4, g5⟩; rw [hA a c g1 (by omega) g3 g4] at g5; cases g5), rfl⟩
      · refine lv_aload_n hx hb dX1_meets_20 rfl (lv_at hl 2 rfl) ?_
        refine m_get (ci := 1) (v := .ref r) (C := RX1) (T := TX1) (N := 1) hx hb hts (by decide +kernel) hown K hG h1 rfl 0 (by decide) (by decide +kernel) rfl dX1_meets_21 ?_
        refine lv_iload hx hb dX1_meets_24 (lv_at hl 0 rfl) ?_
        refine m_lald hx hb hG h2 i.toNat (by omega) (by omega) (by decide) dX1_meets_26 ?_
        refine lv_lload_n hx hb dX1_meets_27 rfl (lv_at hl 1 rfl) ?_
        refine m_land hx hb dX1_meets_28 ?_
        refine lv_lconst (v := 0) hx hb dX1_meets_29 rfl ?_
        refine m_topl bO_0 ?_
        refine m_lcmp_eq (tgt := 36) (q := fun tt => (S i.toNat) tt && (decide (y ≤ (tt : Int) ∧ (tt : Int) ≤ z))) (r := fun _ => false) hx hb dX1_meets_30 dX1_meets_31 (by decide) (fun c30 => ?_) (fun c30 => ?_)
        · refine m_iinc (lv' := [(4, .int (iI (i + 1))), (2, .long (bO (fun tt => decide (y ≤ (tt : Int) ∧ (tt : Int) ≤ z)))), (0, .ref h), (1, .ref o)]) (k := 0) hx hb dX1_meets_36 hl rfl (by decide) rfl (fun ls hl => ?_)
          refine lv_goto (tgt := 11) hx hb dX1_meets_39 (by decide) ?_
          exact ih11 (i + 1) _ _ _ (by omega) (by omega) (fun a c g1 g2 g3 g4 => by rcases Int.lt_or_le (a : Int) i with q | q; exact hA a c g1 q g3 g4; have h9 := c30 c (by omega); rw [show a = i.toNat by omega]; simpa [g3, g4] using h9) (by omega) hG hS (lv_sub hl [0, 1, 2, 3] rfl)
        · refine lv_iconst (v := iI 1) hx hb dX1_meets_34 rfl ?_
          exact m_zret hx hb hr hlk hQ hG hS (Nat.le_of_ble_eq_true rfl) (Nat.le_of_ble_eq_true rfl) dX1_meets_35 (Or.inr rfl) ⟨congrArg iI (by rw [tf_t]; rcases Classical.em (∃ a c : Nat, w ≤ a ∧ (a : Int) ≤ x ∧ y ≤ c ∧ (c : Int) ≤ z ∧ S a c = true) with q | q; exact q; exact absurd (fun t ht => by rcases hS9 : S i.toNat t with _ | _; simp; have : ¬ (y ≤ (t : Int) ∧ (t : Int) ≤ z) := fun h => q ⟨i.toNat, t, by omega, by omega, h.1, h.2, hS9⟩; simp [this]) c30), rfl⟩
  exact loop11 _ w _ _ _ (by omega) (by omega) (fun a c h9 h => absurd h (by omega)) (Nat.lt_succ_self _) hG hS (lv_sub hl [0, 1, 2, 3] rfl)

set_option maxHeartbeats 4000000 in
set_option maxRecDepth 100000 in
theorem c_X1_covers (l : Launch) (D : va_G) (b : Nat) (M : mM) (h r : Nat) (S : Nat → Nat → Bool) (h1 : M h = some (Pl r)) (h2 : M r = some (aL 64 S)) (o : Nat) (w x y z : Int) (h3 : M o = some (Bx w x y z)) (hw : 0 ≤ w) (hwx : w ≤ x) (hx0 : x ≤ 63) (hy : 0 ≤ y) (hyz : y ≤ z) (hz : z ≤ 63) : Met l yX1_covers wsX1_covers ({ frames := 1, cells := 0, slots := 0, locals := 20 } : Room) (mPc [.ref h, .ref o] D b M) (mQi D b (fI (tf (∀ a c : Nat, w ≤ a → (a : Int) ≤ x → y ≤ c → (c : Int) ≤ z → S a c = true)) M)) 0 0 (mF b) := by
  refine m_met (cc := cX1_covers) (maxL := 5) (ret := (some .boolean)) (by decide) rfl (Nat.le_of_ble_eq_true rfl) ?_
  intro p e s m args below meth c Q ls hx hb hml hr hts hown hlk hnm hQ K hG hS hl
  have hown : s.vm.findClass RX1 = some m.cls := hown
  have hl : lv_has ls 5 [(0, .ref h), (1, .ref o)] := hl
  refine lv_aload_n hx hb dX1_covers_0 rfl (lv_at hl 1 rfl) ?_
  refine m_callfl (m_runV (a := o) (As := []) (rest := []) ⟨hx, hb, hml, hown, hts⟩ (c_X0_rowBits l D b _ o w x y z h3 (by omega) (by omega) (by omega)) (cwV 0 hts gX1_covers_X0_rowBits rfl rfl rfl (by decide +kernel) ⟨Nat.le_of_ble_eq_true rfl, Nat.le_of_ble_eq_true rfl⟩) K hG h3 rfl rfl rfl hl.1 rfl (Nat.le_of_ble_eq_true rfl) dX1_covers_1 ⟨Nat.le_of_ble_eq_true rfl, Nat.le_of_ble_eq_true rfl⟩) hS (fun H locs hG hS => ?_)
  have hG : mG D b M s H := hG
  refine lv_lstore_n (lv' := [(2, .long (bO (fun tt => decide (y ≤ (tt : Int) ∧ (tt : Int) ≤ z)))), (0, .ref h), (1, .ref o)]) hx hb dX1_covers_4 rfl hl (by decide) rfl (fun ls hl => ?_)
  refine lv_aload_n hx hb dX1_covers_5 rfl (lv_at hl 2 rfl) ?_
  refine m_getN (ci := 0) (v := .int (iI w)) (C := RX0) (T := TX0) (N := 4) hx hb hts (by decide +kernel) hown K hG h3 rfl 0 (by decide) K.2.1.1 rfl dX1_covers_6 ?_
  refine lv_istore (lv' := [(4, .int (iI w)), (2, .long (bO (fun tt => decide (y ≤ (tt : Int) ∧ (tt : Int) ≤ z)))), (0, .ref h), (1, .ref o)]) hx hb dX1_covers_9 hl (by decide) rfl (fun ls hl => ?_)
  have loop11 : ∀ (fuel : Nat) (i : Int) (H : Heap) (locs : List Loc) (ls : Array Slot), (w ≤ i) → (i ≤ x + 1) → (∀ a c : Nat, w ≤ a → (a : Int) < i → y ≤ c → (c : Int) ≤ z → S a c = true) → (64 - i).toNat < fuel → mG D b M s H → va_S (mF b) s.heap H locs → lv_has ls 5 [(4, .int (iI i)), (2, .long (bO (fun tt => decide (y ≤ (tt : Int) ∧ (tt : Int) ≤ z)))), (0, .ref h), (1, .ref o)] → W p l e ({ frames := 1, cells := 0, slots := 0, locals := 20 } : Room) s m args below meth c H locs 0 0 Q (F0 m 11 ls []) := by
    intro fuel
    induction fuel with
    | zero => intro i H locs ls hi0 hi1 hA hm; exact absurd hm (Nat.not_lt_zero _)
    | succ fuel ih11 =>
      intro i H locs ls hi0 hi1 hA hm hG hS hl
      refine lv_iload hx hb dX1_covers_11 (lv_at hl 0 rfl) ?_
      refine lv_aload_n hx hb dX1_covers_13 rfl (lv_at hl 3 rfl) ?_
      refine m_getN (ci := 0) (v := .int (iI x)) (C := RX0) (T := TX0) (N := 4) hx hb hts (by decide +kernel) hown K hG h3 rfl 1 (by decide) K.2.1.2 rfl dX1_covers_14 ?_
      refine m_icmp_gt (tgt := 42) hx hb dX1_covers_17 (by decide) ⟨by omega, by omega⟩ ⟨by omega, by omega⟩ (fun c17 => ?_) (fun c17 => ?_)
      · refine lv_iconst (v := iI 1) hx hb dX1_covers_42 rfl ?_
        exact m_zret hx hb hr hlk hQ hG hS (Nat.le_of_ble_eq_true rfl) (Nat.le_of_ble_eq_true rfl) dX1_covers_43 (Or.inr rfl) ⟨congrArg iI (tf_t (fun a c g1 g2 g3 g4 => hA a c g1 (by omega) g3 g4)).symm, rfl⟩
      · refine lv_aload_n hx hb dX1_covers_20 rfl (lv_at hl 2 rfl) ?_
        refine m_get (ci := 1) (v := .ref r) (C := RX1) (T := TX1) (N := 1) hx hb hts (by decide +kernel) hown K hG h1 rfl 0 (by decide) (by decide +kernel) rfl dX1_covers_21 ?_
        refine lv_iload hx hb dX1_covers_24 (lv_at hl 0 rfl) ?_
        refine m_lald hx hb hG h2 i.toNat (by omega) (by omega) (by decide) dX1_covers_26 ?_
        refine lv_lload_n hx hb dX1_covers_27 rfl (lv_at hl 1 rfl) ?_
        refine m_land hx hb dX1_covers_28 ?_
        refine lv_lload_n hx hb dX1_covers_29 rfl (lv_at hl 1 rfl) ?_
        refine m_lcmp_eq (tgt := 36) (q := fun tt => (S i.toNat) tt && (decide (y ≤ (tt : Int) ∧ (tt : Int) ≤ z))) (r := fun tt => decide (y ≤ (tt : Int) ∧ (tt : Int) ≤ z)) hx hb dX1_covers_30 dX1_covers_31 (by decide) (fun c30 => ?_) (fun c30 => ?_)
        · refine m_iinc (lv' := [(4, .int (iI (i + 1))), (2, .long (bO (fun tt => decide (y ≤ (tt : Int) ∧ (tt : Int) ≤ z)))), (0, .ref h), (1, .ref o)]) (k := 0) hx hb dX1_covers_36 hl rfl (by decide) rfl (fun ls hl => ?_)
          refine lv_goto (tgt := 11) hx hb dX1_covers_39 (by decide) ?_
          exact ih11 (i + 1) _ _ _ (by omega) (by omega) (fun a c g1 g2 g3 g4 => by rcases Int.lt_or_le (a : Int) i with q | q; exact hA a c g1 q g3 g4; have h9 := c30 c (by omega); rw [show a = i.toNat by omega]; simpa [g3, g4] using h9) (by omega) hG hS (lv_sub hl [0, 1, 2, 3] rfl)
        · refine lv_iconst (v := iI 0) hx hb dX1_covers_34 rfl ?_
          exact m_zret hx hb hr hlk hQ hG hS (Nat.le_of_ble_eq_true rfl) (Nat.le_of_ble_eq_true rfl) dX1_covers_35 (Or.inl rfl) ⟨congrArg iI (by rw [tf_f]; intro q; refine c30 (fun t ht => ?_); by_cases h9 : y ≤ (t : Int) ∧ (t : Int) ≤ z; rw [q i.toNat t (by omega) (by omega) h9.1 h9.2, Bool.true_and]; simp [h9]), rfl⟩
  exact loop11 _ w _ _ _ (by omega) (by omega) (fun a c h9 h => absurd h (by omega)) (Nat.lt_succ_self _) hG hS (lv_sub hl [0, 1, 2, 3] rfl)

set_option maxHeartbeats 4000000 in
set_option maxRecDepth 100000 in
theorem c_X1_add (l : Launch) (D : va_G) (b : Nat) (M : mM) (h r : Nat) (S : Nat → Nat → Bool) (h1 : M h = some (Pl r)) (h2 : M r = some (aL 64 S)) (o : Nat) (w x y z : Int) (h3 : M o = some (Bx w x y z)) (hw : 0 ≤ w) (hwx : w ≤ x) (hx0 : x ≤ 63) (hy : 0 ≤ y) (hyz : y ≤ z) (hz : z ≤ 63) : Met l yX1_add wsX1_add ({ frames := 1, cells := 0, slots := 0, locals := 20 } : Room) (mPc [.ref h, .ref o] D b M) (mQv D b (fV (mset M r (aL 64 (fun a c => if w ≤ (a : Int) ∧ (a : Int) ≤ x then (S a c || decide (y ≤ (c : Int) ∧ (c : Int) ≤ z)) else S a c))))) 0 0 (mF b) := by
  refine m_met (cc := cX1_add) (maxL := 5) (ret := none) (by decide) rfl (Nat.le_of_ble_eq_true rfl) ?_
  intro p e s m args below meth c Q ls hx hb hml hr hts hown hlk hnm hQ K hG hS hl
  have hown : s.vm.findClass RX1 = some m.cls := hown
  have hl : lv_has ls 5 [(0, .ref h), (1, .ref o)] := hl
  refine lv_aload_n hx hb dX1_add_0 rfl (lv_at hl 1 rfl) ?_
  refine m_callfl (m_runV (a := o) (As := []) (rest := []) ⟨hx, hb, hml, hown, hts⟩ (c_X0_rowBits l D b _ o w x y z h3 (by omega) (by omega) (by omega)) (cwV 0 hts gX1_add_X0_rowBits rfl rfl rfl (by decide +kernel) ⟨Nat.le_of_ble_eq_true rfl, Nat.le_of_ble_eq_true rfl⟩) K hG h3 rfl rfl rfl hl.1 rfl (Nat.le_of_ble_eq_true rfl) dX1_add_1 ⟨Nat.le_of_ble_eq_true rfl, Nat.le_of_ble_eq_true rfl⟩) hS (fun H locs hG hS => ?_)
  have hG : mG D b M s H := hG
  refine lv_lstore_n (lv' := [(2, .long (bO (fun tt => decide (y ≤ (tt : Int) ∧ (tt : Int) ≤ z)))), (0, .ref h), (1, .ref o)]) hx hb dX1_add_4 rfl hl (by decide) rfl (fun ls hl => ?_)
  refine lv_aload_n hx hb dX1_add_5 rfl (lv_at hl 2 rfl) ?_
  refine m_getN (ci := 0) (v := .int (iI w)) (C := RX0) (T := TX0) (N := 4) hx hb hts (by decide +kernel) hown K hG h3 rfl 0 (by decide) K.2.1.1 rfl dX1_add_6 ?_
  refine lv_istore (lv' := [(4, .int (iI w)), (2, .long (bO (fun tt => decide (y ≤ (tt : Int) ∧ (tt : Int) ≤ z)))), (0, .ref h), (1, .ref o)]) hx hb dX1_add_9 hl (by decide) rfl (fun ls hl => ?_)
  have loop11 : ∀ (fuel : Nat) (i : Int) (T : Nat → Nat → Bool) (H : Heap) (locs : List Loc) (ls : Array Slot), (w ≤ i) → (i ≤ x + 1) → (∀ a c : Nat, T a c = if w ≤ (a : Int) ∧ (a : Int) < i then (S a c || decide (y ≤ (c : Int) ∧ (c : Int) ≤ z)) else S a c) → (64 - i).toNat < fuel → mG D b (mset M r (aL 64 T)) s H → va_S (mF b) s.heap H locs → lv_has ls 5 [(4, .int (iI i)), (2, .long (bO (fun tt => decide (y ≤ (tt : Int) ∧ (tt : Int) ≤ z)))), (0, .ref h), (1, .ref o)] → W p l e ({ frames := 1, cells := 0, slots := 0, locals := 20 } : Room) s m args below meth c H locs 0 0 Q (F0 m 11 ls []) := by
    intro fuel
    induction fuel with
    | zero => intro i T H locs ls hi0 hi1 hA hm; exact absurd hm (Nat.not_lt_zero _)
    | succ fuel ih11 =>
      intro i T H locs ls hi0 hi1 hA hm hG hS hl
      refine lv_iload hx hb dX1_add_11 (lv_at hl 0 rfl) ?_
      refine lv_aload_n hx hb dX1_add_13 rfl (lv_at hl 3 rfl) ?_
      refine m_getN (ci := 0) (v := .int (iI x)) (C := RX0) (T := TX0) (N := 4) hx hb hts (by decide +kernel) hown K hG ((mset_ne (mne h3 h2 (by intro h; cases h))).trans h3) rfl 1 (by decide) K.2.1.2 rfl dX1_add_14 ?_
      refine m_icmp_gt (tgt := 37) hx hb dX1_add_17 (by decide) ⟨by omega, by omega⟩ ⟨by omega, by omega⟩ (fun c17 => ?_) (fun c17 => ?_)
      · exact m_vret hx hb hr hlk hQ hG hS (Nat.le_of_ble_eq_true rfl) (Nat.le_of_ble_eq_true rfl) dX1_add_37 (by show mset M r (aL 64 T) = mset M r _; refine congrArg (fun q => mset M r (aL 64 q)) (funext fun a => funext fun c => ?_); rw [hA]; by_cases g : w ≤ (a : Int) ∧ (a : Int) ≤ x; rw [if_pos g, if_pos (by omega)]; rw [if_neg g, if_neg (by omega)])
      · refine lv_aload_n hx hb dX1_add_20 rfl (lv_at hl 2 rfl) ?_
        refine m_get (ci := 1) (v := .ref r) (C := RX1) (T := TX1) (N := 1) hx hb hts (by decide +kernel) hown K hG ((mset_ne (mne h1 h2 (by intro h; cases h))).trans h1) rfl 0 (by decide) (by decide +kernel) rfl dX1_add_21 ?_
        refine lv_iload hx hb dX1_add_24 (lv_at hl 0 rfl) ?_
        refine lv_dup2_11 hx hb dX1_add_26 rfl rfl ?_
        refine m_lald hx hb hG mset_self i.toNat (by omega) (by omega) (by decide) dX1_add_27 ?_
        refine lv_lload_n hx hb dX1_add_28 rfl (lv_at hl 1 rfl) ?_
        refine m_lor hx hb dX1_add_29 ?_
        refine m_last hx hb hG hS mset_self i.toNat (by omega) (by omega) (by decide) dX1_add_30 (fun H locs hG hS => ?_)
        rw [mset_mset] at hG
        have hG : mG D b (mset M r (aL 64 (va_up T i.toNat (fun tt => (T i.toNat) tt || (decide (y ≤ (tt : Int) ∧ (tt : Int) ≤ z)))))) s H := hG
        refine m_iinc (lv' := [(4, .int (iI (i + 1))), (2, .long (bO (fun tt => decide (y ≤ (tt : Int) ∧ (tt : Int) ≤ z)))), (0, .ref h), (1, .ref o)]) (k := 0) hx hb dX1_add_31 hl rfl (by decide) rfl (fun ls hl => ?_)
        refine lv_goto (tgt := 11) hx hb dX1_add_34 (by decide) ?_
        exact ih11 (i + 1) (va_up T i.toNat (fun tt => (T i.toNat) tt || (decide (y ≤ (tt : Int) ∧ (tt : Int) ≤ z)))) _ _ _ (by omega) (by omega) (fun a c => by by_cases g : a = i.toNat; rw [g, va_up_self, if_pos (by omega)]; simp only [hA]; (try rw [if_neg (by omega)]); rw [va_up_ne _ _ g, hA]; by_cases g2 : w ≤ (a : Int) ∧ (a : Int) < i; rw [if_pos g2, if_pos (by omega)]; rw [if_neg g2, if_neg (by omega)]) (by omega) hG hS (lv_sub hl [0, 1, 2, 3] rfl)
  exact loop11 _ w S _ _ _ (by omega) (by omega) (fun a c => by rw [if_neg (by omega)]) (Nat.lt_succ_self _) (by rw [mset_id h2]; exact hG) hS (lv_sub hl [0, 1, 2, 3] rfl)

set_option maxHeartbeats 4000000 in
set_option maxRecDepth 100000 in
theorem c_X1_remove (l : Launch) (D : va_G) (b : Nat) (M : mM) (h r : Nat) (S : Nat → Nat → Bool) (h1 : M h = some (Pl r)) (h2 : M r = some (aL 64 S)) (o : Nat) (w x y z : Int) (h3 : M o = some (Bx w x y z)) (hw : 0 ≤ w) (hwx : w ≤ x) (hx0 : x ≤ 63) (hy : 0 ≤ y) (hyz : y ≤ z) (hz : z ≤ 63) : Met l yX1_remove wsX1_remove ({ frames := 1, cells := 0, slots := 0, locals := 20 } : Room) (mPc [.ref h, .ref o] D b M) (mQv D b (fV (mset M r (aL 64 (fun a c => if w ≤ (a : Int) ∧ (a : Int) ≤ x then (S a c && !decide (y ≤ (c : Int) ∧ (c : Int) ≤ z)) else S a c))))) 0 0 (mF b) := by
  refine m_met (cc := cX1_remove) (maxL := 5) (ret := none) (by decide) rfl (Nat.le_of_ble_eq_true rfl) ?_
  intro p e s m args below meth c Q ls hx hb hml hr hts hown hlk hnm hQ K hG hS hl
  have hown : s.vm.findClass RX1 = some m.cls := hown
  have hl : lv_has ls 5 [(0, .ref h), (1, .ref o)] := hl
  refine lv_aload_n hx hb dX1_remove_0 rfl (lv_at hl 1 rfl) ?_
  refine m_callfl (m_runV (a := o) (As := []) (rest := []) ⟨hx, hb, hml, hown, hts⟩ (c_X0_rowBits l D b _ o w x y z h3 (by omega) (by omega) (by omega)) (cwV 0 hts gX1_remove_X0_rowBits rfl rfl rfl (by decide +kernel) ⟨Nat.le_of_ble_eq_true rfl, Nat.le_of_ble_eq_true rfl⟩) K hG h3 rfl rfl rfl hl.1 rfl (Nat.le_of_ble_eq_true rfl) dX1_remove_1 ⟨Nat.le_of_ble_eq_true rfl, Nat.le_of_ble_eq_true rfl⟩) hS (fun H locs hG hS => ?_)
  have hG : mG D b M s H := hG
  refine lv_lstore_n (lv' := [(2, .long (bO (fun tt => decide (y ≤ (tt : Int) ∧ (tt : Int) ≤ z)))), (0, .ref h), (1, .ref o)]) hx hb dX1_remove_4 rfl hl (by decide) rfl (fun ls hl => ?_)
  refine lv_aload_n hx hb dX1_remove_5 rfl (lv_at hl 2 rfl) ?_
  refine m_getN (ci := 0) (v := .int (iI w)) (C := RX0) (T := TX0) (N := 4) hx hb hts (by decide +kernel) hown K hG h3 rfl 0 (by decide) K.2.1.1 rfl dX1_remove_6 ?_
  refine lv_istore (lv' := [(4, .int (iI w)), (2, .long (bO (fun tt => decide (y ≤ (tt : Int) ∧ (tt : Int) ≤ z)))), (0, .ref h), (1, .ref o)]) hx hb dX1_remove_9 hl (by decide) rfl (fun ls hl => ?_)
  have loop11 : ∀ (fuel : Nat) (i : Int) (T : Nat → Nat → Bool) (H : Heap) (locs : List Loc) (ls : Array Slot), (w ≤ i) → (i ≤ x + 1) → (∀ a c : Nat, T a c = if w ≤ (a : Int) ∧ (a : Int) < i then (S a c && !decide (y ≤ (c : Int) ∧ (c : Int) ≤ z)) else S a c) → (64 - i).toNat < fuel → mG D b (mset M r (aL 64 T)) s H → va_S (mF b) s.heap H locs → lv_has ls 5 [(4, .int (iI i)), (2, .long (bO (fun tt => decide (y ≤ (tt : Int) ∧ (tt : Int) ≤ z)))), (0, .ref h), (1, .ref o)] → W p l e ({ frames := 1, cells := 0, slots := 0, locals := 20 } : Room) s m args below meth c H locs 0 0 Q (F0 m 11 ls []) := by
    intro fuel
    induction fuel with
    | zero => intro i T H locs ls hi0 hi1 hA hm; exact absurd hm (Nat.not_lt_zero _)
    | succ fuel ih11 =>
      intro i T H locs ls hi0 hi1 hA hm hG hS hl
      refine lv_iload hx hb dX1_remove_11 (lv_at hl 0 rfl) ?_
      refine lv_aload_n hx hb dX1_remove_13 rfl (lv_at hl 3 rfl) ?_
      refine m_getN (ci := 0) (v := .int (iI x)) (C := RX0) (T := TX0) (N := 4) hx hb hts (by decide +kernel) hown K hG ((mset_ne (mne h3 h2 (by intro h; cases h))).trans h3) rfl 1 (by decide) K.2.1.2 rfl dX1_remove_14 ?_
      refine m_icmp_gt (tgt := 41) hx hb dX1_remove_17 (by decide) ⟨by omega, by omega⟩ ⟨by omega, by omega⟩ (fun c17 => ?_) (fun c17 => ?_)
      · exact m_vret hx hb hr hlk hQ hG hS (Nat.le_of_ble_eq_true rfl) (Nat.le_of_ble_eq_true rfl) dX1_remove_41 (by show mset M r (aL 64 T) = mset M r _; refine congrArg (fun q => mset M r (aL 64 q)) (funext fun a => funext fun c => ?_); rw [hA]; by_cases g : w ≤ (a : Int) ∧ (a : Int) ≤ x; rw [if_pos g, if_pos (by omega)]; rw [if_neg g, if_neg (by omega)])
      · refine lv_aload_n hx hb dX1_remove_20 rfl (lv_at hl 2 rfl) ?_
        refine m_get (ci := 1) (v := .ref r) (C := RX1) (T := TX1) (N := 1) hx hb hts (by decide +kernel) hown K hG ((mset_ne (mne h1 h2 (by intro h; cases h))).trans h1) rfl 0 (by decide) (by decide +kernel) rfl dX1_remove_21 ?_
        refine lv_iload hx hb dX1_remove_24 (lv_at hl 0 rfl) ?_
        refine lv_dup2_11 hx hb dX1_remove_26 rfl rfl ?_
        refine m_lald hx hb hG mset_self i.toNat (by omega) (by omega) (by decide) dX1_remove_27 ?_
        refine lv_lload_n hx hb dX1_remove_28 rfl (lv_at hl 1 rfl) ?_
        refine lv_ldc2 (v := -1) hx hb hown (hts _ (by decide +kernel : Cond.constantLong RX1 34 (-1) ∈ wsX1_remove)) dX1_remove_29 ?_
        refine m_topl bO_m1 ?_
        refine m_lnot hx hb dX1_remove_32 ?_
        refine m_land hx hb dX1_remove_33 ?_
        refine m_last hx hb hG hS mset_self i.toNat (by omega) (by omega) (by decide) dX1_remove_34 (fun H locs hG hS => ?_)
        rw [mset_mset] at hG
        have hG : mG D b (mset M r (aL 64 (va_up T i.toNat (fun tt => (T i.toNat) tt && (!(decide (y ≤ (tt : Int) ∧ (tt : Int) ≤ z))))))) s H := hG
        refine m_iinc (lv' := [(4, .int (iI (i + 1))), (2, .long (bO (fun tt => decide (y ≤ (tt : Int) ∧ (tt : Int) ≤ z)))), (0, .ref h), (1, .ref o)]) (k := 0) hx hb dX1_remove_35 hl rfl (by decide) rfl (fun ls hl => ?_)
        refine lv_goto (tgt := 11) hx hb dX1_remove_38 (by decide) ?_
        exact ih11 (i + 1) (va_up T i.toNat (fun tt => (T i.toNat) tt && (!(decide (y ≤ (tt : Int) ∧ (tt : Int) ≤ z))))) _ _ _ (by omega) (by omega) (fun a c => by by_cases g : a = i.toNat; rw [g, va_up_self, if_pos (by omega)]; simp only [hA]; (try rw [if_neg (by omega)]); rw [va_up_ne _ _ g, hA]; by_cases g2 : w ≤ (a : Int) ∧ (a : Int) < i; rw [if_pos g2, if_pos (by omega)]; rw [if_neg g2, if_neg (by omega)]) (by omega) hG hS (lv_sub hl [0, 1, 2, 3] rfl)
  exact loop11 _ w S _ _ _ (by omega) (by omega) (fun a c => by rw [if_neg (by omega)]) (Nat.lt_succ_self _) (by rw [mset_id h2]; exact hG) hS (lv_sub hl [0, 1, 2, 3] rfl)
end
section
def spA (k : Nat) (S : Nat → Nat → Bool) (a c : Nat) : Bool := S a c || ((decide (k ≤ c) && S a (c - k)) || (decide (c + k < 64) && S a (c + k)))
def sp1 (k : Nat) (S : Nat → Nat → Bool) : Nat → Nat → Bool := fun a c => if a < 64 then spA k S a c else S a c
def sp2 (k : Nat) (U : Nat → Nat → Bool) : Nat → Nat → Bool := fun a c => if k ≤ a ∧ a < 64 then (U a c || U (a - k) c) else U a c
def sp3 (k : Nat) (U : Nat → Nat → Bool) : Nat → Nat → Bool := fun a c => if a + k < 64 then (U a c || U (a + k) c) else U a c
/-- places within reach d of a place of S -/
def wide (d : Nat) (S : Nat → Nat → Bool) (a c : Nat) : Prop := ∃ a2 c2 : Nat, (a2 < 64 ∧ c2 < 64) ∧ (a ≤ a2 + d ∧ a2 ≤ a + d) ∧ (c ≤ c2 + d ∧ c2 ≤ c + d) ∧ S a2 c2 = true
theorem spA_iff {k : Nat} {S : Nat → Nat → Bool} {a c : Nat} : spA k S a c = true ↔ S a c = true ∨ (k ≤ c ∧ S a (c - k) = true) ∨ (c + k < 64 ∧ S a (c + k) = true) := by
  unfold spA
  simp only [Bool.or_eq_true, Bool.and_eq_true, decide_eq_true_eq]
theorem sp_iff {k : Nat} {S : Nat → Nat → Bool} {a c : Nat} (ha : a < 64) (hk : 0 < k) : sp3 k (sp2 k (sp1 k S)) a c = true ↔ spA k S a c = true ∨ (k ≤ a ∧ spA k S (a - k) c = true) ∨ (a + k < 64 ∧ spA k S (a + k) c = true) := by
  have e1 : ∀ q, q < 64 → sp1 k S q c = spA k S q c := fun q hq => by unfold sp1; rw [if_pos hq]
  have e2 : ∀ q, q < 64 → (sp2 k (sp1 k S) q c = true ↔ spA k S q c = true ∨ (k ≤ q ∧ spA k S (q - k) c = true)) := by
    intro q hq
    unfold sp2
    by_cases h : k ≤ q
    · rw [if_pos ⟨h, hq⟩, Bool.or_eq_true, e1 q hq, e1 (q - k) (by omega)]
      simp [h]
    · rw [if_neg (fun z => h z.1), e1 q hq]
      simp [h]
  unfold sp3
  by_cases h : a + k < 64
  · rw [if_pos h, Bool.or_eq_true, e2 a ha, e2 (a + k) h, Nat.add_sub_cancel]
    constructor
    · rintro ((h1 | h1) | (h1 | h1))
      · exact Or.inl h1
      · exact Or.inr (Or.inl h1)
      · exact Or.inr (Or.inr ⟨h, h1⟩)
      · exact Or.inl h1.2
    · rintro (h1 | h1 | h1)
      · exact Or.inl (Or.inl h1)
      · exact Or.inl (Or.inr h1)
      · exact Or.inr (Or.inl h1.2)
  · rw [if_neg h, e2 a ha]
    constructor
    · rintro (h1 | h1)
      · exact Or.inl h1
      · exact Or.inr (Or.inl h1)
    · rintro (h1 | h1 | h1)
      · exact Or.inl h1
      · exact Or.inr h1
      · exact absurd h1.1 h
theorem wide_0 {S : Nat → Nat → Bool} {a c : Nat} (ha : a < 64) (hc : c < 64) : wide 0 S a c ↔ S a c = true := by
  constructor
  · rintro ⟨a2, c2, -, h1, h2, h3⟩
    rw [show a = a2 by omega, show c = c2 by omega]
    exact h3
  · intro h
    exact ⟨a, c, ⟨ha, hc⟩, by omega, by omega, h⟩
/-- one axis: a step k on top of a reach d, k at most d + 1 -/
theorem near_step {d k x x2 : Nat} (hk : k ≤ d + 1) (h2 : x2 < 64) (hx : x < 64) (h : x ≤ x2 + (d + k) ∧ x2 ≤ x + (d + k)) : (x ≤ x2 + d ∧ x2 ≤ x + d) ∨ (k ≤ x ∧ (x - k ≤ x2 + d ∧ x2 ≤ (x - k) + d)) ∨ (x + k < 64 ∧ (x + k ≤ x2 + d ∧ x2 ≤ (x + k) + d)) := by omega
theorem wide_step {d k : Nat} {S T : Nat → Nat → Bool} (hk0 : 0 < k) (hk : k ≤ d + 1) (hT : ∀ a c, a < 64 → c < 64 → (T a c = true ↔ wide d S a c)) {a c : Nat} (ha : a < 64) (hc : c < 64) : sp3 k (sp2 k (sp1 k T)) a c = true ↔ wide (d + k) S a c := by
  have eA : ∀ q, q < 64 → (spA k T q c = true ↔ ∃ a2 c2 : Nat, (a2 < 64 ∧ c2 < 64) ∧ (q ≤ a2 + d ∧ a2 ≤ q + d) ∧ (c ≤ c2 + (d + k) ∧ c2 ≤ c + (d + k)) ∧ S a2 c2 = true) := by
    intro q hq
    rw [spA_iff]
    constructor
    · rintro (h | ⟨g, h⟩ | ⟨g, h⟩)
      · obtain ⟨a2, c2, h1, h2, h3, h4⟩ := (hT q c hq hc).mp h
        exact ⟨a2, c2, h1, h2, by omega, h4⟩
      · obtain ⟨a2, c2, h1, h2, h3, h4⟩ := (hT q (c - k) hq (by omega)).mp h
        exact ⟨a2, c2, h1, h2, by omega, h4⟩
      · obtain ⟨a2, c2, h1, h2, h3, h4⟩ := (hT q (c + k) hq g).mp h
        exact ⟨a2, c2, h1, h2, by omega, h4⟩
    · rintro ⟨a2, c2, h1, h2, h3, h4⟩
      rcases near_step hk h1.2 hc h3 with h | ⟨g, h⟩ | ⟨g, h⟩
      · exact Or.inl ((hT q c hq hc).mpr ⟨a2, c2, h1, h2, h, h4⟩)
      · exact Or.inr (Or.inl ⟨g, (hT q (c - k) hq (by omega)).mpr ⟨a2, c2, h1, h2, h, h4⟩⟩)
      · exact Or.inr (Or.inr ⟨g, (hT q (c + k) hq g).mpr ⟨a2, c2, h1, h2, h, h4⟩⟩)
  rw [sp_iff ha hk0]
  constructor
  · rintro (h | ⟨g, h⟩ | ⟨g, h⟩)
    · obtain ⟨a2, c2, h1, h2, h3, h4⟩ := (eA a ha).mp h
      exact ⟨a2, c2, h1, by omega, h3, h4⟩
    · obtain ⟨a2, c2, h1, h2, h3, h4⟩ := (eA (a - k) (by omega)).mp h
      exact ⟨a2, c2, h1, by omega, h3, h4⟩
    · obtain ⟨a2, c2, h1, h2, h3, h4⟩ := (eA (a + k) g).mp h
      exact ⟨a2, c2, h1, by omega, h3, h4⟩
  · rintro ⟨a2, c2, h1, h2, h3, h4⟩
    rcases near_step hk h1.1 ha h2 with h | ⟨g, h⟩ | ⟨g, h⟩
    · exact Or.inl ((eA a ha).mpr ⟨a2, c2, h1, h, h3, h4⟩)
    · exact Or.inr (Or.inl ⟨g, (eA (a - k) (by omega)).mpr ⟨a2, c2, h1, h, h3, h4⟩⟩)
    · exact Or.inr (Or.inr ⟨g, (eA (a + k) g).mpr ⟨a2, c2, h1, h, h3, h4⟩⟩)
set_option maxHeartbeats 4000000 in
set_option maxRecDepth 100000 in
theorem c_X1_keep (l : Launch) (D : va_G) (b : Nat) (M : mM) (h r : Nat) (S : Nat → Nat → Bool) (h1 : M h = some (Pl r)) (h2 : M r = some (aL 64 S)) (o : Nat) (w x y z : Int) (h3 : M o = some (Bx w x y z)) (hw : 0 ≤ w) (hwx : w ≤ x) (hx0 : x ≤ 63) (hy : 0 ≤ y) (hyz : y ≤ z) (hz : z ≤ 63) : Met l yX1_keep wsX1_keep ({ frames := 1, cells := 0, slots := 0, locals := 20 } : Room) (mPc [.ref h, .ref o] D b M) (mQv D b (fV (mset M r (aL 64 (fun a c => if (a : Int) < 64 then (decide (w ≤ (a : Int) ∧ (a : Int) ≤ x) && (S a c && decide (y ≤ (c : Int) ∧ (c : Int) ≤ z))) else S a c))))) 0 0 (mF b) := by
  refine m_met (cc := cX1_keep) (maxL := 5) (ret := none) (by decide) rfl (Nat.le_of_ble_eq_true rfl) ?_
  intro p e s m args below meth c Q ls hx hb hml hr hts hown hlk hnm hQ K hG hS hl
  have hown : s.vm.findClass RX1 = some m.cls := hown
  have hl : lv_has ls 5 [(0, .ref h), (1, .ref o)] := hl
  refine lv_aload_n hx hb dX1_keep_0 rfl (lv_at hl 1 rfl) ?_
  refine m_callfl (m_runV (a := o) (As := []) (rest := []) ⟨hx, hb, hml, hown, hts⟩ (c_X0_rowBits l D b _ o w x y z h3 (by omega) (by omega) (by omega)) (cwV 0 hts gX1_keep_X0_rowBits rfl rfl rfl (by decide +kernel) ⟨Nat.le_of_ble_eq_true rfl, Nat.le_of_ble_eq_true rfl⟩) K hG h3 rfl rfl rfl hl.1 rfl (Nat.le_of_ble_eq_true rfl) dX1_keep_1 ⟨Nat.le_of_ble_eq_true rfl, Nat.le_of_ble_eq_true rfl⟩) hS (fun H locs hG hS => ?_)
  have hG : mG D b M s H := hG
  refine lv_lstore_n (lv' := [(2, .long (bO (fun tt => decide (y ≤ (tt : Int) ∧ (tt : Int) ≤ z)))), (0, .ref h), (1, .ref o)]) hx hb dX1_keep_4 rfl hl (by decide) rfl (fun ls hl => ?_)
  refine lv_iconst (v := iI 0) hx hb dX1_keep_5 rfl ?_
  refine lv_istore (lv' := [(4, .int (iI 0)), (2, .long (bO (fun tt => decide (y ≤ (tt : Int) ∧ (tt : Int) ≤ z)))), (0, .ref h), (1, .ref o)]) hx hb dX1_keep_6 hl (by decide) rfl (fun ls hl => ?_)
  have loop8 : ∀ (fuel : Nat) (i : Int) (T : Nat → Nat → Bool) (H : Heap) (locs : List Loc) (ls : Array Slot), (0 ≤ i) → (i ≤ 64) → (∀ a c : Nat, T a c = if (a : Int) < i then (decide (w ≤ (a : Int) ∧ (a : Int) ≤ x) && (S a c && decide (y ≤ (c : Int) ∧ (c : Int) ≤ z))) else S a c) → (64 - i).toNat < fuel → mG D b (mset M r (aL 64 T)) s H → va_S (mF b) s.heap H locs → lv_has ls 5 [(4, .int (iI i)), (2, .long (bO (fun tt => decide (y ≤ (tt : Int) ∧ (tt : Int) ≤ z)))), (0, .ref h), (1, .ref o)] → W p l e ({ frames := 1, cells := 0, slots := 0, locals := 20 } : Room) s m args below meth c H locs 0 0 Q (F0 m 8 ls []) := by
    intro fuel
    induction fuel with
    | zero => intro i T H locs ls hi0 hi1 hA hm; exact absurd hm (Nat.not_lt_zero _)
    | succ fuel ih8 =>
      intro i T H locs ls hi0 hi1 hA hm hG hS hl
      refine lv_iload hx hb dX1_keep_8 (lv_at hl 0 rfl) ?_
      refine lv_bipush (v := iI 64) hx hb dX1_keep_10 (by decide) ?_
      refine m_icmp_ge (tgt := 59) hx hb dX1_keep_12 (by decide) ⟨by omega, by omega⟩ ⟨by omega, by omega⟩ (fun c12 => ?_) (fun c12 => ?_)
      · exact m_vret hx hb hr hlk hQ hG hS (Nat.le_of_ble_eq_true rfl) (Nat.le_of_ble_eq_true rfl) dX1_keep_59 (by show mset M r (aL 64 T) = mset M r _; refine congrArg (fun q => mset M r (aL 64 q)) (funext fun a => funext fun c => ?_); rw [hA]; by_cases g : (a : Int) < 64; rw [if_pos g, if_pos (by omega)]; rw [if_neg g, if_neg (by omega)])
      · refine lv_aload_n hx hb dX1_keep_15 rfl (lv_at hl 2 rfl) ?_
        refine m_get (ci := 1) (v := .ref r) (C := RX1) (T := TX1) (N := 1) hx hb hts (by decide +kernel) hown K hG ((mset_ne (mne h1 h2 (by intro h; cases h))).trans h1) rfl 0 (by decide) (by decide +kernel) rfl dX1_keep_16 ?_
        refine lv_iload hx hb dX1_keep_19 (lv_at hl 0 rfl) ?_
        refine lv_iload hx hb dX1_keep_21 (lv_at hl 0 rfl) ?_
        refine lv_aload_n hx hb dX1_keep_23 rfl (lv_at hl 3 rfl) ?_
        refine m_getN (ci := 0) (v := .int (iI w)) (C := RX0) (T := TX0) (N := 4) hx hb hts (by decide +kernel) hown K hG ((mset_ne (mne h3 h2 (by intro h; cases h))).trans h3) rfl 0 (by decide) K.2.1.1 rfl dX1_keep_24 ?_
        refine m_icmp_lt (tgt := 39) hx hb dX1_keep_27 (by decide) ⟨by omega, by omega⟩ ⟨by omega, by omega⟩ (fun c27 => ?_) (fun c27 => ?_)
        · refine lv_lconst (v := 0) hx hb dX1_keep_39 rfl ?_
          refine m_topl bO_0 ?_
          refine lv_goto (tgt := 52) hx hb dX1_keep_40 (by decide) ?_
          refine m_last hx hb hG hS mset_self i.toNat (by omega) (by omega) (by decide) dX1_keep_52 (fun H locs hG hS => ?_)
          rw [mset_mset] at hG
          have hG : mG D b (mset M r (aL 64 (va_up T i.toNat (fun _ => false)))) s H := hG
          refine m_iinc (lv' := [(4, .int (iI (i + 1))), (2, .long (bO (fun tt => decide (y ≤ (tt : Int) ∧ (tt : Int) ≤ z)))), (0, .ref h), (1, .ref o)]) (k := 0) hx hb dX1_keep_53 hl rfl (by decide) rfl (fun ls hl => ?_)
          refine lv_goto (tgt := 8) hx hb dX1_keep_56 (by decide) ?_
          exact ih8 (i + 1) (va_up T i.toNat (fun _ => false)) _ _ _ (by omega) (by omega) (fun a c => by by_cases g : a = i.toNat; rw [g, va_up_self, if_pos (by omega), decide_eq_false (by omega), Bool.false_and]; rw [va_up_ne _ _ g, hA]; by_cases g2 : (a : Int) < i; rw [if_pos g2, if_pos (by omega)]; rw [if_neg g2, if_neg (by omega)]) (by omega) hG hS (lv_sub hl [0, 1, 2, 3] rfl)
        · refine lv_iload hx hb dX1_keep_30 (lv_at hl 0 rfl) ?_
          refine lv_aload_n hx hb dX1_keep_32 rfl (lv_at hl 3 rfl) ?_
          refine m_getN (ci := 0) (v := .int (iI x)) (C := RX0) (T := TX0) (N := 4) hx hb hts (by decide +kernel) hown K hG ((mset_ne (mne h3 h2 (by intro h; cases h))).trans h3) rfl 1 (by decide) K.2.1.2 rfl dX1_keep_33 ?_
          refine m_icmp_le (tgt := 43) hx hb dX1_keep_36 (by decide) ⟨by omega, by omega⟩ ⟨by omega, by omega⟩ (fun c36 => ?_) (fun c36 => ?_)
          · refine lv_aload_n hx hb dX1_keep_43 rfl (lv_at hl 2 rfl) ?_
            refine m_get (ci := 1) (v := .ref r) (C := RX1) (T := TX1) (N := 1) hx hb hts (by decide +kernel) hown K hG ((mset_ne (mne h1 h2 (by intro h; cases h))).trans h1) rfl 0 (by decide) (by decide +kernel) rfl dX1_keep_44 ?_
            refine lv_iload hx hb dX1_keep_47 (lv_at hl 0 rfl) ?_
            refine m_lald hx hb hG mset_self i.toNat (by omega) (by omega) (by decide) dX1_keep_49 ?_
            refine lv_lload_n hx hb dX1_keep_50 rfl (lv_at hl 1 rfl) ?_
            refine m_land hx hb dX1_keep_51 ?_
            refine m_last hx hb hG hS mset_self i.toNat (by omega) (by omega) (by decide) dX1_keep_52 (fun H locs hG hS => ?_)
            rw [mset_mset] at hG
            have hG : mG D b (mset M r (aL 64 (va_up T i.toNat (fun tt => (T i.toNat) tt && (decide (y ≤ (tt : Int) ∧ (tt : Int) ≤ z)))))) s H := hG
            refine m_iinc (lv' := [(4, .int (iI (i + 1))), (2, .long (bO (fun tt => decide (y ≤ (tt : Int) ∧ (tt : Int) ≤ z)))), (0, .ref h), (1, .ref o)]) (k := 0) hx hb dX1_keep_53 hl rfl (by decide) rfl (fun ls hl => ?_)
            refine lv_goto (tgt := 8) hx hb dX1_keep_56 (by decide) ?_
            exact ih8 (i + 1) (va_up T i.toNat (fun tt => (T i.toNat) tt && (decide (y ≤ (tt : Int) ∧ (tt : Int) ≤ z)))) _ _ _ (by omega) (by omega) (fun a c => by by_cases g : a = i.toNat; rw [g, va_up_self, if_pos (by omega)]; simp only [hA]; rw [if_neg (by omega), decide_eq_true (p := w ≤ _ ∧ _) (by omega), Bool.true_and]; rw [va_up_ne _ _ g, hA]; by_cases g2 : (a : Int) < i; rw [if_pos g2, if_pos (by omega)]; rw [if_neg g2, if_neg (by omega)]) (by omega) hG hS (lv_sub hl [0, 1, 2, 3] rfl)
          · refine lv_lconst (v := 0) hx hb dX1_keep_39 rfl ?_
            refine m_topl bO_0 ?_
            refine lv_goto (tgt := 52) hx hb dX1_keep_40 (by decide) ?_
            refine m_last hx hb hG hS mset_self i.toNat (by omega) (by omega) (by decide) dX1_keep_52 (fun H locs hG hS => ?_)
            rw [mset_mset] at hG
            have hG : mG D b (mset M r (aL 64 (va_up T i.toNat (fun _ => false)))) s H := hG
            refine m_iinc (lv' := [(4, .int (iI (i + 1))), (2, .long (bO (fun tt => decide (y ≤ (tt : Int) ∧ (tt : Int) ≤ z)))), (0, .ref h), (1, .ref o)]) (k := 0) hx hb dX1_keep_53 hl rfl (by decide) rfl (fun ls hl => ?_)
            refine lv_goto (tgt := 8) hx hb dX1_keep_56 (by decide) ?_
            exact ih8 (i + 1) (va_up T i.toNat (fun _ => false)) _ _ _ (by omega) (by omega) (fun a c => by by_cases g : a = i.toNat; rw [g, va_up_self, if_pos (by omega), decide_eq_false (by omega), Bool.false_and]; rw [va_up_ne _ _ g, hA]; by_cases g2 : (a : Int) < i; rw [if_pos g2, if_pos (by omega)]; rw [if_neg g2, if_neg (by omega)]) (by omega) hG hS (lv_sub hl [0, 1, 2, 3] rfl)
  exact loop8 _ 0 S _ _ _ (by omega) (by omega) (fun a c => by rw [if_neg (by omega)]) (Nat.lt_succ_self _) (by rw [mset_id h2]; exact hG) hS (lv_sub hl [0, 1, 2, 3] rfl)

set_option maxHeartbeats 4000000 in
set_option maxRecDepth 100000 in
theorem c_X1_setTo (l : Launch) (D : va_G) (b : Nat) (M : mM) (h r : Nat) (S : Nat → Nat → Bool) (h1 : M h = some (Pl r)) (h2 : M r = some (aL 64 S)) (o : Nat) (w x y z : Int) (h3 : M o = some (Bx w x y z)) (hw : 0 ≤ w) (hwx : w ≤ x) (hx0 : x ≤ 63) (hy : 0 ≤ y) (hyz : y ≤ z) (hz : z ≤ 63) : Met l yX1_setTo wsX1_setTo ({ frames := 1, cells := 0, slots := 0, locals := 20 } : Room) (mPc [.ref h, .ref o] D b M) (mQv D b (fV (mset M r (aL 64 (fun a c => if (a : Int) < 64 then (decide (w ≤ (a : Int) ∧ (a : Int) ≤ x) && decide (y ≤ (c : Int) ∧ (c : Int) ≤ z)) else S a c))))) 0 0 (mF b) := by
  refine m_met (cc := cX1_setTo) (maxL := 5) (ret := none) (by decide) rfl (Nat.le_of_ble_eq_true rfl) ?_
  intro p e s m args below meth c Q ls hx hb hml hr hts hown hlk hnm hQ K hG hS hl
  have hown : s.vm.findClass RX1 = some m.cls := hown
  have hl : lv_has ls 5 [(0, .ref h), (1, .ref o)] := hl
  refine lv_aload_n hx hb dX1_setTo_0 rfl (lv_at hl 1 rfl) ?_
  refine m_callfl (m_runV (a := o) (As := []) (rest := []) ⟨hx, hb, hml, hown, hts⟩ (c_X0_rowBits l D b _ o w x y z h3 (by omega) (by omega) (by omega)) (cwV 0 hts gX1_setTo_X0_rowBits rfl rfl rfl (by decide +kernel) ⟨Nat.le_of_ble_eq_true rfl, Nat.le_of_ble_eq_true rfl⟩) K hG h3 rfl rfl rfl hl.1 rfl (Nat.le_of_ble_eq_true rfl) dX1_setTo_1 ⟨Nat.le_of_ble_eq_true rfl, Nat.le_of_ble_eq_true rfl⟩) hS (fun H locs hG hS => ?_)
  have hG : mG D b M s H := hG
  refine lv_lstore_n (lv' := [(2, .long (bO (fun tt => decide (y ≤ (tt : Int) ∧ (tt : Int) ≤ z)))), (0, .ref h), (1, .ref o)]) hx hb dX1_setTo_4 rfl hl (by decide) rfl (fun ls hl => ?_)
  refine lv_iconst (v := iI 0) hx hb dX1_setTo_5 rfl ?_
  refine lv_istore (lv' := [(4, .int (iI 0)), (2, .long (bO (fun tt => decide (y ≤ (tt : Int) ∧ (tt : Int) ≤ z)))), (0, .ref h), (1, .ref o)]) hx hb dX1_setTo_6 hl (by decide) rfl (fun ls hl => ?_)
  have loop8 : ∀ (fuel : Nat) (i : Int) (T : Nat → Nat → Bool) (H : Heap) (locs : List Loc) (ls : Array Slot), (0 ≤ i) → (i ≤ 64) → (∀ a c : Nat, T a c = if (a : Int) < i then (decide (w ≤ (a : Int) ∧ (a : Int) ≤ x) && decide (y ≤ (c : Int) ∧ (c : Int) ≤ z)) else S a c) → (64 - i).toNat < fuel → mG D b (mset M r (aL 64 T)) s H → va_S (mF b) s.heap H locs → lv_has ls 5 [(4, .int (iI i)), (2, .long (bO (fun tt => decide (y ≤ (tt : Int) ∧ (tt : Int) ≤ z)))), (0, .ref h), (1, .ref o)] → W p l e ({ frames := 1, cells := 0, slots := 0, locals := 20 } : Room) s m args below meth c H locs 0 0 Q (F0 m 8 ls []) := by
    intro fuel
    induction fuel with
    | zero => intro i T H locs ls hi0 hi1 hA hm; exact absurd hm (Nat.not_lt_zero _)
    | succ fuel ih8 =>
      intro i T H locs ls hi0 hi1 hA hm hG hS hl
      refine lv_iload hx hb dX1_setTo_8 (lv_at hl 0 rfl) ?_
      refine lv_bipush (v := iI 64) hx hb dX1_setTo_10 (by decide) ?_
      refine m_icmp_ge (tgt := 51) hx hb dX1_setTo_12 (by decide) ⟨by omega, by omega⟩ ⟨by omega, by omega⟩ (fun c12 => ?_) (fun c12 => ?_)
      · exact m_vret hx hb hr hlk hQ hG hS (Nat.le_of_ble_eq_true rfl) (Nat.le_of_ble_eq_true rfl) dX1_setTo_51 (by show mset M r (aL 64 T) = mset M r _; refine congrArg (fun q => mset M r (aL 64 q)) (funext fun a => funext fun c => ?_); rw [hA]; by_cases g : (a : Int) < 64; rw [if_pos g, if_pos (by omega)]; rw [if_neg g, if_neg (by omega)])
      · refine lv_aload_n hx hb dX1_setTo_15 rfl (lv_at hl 2 rfl) ?_
        refine m_get (ci := 1) (v := .ref r) (C := RX1) (T := TX1) (N := 1) hx hb hts (by decide +kernel) hown K hG ((mset_ne (mne h1 h2 (by intro h; cases h))).trans h1) rfl 0 (by decide) (by decide +kernel) rfl dX1_setTo_16 ?_
        refine lv_iload hx hb dX1_setTo_19 (lv_at hl 0 rfl) ?_
        refine lv_iload hx hb dX1_setTo_21 (lv_at hl 0 rfl) ?_
        refine lv_aload_n hx hb dX1_setTo_23 rfl (lv_at hl 3 rfl) ?_
        refine m_getN (ci := 0) (v := .int (iI w)) (C := RX0) (T := TX0) (N := 4) hx hb hts (by decide +kernel) hown K hG ((mset_ne (mne h3 h2 (by intro h; cases h))).trans h3) rfl 0 (by decide) K.2.1.1 rfl dX1_setTo_24 ?_
        refine m_icmp_lt (tgt := 39) hx hb dX1_setTo_27 (by decide) ⟨by omega, by omega⟩ ⟨by omega, by omega⟩ (fun c27 => ?_) (fun c27 => ?_)
        · refine lv_lconst (v := 0) hx hb dX1_setTo_39 rfl ?_
          refine m_topl bO_0 ?_
          refine lv_goto (tgt := 44) hx hb dX1_setTo_40 (by decide) ?_
          refine m_last hx hb hG hS mset_self i.toNat (by omega) (by omega) (by decide) dX1_setTo_44 (fun H locs hG hS => ?_)
          rw [mset_mset] at hG
          have hG : mG D b (mset M r (aL 64 (va_up T i.toNat (fun _ => false)))) s H := hG
          refine m_iinc (lv' := [(4, .int (iI (i + 1))), (2, .long (bO (fun tt => decide (y ≤ (tt : Int) ∧ (tt : Int) ≤ z)))), (0, .ref h), (1, .ref o)]) (k := 0) hx hb dX1_setTo_45 hl rfl (by decide) rfl (fun ls hl => ?_)
          refine lv_goto (tgt := 8) hx hb dX1_setTo_48 (by decide) ?_
          exact ih8 (i + 1) (va_up T i.toNat (fun _ => false)) _ _ _ (by omega) (by omega) (fun a c => by by_cases g : a = i.toNat; rw [g, va_up_self, if_pos (by omega), decide_eq_false (by omega), Bool.false_and]; rw [va_up_ne _ _ g, hA]; by_cases g2 : (a : Int) < i; rw [if_pos g2, if_pos (by omega)]; rw [if_neg g2, if_neg (by omega)]) (by omega) hG hS (lv_sub hl [0, 1, 2, 3] rfl)
        · refine lv_iload hx hb dX1_setTo_30 (lv_at hl 0 rfl) ?_
          refine lv_aload_n hx hb dX1_setTo_32 rfl (lv_at hl 3 rfl) ?_
          refine m_getN (ci := 0) (v := .int (iI x)) (C := RX0) (T := TX0) (N := 4) hx hb hts (by decide +kernel) hown K hG ((mset_ne (mne h3 h2 (by intro h; cases h))).trans h3) rfl 1 (by decide) K.2.1.2 rfl dX1_setTo_33 ?_
          refine m_icmp_le (tgt := 43) hx hb dX1_setTo_36 (by decide) ⟨by omega, by omega⟩ ⟨by omega, by omega⟩ (fun c36 => ?_) (fun c36 => ?_)
          · refine lv_lload_n hx hb dX1_setTo_43 rfl (lv_at hl 1 rfl) ?_
            refine m_last hx hb hG hS mset_self i.toNat (by omega) (by omega) (by decide) dX1_setTo_44 (fun H locs hG hS => ?_)
            rw [mset_mset] at hG
            have hG : mG D b (mset M r (aL 64 (va_up T i.toNat (fun tt => decide (y ≤ (tt : Int) ∧ (tt : Int) ≤ z))))) s H := hG
            refine m_iinc (lv' := [(4, .int (iI (i + 1))), (2, .long (bO (fun tt => decide (y ≤ (tt : Int) ∧ (tt : Int) ≤ z)))), (0, .ref h), (1, .ref o)]) (k := 0) hx hb dX1_setTo_45 hl rfl (by decide) rfl (fun ls hl => ?_)
            refine lv_goto (tgt := 8) hx hb dX1_setTo_48 (by decide) ?_
            exact ih8 (i + 1) (va_up T i.toNat (fun tt => decide (y ≤ (tt : Int) ∧ (tt : Int) ≤ z))) _ _ _ (by omega) (by omega) (fun a c => by by_cases g : a = i.toNat; rw [g, va_up_self, if_pos (by omega), decide_eq_true (p := w ≤ _ ∧ _) (by omega), Bool.true_and]; rw [va_up_ne _ _ g, hA]; by_cases g2 : (a : Int) < i; rw [if_pos g2, if_pos (by omega)]; rw [if_neg g2, if_neg (by omega)]) (by omega) hG hS (lv_sub hl [0, 1, 2, 3] rfl)
          · refine lv_lconst (v := 0) hx hb dX1_setTo_39 rfl ?_
            refine m_topl bO_0 ?_
            refine lv_goto (tgt := 44) hx hb dX1_setTo_40 (by decide) ?_
            refine m_last hx hb hG hS mset_self i.toNat (by omega) (by omega) (by decide) dX1_setTo_44 (fun H locs hG hS => ?_)
            rw [mset_mset] at hG
            have hG : mG D b (mset M r (aL 64 (va_up T i.toNat (fun _ => false)))) s H := hG
            refine m_iinc (lv' := [(4, .int (iI (i + 1))), (2, .long (bO (fun tt => decide (y ≤ (tt : Int) ∧ (tt : Int) ≤ z)))), (0, .ref h), (1, .ref o)]) (k := 0) hx hb dX1_setTo_45 hl rfl (by decide) rfl (fun ls hl => ?_)
            refine lv_goto (tgt := 8) hx hb dX1_setTo_48 (by decide) ?_
            exact ih8 (i + 1) (va_up T i.toNat (fun _ => false)) _ _ _ (by omega) (by omega) (fun a c => by by_cases g : a = i.toNat; rw [g, va_up_self, if_pos (by omega), decide_eq_false (by omega), Bool.false_and]; rw [va_up_ne _ _ g, hA]; by_cases g2 : (a : Int) < i; rw [if_pos g2, if_pos (by omega)]; rw [if_neg g2, if_neg (by omega)]) (by omega) hG hS (lv_sub hl [0, 1, 2, 3] rfl)
  exact loop8 _ 0 S _ _ _ (by omega) (by omega) (fun a c => by rw [if_neg (by omega)]) (Nat.lt_succ_self _) (by rw [mset_id h2]; exact hG) hS (lv_sub hl [0, 1, 2, 3] rfl)

set_option maxHeartbeats 4000000 in
set_option maxRecDepth 100000 in
theorem c_X1_setToAllBut (l : Launch) (D : va_G) (b : Nat) (M : mM) (h r : Nat) (S : Nat → Nat → Bool) (h1 : M h = some (Pl r)) (h2 : M r = some (aL 64 S)) (p2 r2 : Nat) (S2 : Nat → Nat → Bool) (g1 : M p2 = some (Pl r2)) (g2 : M r2 = some (aL 64 S2)) (hrr : r2 ≠ r) : Met l yX1_setToAllBut wsX1_setToAllBut ({ frames := 0, cells := 0, slots := 0, locals := 0 } : Room) (mPc [.ref h, .ref p2] D b M) (mQv D b (fV (mset M r (aL 64 (fun a c => if (a : Int) < 64 then (!S2 a c) else S a c))))) 0 0 (mF b) := by
  refine m_met (cc := cX1_setToAllBut) (maxL := 3) (ret := none) (by decide) rfl (Nat.le_of_ble_eq_true rfl) ?_
  intro p e s m args below meth c Q ls hx hb hml hr hts hown hlk hnm hQ K hG hS hl
  have hown : s.vm.findClass RX1 = some m.cls := hown
  have hl : lv_has ls 3 [(0, .ref h), (1, .ref p2)] := hl
  refine lv_iconst (v := iI 0) hx hb dX1_setToAllBut_0 rfl ?_
  refine lv_istore_n (lv' := [(2, .int (iI 0)), (0, .ref h), (1, .ref p2)]) hx hb dX1_setToAllBut_1 rfl hl (by decide) rfl (fun ls hl => ?_)
  have loop2 : ∀ (fuel : Nat) (i : Int) (T : Nat → Nat → Bool) (H : Heap) (locs : List Loc) (ls : Array Slot), (0 ≤ i) → (i ≤ 64) → (∀ a c : Nat, T a c = if (a : Int) < i then (!S2 a c) else S a c) → (64 - i).toNat < fuel → mG D b (mset M r (aL 64 T)) s H → va_S (mF b) s.heap H locs → lv_has ls 3 [(2, .int (iI i)), (0, .ref h), (1, .ref p2)] → W p l e ({ frames := 0, cells := 0, slots := 0, locals := 0 } : Room) s m args below meth c H locs 0 0 Q (F0 m 2 ls []) := by
    intro fuel
    induction fuel with
    | zero => intro i T H locs ls hi0 hi1 hA hm; exact absurd hm (Nat.not_lt_zero _)
    | succ fuel ih2 =>
      intro i T H locs ls hi0 hi1 hA hm hG hS hl
      refine lv_iload_n hx hb dX1_setToAllBut_2 rfl (lv_at hl 0 rfl) ?_
      refine lv_bipush (v := iI 64) hx hb dX1_setToAllBut_3 (by decide) ?_
      refine m_icmp_ge (tgt := 30) hx hb dX1_setToAllBut_5 (by decide) ⟨by omega, by omega⟩ ⟨by omega, by omega⟩ (fun c5 => ?_) (fun c5 => ?_)
      · exact m_vret hx hb hr hlk hQ hG hS (Nat.le_of_ble_eq_true rfl) (Nat.le_of_ble_eq_true rfl) dX1_setToAllBut_30 (by show mset M r (aL 64 T) = mset M r _; refine congrArg (fun q => mset M r (aL 64 q)) (funext fun a => funext fun c => ?_); rw [hA]; by_cases g : (a : Int) < 64; rw [if_pos g, if_pos (by omega)]; rw [if_neg g, if_neg (by omega)])
      · refine lv_aload_n hx hb dX1_setToAllBut_8 rfl (lv_at hl 1 rfl) ?_
        refine m_get (ci := 1) (v := .ref r) (C := RX1) (T := TX1) (N := 1) hx hb hts (by decide +kernel) hown K hG ((mset_ne (mne h1 h2 (by intro h; cases h))).trans h1) rfl 0 (by decide) (by decide +kernel) rfl dX1_setToAllBut_9 ?_
        refine lv_iload_n hx hb dX1_setToAllBut_12 rfl (lv_at hl 0 rfl) ?_
        refine lv_aload_n hx hb dX1_setToAllBut_13 rfl (lv_at hl 2 rfl) ?_
        refine m_get (ci := 1) (v := .ref r2) (C := RX1) (T := TX1) (N := 1) hx hb hts (by decide +kernel) hown K hG ((mset_ne (mne g1 h2 (by intro h; cases h))).trans g1) rfl 0 (by decide) (by decide +kernel) rfl dX1_setToAllBut_14 ?_
        refine lv_iload_n hx hb dX1_setToAllBut_17 rfl (lv_at hl 0 rfl) ?_
        refine m_lald hx hb hG ((mset_ne hrr).trans g2) i.toNat (by omega) (by omega) (by decide) dX1_setToAllBut_18 ?_
        refine lv_ldc2 (v := -1) hx hb hown (hts _ (by decide +kernel : Cond.constantLong RX1 34 (-1) ∈ wsX1_setToAllBut)) dX1_setToAllBut_19 ?_
        refine m_topl bO_m1 ?_
        refine m_lnot hx hb dX1_setToAllBut_22 ?_
        refine m_last hx hb hG hS mset_self i.toNat (by omega) (by omega) (by decide) dX1_setToAllBut_23 (fun H locs hG hS => ?_)
        rw [mset_mset] at hG
        have hG : mG D b (mset M r (aL 64 (va_up T i.toNat (fun tt => !((S2 i.toNat) tt))))) s H := hG
        refine m_iinc (lv' := [(2, .int (iI (i + 1))), (0, .ref h), (1, .ref p2)]) (k := 0) hx hb dX1_setToAllBut_24 hl rfl (by decide) rfl (fun ls hl => ?_)
        refine lv_goto (tgt := 2) hx hb dX1_setToAllBut_27 (by decide) ?_
        exact ih2 (i + 1) (va_up T i.toNat (fun tt => !((S2 i.toNat) tt))) _ _ _ (by omega) (by omega) (fun a c => by by_cases g : a = i.toNat; rw [g, va_up_self, if_pos (by omega)]; rw [va_up_ne _ _ g, hA]; by_cases g2 : (a : Int) < i; rw [if_pos g2, if_pos (by omega)]; rw [if_neg g2, if_neg (by omega)]) (by omega) hG hS (lv_sub hl [0, 1, 2] rfl)
  exact loop2 _ 0 S _ _ _ (by omega) (by omega) (fun a c => by rw [if_neg (by omega)]) (Nat.lt_succ_self _) (by rw [mset_id h2]; exact hG) hS (lv_sub hl [0, 1, 2] rfl)

set_option maxHeartbeats 4000000 in
set_option maxRecDepth 100000 in
theorem c_X1_drop (l : Launch) (D : va_G) (b : Nat) (M : mM) (h r : Nat) (S : Nat → Nat → Bool) (h1 : M h = some (Pl r)) (h2 : M r = some (aL 64 S)) (p2 r2 : Nat) (S2 : Nat → Nat → Bool) (g1 : M p2 = some (Pl r2)) (g2 : M r2 = some (aL 64 S2)) (hrr : r2 ≠ r) : Met l yX1_drop wsX1_drop ({ frames := 0, cells := 0, slots := 0, locals := 0 } : Room) (mPc [.ref h, .ref p2] D b M) (mQv D b (fV (mset M r (aL 64 (fun a c => if (a : Int) < 64 then (S a c && !S2 a c) else S a c))))) 0 0 (mF b) := by
  refine m_met (cc := cX1_drop) (maxL := 3) (ret := none) (by decide) rfl (Nat.le_of_ble_eq_true rfl) ?_
  intro p e s m args below meth c Q ls hx hb hml hr hts hown hlk hnm hQ K hG hS hl
  have hown : s.vm.findClass RX1 = some m.cls := hown
  have hl : lv_has ls 3 [(0, .ref h), (1, .ref p2)] := hl
  refine lv_iconst (v := iI 0) hx hb dX1_drop_0 rfl ?_
  refine lv_istore_n (lv' := [(2, .int (iI 0)), (0, .ref h), (1, .ref p2)]) hx hb dX1_drop_1 rfl hl (by decide) rfl (fun ls hl => ?_)
  have loop2 : ∀ (fuel : Nat) (i : Int) (T : Nat → Nat → Bool) (H : Heap) (locs : List Loc) (ls : Array Slot), (0 ≤ i) → (i ≤ 64) → (∀ a c : Nat, T a c = if (a : Int) < i then (S a c && !S2 a c) else S a c) → (64 - i).toNat < fuel → mG D b (mset M r (aL 64 T)) s H → va_S (mF b) s.heap H locs → lv_has ls 3 [(2, .int (iI i)), (0, .ref h), (1, .ref p2)] → W p l e ({ frames := 0, cells := 0, slots := 0, locals := 0 } : Room) s m args below meth c H locs 0 0 Q (F0 m 2 ls []) := by
    intro fuel
    induction fuel with
    | zero => intro i T H locs ls hi0 hi1 hA hm; exact absurd hm (Nat.not_lt_zero _)
    | succ fuel ih2 =>
      intro i T H locs ls hi0 hi1 hA hm hG hS hl
      refine lv_iload_n hx hb dX1_drop_2 rfl (lv_at hl 0 rfl) ?_
      refine lv_bipush (v := iI 64) hx hb dX1_drop_3 (by decide) ?_
      refine m_icmp_ge (tgt := 33) hx hb dX1_drop_5 (by decide) ⟨by omega, by omega⟩ ⟨by omega, by omega⟩ (fun c5 => ?_) (fun c5 => ?_)
      · exact m_vret hx hb hr hlk hQ hG hS (Nat.le_of_ble_eq_true rfl) (Nat.le_of_ble_eq_true rfl) dX1_drop_33 (by show mset M r (aL 64 T) = mset M r _; refine congrArg (fun q => mset M r (aL 64 q)) (funext fun a => funext fun c => ?_); rw [hA]; by_cases g : (a : Int) < 64; rw [if_pos g, if_pos (by omega)]; rw [if_neg g, if_neg (by omega)])
      · refine lv_aload_n hx hb dX1_drop_8 rfl (lv_at hl 1 rfl) ?_
        refine m_get (ci := 1) (v := .ref r) (C := RX1) (T := TX1) (N := 1) hx hb hts (by decide +kernel) hown K hG ((mset_ne (mne h1 h2 (by intro h; cases h))).trans h1) rfl 0 (by decide) (by decide +kernel) rfl dX1_drop_9 ?_
        refine lv_iload_n hx hb dX1_drop_12 rfl (lv_at hl 0 rfl) ?_
        refine lv_dup2_11 hx hb dX1_drop_13 rfl rfl ?_
        refine m_lald hx hb hG mset_self i.toNat (by omega) (by omega) (by decide) dX1_drop_14 ?_
        refine lv_aload_n hx hb dX1_drop_15 rfl (lv_at hl 2 rfl) ?_
        refine m_get (ci := 1) (v := .ref r2) (C := RX1) (T := TX1) (N := 1) hx hb hts (by decide +kernel) hown K hG ((mset_ne (mne g1 h2 (by intro h; cases h))).trans g1) rfl 0 (by decide) (by decide +kernel) rfl dX1_drop_16 ?_
        refine lv_iload_n hx hb dX1_drop_19 rfl (lv_at hl 0 rfl) ?_
        refine m_lald hx hb hG ((mset_ne hrr).trans g2) i.toNat (by omega) (by omega) (by decide) dX1_drop_20 ?_
        refine lv_ldc2 (v := -1) hx hb hown (hts _ (by decide +kernel : Cond.constantLong RX1 34 (-1) ∈ wsX1_drop)) dX1_drop_21 ?_
        refine m_topl bO_m1 ?_
        refine m_lnot hx hb dX1_drop_24 ?_
        refine m_land hx hb dX1_drop_25 ?_
        refine m_last hx hb hG hS mset_self i.toNat (by omega) (by omega) (by decide) dX1_drop_26 (fun H locs hG hS => ?_)
        rw [mset_mset] at hG
        have hG : mG D b (mset M r (aL 64 (va_up T i.toNat (fun tt => (T i.toNat) tt && (!((S2 i.toNat) tt)))))) s H := hG
        refine m_iinc (lv' := [(2, .int (iI (i + 1))), (0, .ref h), (1, .ref p2)]) (k := 0) hx hb dX1_drop_27 hl rfl (by decide) rfl (fun ls hl => ?_)
        refine lv_goto (tgt := 2) hx hb dX1_drop_30 (by decide) ?_
        exact ih2 (i + 1) (va_up T i.toNat (fun tt => (T i.toNat) tt && (!((S2 i.toNat) tt)))) _ _ _ (by omega) (by omega) (fun a c => by by_cases g : a = i.toNat; rw [g, va_up_self, if_pos (by omega)]; simp only [hA]; rw [if_neg (by omega)]; rw [va_up_ne _ _ g, hA]; by_cases g2 : (a : Int) < i; rw [if_pos g2, if_pos (by omega)]; rw [if_neg g2, if_neg (by omega)]) (by omega) hG hS (lv_sub hl [0, 1, 2] rfl)
  exact loop2 _ 0 S _ _ _ (by omega) (by omega) (fun a c => by rw [if_neg (by omega)]) (Nat.lt_succ_self _) (by rw [mset_id h2]; exact hG) hS (lv_sub hl [0, 1, 2] rfl)

set_option maxHeartbeats 4000000 in
set_option maxRecDepth 100000 in
theorem c_X1_takeWithin (l : Launch) (D : va_G) (b : Nat) (M : mM) (h r : Nat) (S : Nat → Nat → Bool) (h1 : M h = some (Pl r)) (h2 : M r = some (aL 64 S)) (p2 r2 : Nat) (S2 : Nat → Nat → Bool) (g1 : M p2 = some (Pl r2)) (g2 : M r2 = some (aL 64 S2)) (hrr : r2 ≠ r) (p3 r3 : Nat) (S3 : Nat → Nat → Bool) (g3 : M p3 = some (Pl r3)) (g4 : M r3 = some (aL 64 S3)) (hrr3 : r3 ≠ r) : Met l yX1_takeWithin wsX1_takeWithin ({ frames := 0, cells := 0, slots := 0, locals := 0 } : Room) (mPc [.ref h, .ref p2, .ref p3] D b M) (mQv D b (fV (mset M r (aL 64 (fun a c => if (a : Int) < 64 then ((S a c && !S2 a c) || (S3 a c && S2 a c)) else S a c))))) 0 0 (mF b) := by
  refine m_met (cc := cX1_takeWithin) (maxL := 6) (ret := none) (by decide) rfl (Nat.le_of_ble_eq_true rfl) ?_
  intro p e s m args below meth c Q ls hx hb hml hr hts hown hlk hnm hQ K hG hS hl
  have hown : s.vm.findClass RX1 = some m.cls := hown
  have hl : lv_has ls 6 [(0, .ref h), (1, .ref p2), (2, .ref p3)] := hl
  refine lv_iconst (v := iI 0) hx hb dX1_takeWithin_0 rfl ?_
  refine lv_istore_n (lv' := [(3, .int (iI 0)), (0, .ref h), (1, .ref p2), (2, .ref p3)]) hx hb dX1_takeWithin_1 rfl hl (by decide) rfl (fun ls hl => ?_)
  have loop2 : ∀ (fuel : Nat) (i : Int) (T : Nat → Nat → Bool) (H : Heap) (locs : List Loc) (ls : Array Slot), (0 ≤ i) → (i ≤ 64) → (∀ a c : Nat, T a c = if (a : Int) < i then ((S a c && !S2 a c) || (S3 a c && S2 a c)) else S a c) → (64 - i).toNat < fuel → mG D b (mset M r (aL 64 T)) s H → va_S (mF b) s.heap H locs → lv_has ls 6 [(3, .int (iI i)), (0, .ref h), (1, .ref p2), (2, .ref p3)] → W p l e ({ frames := 0, cells := 0, slots := 0, locals := 0 } : Room) s m args below meth c H locs 0 0 Q (F0 m 2 ls []) := by
    intro fuel
    induction fuel with
    | zero => intro i T H locs ls hi0 hi1 hA hm; exact absurd hm (Nat.not_lt_zero _)
    | succ fuel ih2 =>
      intro i T H locs ls hi0 hi1 hA hm hG hS hl
      refine lv_iload_n hx hb dX1_takeWithin_2 rfl (lv_at hl 0 rfl) ?_
      refine lv_bipush (v := iI 64) hx hb dX1_takeWithin_3 (by decide) ?_
      refine m_icmp_ge (tgt := 51) hx hb dX1_takeWithin_5 (by decide) ⟨by omega, by omega⟩ ⟨by omega, by omega⟩ (fun c5 => ?_) (fun c5 => ?_)
      · exact m_vret hx hb hr hlk hQ hG hS (Nat.le_of_ble_eq_true rfl) (Nat.le_of_ble_eq_true rfl) dX1_takeWithin_51 (by show mset M r (aL 64 T) = mset M r _; refine congrArg (fun q => mset M r (aL 64 q)) (funext fun a => funext fun c => ?_); rw [hA]; by_cases g : (a : Int) < 64; rw [if_pos g, if_pos (by omega)]; rw [if_neg g, if_neg (by omega)])
      · refine lv_aload_n hx hb dX1_takeWithin_8 rfl (lv_at hl 2 rfl) ?_
        refine m_get (ci := 1) (v := .ref r2) (C := RX1) (T := TX1) (N := 1) hx hb hts (by decide +kernel) hown K hG ((mset_ne (mne g1 h2 (by intro h; cases h))).trans g1) rfl 0 (by decide) (by decide +kernel) rfl dX1_takeWithin_9 ?_
        refine lv_iload_n hx hb dX1_takeWithin_12 rfl (lv_at hl 0 rfl) ?_
        refine m_lald hx hb hG ((mset_ne hrr).trans g2) i.toNat (by omega) (by omega) (by decide) dX1_takeWithin_13 ?_
        refine lv_lstore (lv' := [(4, .long (bO (S2 i.toNat))), (3, .int (iI i)), (0, .ref h), (1, .ref p2), (2, .ref p3)]) hx hb dX1_takeWithin_14 hl (by decide) rfl (fun ls hl => ?_)
        refine lv_aload_n hx hb dX1_takeWithin_16 rfl (lv_at hl 2 rfl) ?_
        refine m_get (ci := 1) (v := .ref r) (C := RX1) (T := TX1) (N := 1) hx hb hts (by decide +kernel) hown K hG ((mset_ne (mne h1 h2 (by intro h; cases h))).trans h1) rfl 0 (by decide) (by decide +kernel) rfl dX1_takeWithin_17 ?_
        refine lv_iload_n hx hb dX1_takeWithin_20 rfl (lv_at hl 1 rfl) ?_
        refine lv_aload_n hx hb dX1_takeWithin_21 rfl (lv_at hl 2 rfl) ?_
        refine m_get (ci := 1) (v := .ref r) (C := RX1) (T := TX1) (N := 1) hx hb hts (by decide +kernel) hown K hG ((mset_ne (mne h1 h2 (by intro h; cases h))).trans h1) rfl 0 (by decide) (by decide +kernel) rfl dX1_takeWithin_22 ?_
        refine lv_iload_n hx hb dX1_takeWithin_25 rfl (lv_at hl 1 rfl) ?_
        refine m_lald hx hb hG mset_self i.toNat (by omega) (by omega) (by decide) dX1_takeWithin_26 ?_
        refine lv_lload hx hb dX1_takeWithin_27 (lv_at hl 0 rfl) ?_
        refine lv_ldc2 (v := -1) hx hb hown (hts _ (by decide +kernel : Cond.constantLong RX1 34 (-1) ∈ wsX1_takeWithin)) dX1_takeWithin_29 ?_
        refine m_topl bO_m1 ?_
        refine m_lnot hx hb dX1_takeWithin_32 ?_
        refine m_land hx hb dX1_takeWithin_33 ?_
        refine lv_aload_n hx hb dX1_takeWithin_34 rfl (lv_at hl 4 rfl) ?_
        refine m_get (ci := 1) (v := .ref r3) (C := RX1) (T := TX1) (N := 1) hx hb hts (by decide +kernel) hown K hG ((mset_ne (mne g3 h2 (by intro h; cases h))).trans g3) rfl 0 (by decide) (by decide +kernel) rfl dX1_takeWithin_35 ?_
        refine lv_iload_n hx hb dX1_takeWithin_38 rfl (lv_at hl 1 rfl) ?_
        refine m_lald hx hb hG ((mset_ne hrr3).trans g4) i.toNat (by omega) (by omega) (by decide) dX1_takeWithin_39 ?_
        refine lv_lload hx hb dX1_takeWithin_40 (lv_at hl 0 rfl) ?_
        refine m_land hx hb dX1_takeWithin_42 ?_
        refine m_lor hx hb dX1_takeWithin_43 ?_
        refine m_last hx hb hG hS mset_self i.toNat (by omega) (by omega) (by decide) dX1_takeWithin_44 (fun H locs hG hS => ?_)
        rw [mset_mset] at hG
        have hG : mG D b (mset M r (aL 64 (va_up T i.toNat (fun tt => ((T i.toNat) tt && (!((S2 i.toNat) tt))) || ((S3 i.toNat) tt && (S2 i.toNat) tt))))) s H := hG
        refine m_iinc (lv' := [(3, .int (iI (i + 1))), (4, .long (bO (S2 i.toNat))), (0, .ref h), (1, .ref p2), (2, .ref p3)]) (k := 1) hx hb dX1_takeWithin_45 hl rfl (by decide) rfl (fun ls hl => ?_)
        refine lv_goto (tgt := 2) hx hb dX1_takeWithin_48 (by decide) ?_
        exact ih2 (i + 1) (va_up T i.toNat (fun tt => ((T i.toNat) tt && (!((S2 i.toNat) tt))) || ((S3 i.toNat) tt && (S2 i.toNat) tt))) _ _ _ (by omega) (by omega) (fun a c => by by_cases g : a = i.toNat; rw [g, va_up_self, if_pos (by omega)]; simp only [hA]; rw [if_neg (by omega)]; rw [va_up_ne _ _ g, hA]; by_cases g2 : (a : Int) < i; rw [if_pos g2, if_pos (by omega)]; rw [if_neg g2, if_neg (by omega)]) (by omega) hG hS (lv_sub hl [0, 2, 3, 4] rfl)
  exact loop2 _ 0 S _ _ _ (by omega) (by omega) (fun a c => by rw [if_neg (by omega)]) (Nat.lt_succ_self _) (by rw [mset_id h2]; exact hG) hS (lv_sub hl [0, 1, 2, 3] rfl)

set_option maxHeartbeats 4000000 in
set_option maxRecDepth 100000 in
theorem c_X1_spread (l : Launch) (D : va_G) (b : Nat) (M : mM) (h r : Nat) (S : Nat → Nat → Bool) (h1 : M h = some (Pl r)) (h2 : M r = some (aL 64 S)) (k : Int) (hk1 : 1 ≤ k) (hk2 : k ≤ 63) : Met l yX1_spread wsX1_spread ({ frames := 0, cells := 0, slots := 0, locals := 0 } : Room) (mPc [.ref h, .int (iI k)] D b M) (mQv D b (fV (mset M r (aL 64 (sp3 k.toNat (sp2 k.toNat (sp1 k.toNat S))))))) 0 0 (mF b) := by
  refine m_met (cc := cX1_spread) (maxL := 3) (ret := none) (by decide) rfl (Nat.le_of_ble_eq_true rfl) ?_
  intro p e s m args below meth c Q ls hx hb hml hr hts hown hlk hnm hQ K hG hS hl
  have hown : s.vm.findClass RX1 = some m.cls := hown
  have hl : lv_has ls 3 [(0, .ref h), (1, .int (iI k))] := hl
  refine lv_iconst (v := iI 0) hx hb dX1_spread_0 rfl ?_
  refine lv_istore_n (lv' := [(2, .int (iI 0)), (0, .ref h), (1, .int (iI k))]) hx hb dX1_spread_1 rfl hl (by decide) rfl (fun ls hl => ?_)
  have loop2 : ∀ (fuel : Nat) (i : Int) (T : Nat → Nat → Bool) (H : Heap) (locs : List Loc) (ls : Array Slot), (0 ≤ i) → (i ≤ 64) → (∀ a c : Nat, T a c = if (a : Int) < i then spA k.toNat S a c else S a c) → (64 - i).toNat < fuel → mG D b (mset M r (aL 64 T)) s H → va_S (mF b) s.heap H locs → lv_has ls 3 [(2, .int (iI i)), (0, .ref h), (1, .int (iI k))] → W p l e ({ frames := 0, cells := 0, slots := 0, locals := 0 } : Room) s m args below meth c H locs 0 0 Q (F0 m 2 ls []) := by
    intro fuel
    induction fuel with
    | zero => intro i T H locs ls hi0 hi1 hA hm; exact absurd hm (Nat.not_lt_zero _)
    | succ fuel ih2 =>
      intro i T H locs ls hi0 hi1 hA hm hG hS hl
      refine lv_iload_n hx hb dX1_spread_2 rfl (lv_at hl 0 rfl) ?_
      refine lv_bipush (v := iI 64) hx hb dX1_spread_3 (by decide) ?_
      refine m_icmp_ge (tgt := 40) hx hb dX1_spread_5 (by decide) ⟨by omega, by omega⟩ ⟨by omega, by omega⟩ (fun c5 => ?_) (fun c5 => ?_)
      · refine lv_bipush (v := iI 63) hx hb dX1_spread_40 (by decide) ?_
        refine lv_istore_n (lv' := [(2, .int (iI 63)), (0, .ref h), (1, .int (iI k))]) hx hb dX1_spread_42 rfl hl (by decide) rfl (fun ls hl => ?_)
        have loop43 : ∀ (fuel : Nat) (i : Int) (T2 : Nat → Nat → Bool) (H : Heap) (locs : List Loc) (ls : Array Slot), (k - 1 ≤ i) → (i ≤ 63) → (∀ a c : Nat, T2 a c = if i < (a : Int) ∧ k.toNat ≤ a ∧ a < 64 then (sp1 k.toNat S a c || sp1 k.toNat S (a - k.toNat) c) else sp1 k.toNat S a c) → (i + 1).toNat < fuel → mG D b (mset M r (aL 64 T2)) s H → va_S (mF b) s.heap H locs → lv_has ls 3 [(2, .int (iI i)), (0, .ref h), (1, .int (iI k))] → W p l e ({ frames := 0, cells := 0, slots := 0, locals := 0 } : Room) s m args below meth c H locs 0 0 Q (F0 m 43 ls []) := by
          intro fuel
          induction fuel with
          | zero => intro i T2 H locs ls hj0 hj1 hB hm; exact absurd hm (Nat.not_lt_zero _)
          | succ fuel ih43 =>
            intro i T2 H locs ls hj0 hj1 hB hm hG hS hl
            refine lv_iload_n hx hb dX1_spread_43 rfl (lv_at hl 0 rfl) ?_
            refine lv_iload_n hx hb dX1_spread_44 rfl (lv_at hl 2 rfl) ?_
            refine m_icmp_lt (tgt := 71) hx hb dX1_spread_45 (by decide) ⟨by omega, by omega⟩ ⟨by omega, by omega⟩ (fun c45 => ?_) (fun c45 => ?_)
            · refine lv_iconst (v := iI 0) hx hb dX1_spread_71 rfl ?_
              refine lv_istore_n (lv' := [(2, .int (iI 0)), (0, .ref h), (1, .int (iI k))]) hx hb dX1_spread_72 rfl hl (by decide) rfl (fun ls hl => ?_)
              have loop73 : ∀ (fuel : Nat) (i : Int) (T3 : Nat → Nat → Bool) (H : Heap) (locs : List Loc) (ls : Array Slot), (0 ≤ i) → (i ≤ 64 - k) → (∀ a c : Nat, T3 a c = if (a : Int) < i then (sp2 k.toNat (sp1 k.toNat S) a c || sp2 k.toNat (sp1 k.toNat S) (a + k.toNat) c) else sp2 k.toNat (sp1 k.toNat S) a c) → (64 - i).toNat < fuel → mG D b (mset M r (aL 64 T3)) s H → va_S (mF b) s.heap H locs → lv_has ls 3 [(2, .int (iI i)), (0, .ref h), (1, .int (iI k))] → W p l e ({ frames := 0, cells := 0, slots := 0, locals := 0 } : Room) s m args below meth c H locs 0 0 Q (F0 m 73 ls []) := by
                intro fuel
                induction fuel with
                | zero => intro i T3 H locs ls hk0 hk1 hC hm; exact absurd hm (Nat.not_lt_zero _)
                | succ fuel ih73 =>
                  intro i T3 H locs ls hk0 hk1 hC hm hG hS hl
                  refine lv_iload_n hx hb dX1_spread_73 rfl (lv_at hl 0 rfl) ?_
                  refine lv_bipush (v := iI 64) hx hb dX1_spread_74 (by decide) ?_
                  refine lv_iload_n hx hb dX1_spread_76 rfl (lv_at hl 2 rfl) ?_
                  refine m_isub hx hb dX1_spread_77 ?_
                  refine m_icmp_ge (tgt := 104) hx hb dX1_spread_78 (by decide) ⟨by omega, by omega⟩ ⟨by omega, by omega⟩ (fun c78 => ?_) (fun c78 => ?_)
                  · exact m_vret hx hb hr hlk hQ hG hS (Nat.le_of_ble_eq_true rfl) (Nat.le_of_ble_eq_true rfl) dX1_spread_104 (by show mset M r (aL 64 T3) = mset M r _; refine congrArg (fun q => mset M r (aL 64 q)) (funext fun a => funext fun c => ?_); rw [hC]; unfold sp3; by_cases g : a + k.toNat < 64; rw [if_pos g, if_pos (by omega)]; rw [if_neg g, if_neg (by omega)])
                  · refine lv_aload_n hx hb dX1_spread_81 rfl (lv_at hl 1 rfl) ?_
                    refine m_get (ci := 1) (v := .ref r) (C := RX1) (T := TX1) (N := 1) hx hb hts (by decide +kernel) hown K hG ((mset_ne (mne h1 h2 (by intro h; cases h))).trans h1) rfl 0 (by decide) (by decide +kernel) rfl dX1_spread_82 ?_
                    refine lv_iload_n hx hb dX1_spread_85 rfl (lv_at hl 0 rfl) ?_
                    refine lv_dup2_11 hx hb dX1_spread_86 rfl rfl ?_
                    refine m_lald hx hb hG mset_self i.toNat (by omega) (by omega) (by decide) dX1_spread_87 ?_
                    refine lv_aload_n hx hb dX1_spread_88 rfl (lv_at hl 1 rfl) ?_
                    refine m_get (ci := 1) (v := .ref r) (C := RX1) (T := TX1) (N := 1) hx hb hts (by decide +kernel) hown K hG ((mset_ne (mne h1 h2 (by intro h; cases h))).trans h1) rfl 0 (by decide) (by decide +kernel) rfl dX1_spread_89 ?_
                    refine lv_iload_n hx hb dX1_spread_92 rfl (lv_at hl 0 rfl) ?_
                    refine lv_iload_n hx hb dX1_spread_93 rfl (lv_at hl 2 rfl) ?_
                    refine m_iadd hx hb dX1_spread_94 ?_
                    refine m_lald hx hb hG mset_self ((i + k).toNat) (by omega) (by omega) (by decide) dX1_spread_95 ?_
                    refine m_lor hx hb dX1_spread_96 ?_
                    refine m_last hx hb hG hS mset_self i.toNat (by omega) (by omega) (by decide) dX1_spread_97 (fun H locs hG hS => ?_)
                    rw [mset_mset] at hG
                    have hG : mG D b (mset M r (aL 64 (va_up T3 i.toNat (fun tt => (T3 i.toNat) tt || (T3 ((i + k).toNat)) tt)))) s H := hG
                    refine m_iinc (lv' := [(2, .int (iI (i + 1))), (0, .ref h), (1, .int (iI k))]) (k := 0) hx hb dX1_spread_98 hl rfl (by decide) rfl (fun ls hl => ?_)
                    refine lv_goto (tgt := 73) hx hb dX1_spread_101 (by decide) ?_
                    exact ih73 (i + 1) (va_up T3 i.toNat (fun tt => (T3 i.toNat) tt || (T3 ((i + k).toNat)) tt)) _ _ _ (by omega) (by omega) (fun a c => by by_cases g : a = i.toNat; rw [g, va_up_self, if_pos (by omega)]; simp only [hC]; rw [if_neg (by omega), if_neg (by omega), show (i + k).toNat = i.toNat + k.toNat by omega]; rw [va_up_ne _ _ g, hC]; by_cases g2 : (a : Int) < i; rw [if_pos g2, if_pos (by omega)]; rw [if_neg g2, if_neg (by omega)]) (by omega) hG hS (lv_sub hl [0, 1, 2] rfl)
              exact loop73 _ 0 T2 _ _ _ (by omega) (by omega) (fun a c => by rw [if_neg (by omega), hB]; unfold sp2; by_cases g : k.toNat ≤ a ∧ a < 64; rw [if_pos g, if_pos (by omega)]; rw [if_neg g, if_neg (by omega)]) (Nat.lt_succ_self _) hG hS (lv_sub hl [0, 1, 2] rfl)
            · refine lv_aload_n hx hb dX1_spread_48 rfl (lv_at hl 1 rfl) ?_
              refine m_get (ci := 1) (v := .ref r) (C := RX1) (T := TX1) (N := 1) hx hb hts (by decide +kernel) hown K hG ((mset_ne (mne h1 h2 (by intro h; cases h))).trans h1) rfl 0 (by decide) (by decide +kernel) rfl dX1_spread_49 ?_
              refine lv_iload_n hx hb dX1_spread_52 rfl (lv_at hl 0 rfl) ?_
              refine lv_dup2_11 hx hb dX1_spread_53 rfl rfl ?_
              refine m_lald hx hb hG mset_self i.toNat (by omega) (by omega) (by decide) dX1_spread_54 ?_
              refine lv_aload_n hx hb dX1_spread_55 rfl (lv_at hl 1 rfl) ?_
              refine m_get (ci := 1) (v := .ref r) (C := RX1) (T := TX1) (N := 1) hx hb hts (by decide +kernel) hown K hG ((mset_ne (mne h1 h2 (by intro h; cases h))).trans h1) rfl 0 (by decide) (by decide +kernel) rfl dX1_spread_56 ?_
              refine lv_iload_n hx hb dX1_spread_59 rfl (lv_at hl 0 rfl) ?_
              refine lv_iload_n hx hb dX1_spread_60 rfl (lv_at hl 2 rfl) ?_
              refine m_isub hx hb dX1_spread_61 ?_
              refine m_lald hx hb hG mset_self ((i - k).toNat) (by omega) (by omega) (by decide) dX1_spread_62 ?_
              refine m_lor hx hb dX1_spread_63 ?_
              refine m_last hx hb hG hS mset_self i.toNat (by omega) (by omega) (by decide) dX1_spread_64 (fun H locs hG hS => ?_)
              rw [mset_mset] at hG
              have hG : mG D b (mset M r (aL 64 (va_up T2 i.toNat (fun tt => (T2 i.toNat) tt || (T2 ((i - k).toNat)) tt)))) s H := hG
              refine m_iinc (lv' := [(2, .int (iI (i + (-1)))), (0, .ref h), (1, .int (iI k))]) (k := 0) hx hb dX1_spread_65 hl rfl (by decide) rfl (fun ls hl => ?_)
              refine lv_goto (tgt := 43) hx hb dX1_spread_68 (by decide) ?_
              exact ih43 (i + (-1)) (va_up T2 i.toNat (fun tt => (T2 i.toNat) tt || (T2 ((i - k).toNat)) tt)) _ _ _ (by omega) (by omega) (fun a c => by by_cases g : a = i.toNat; rw [g, va_up_self, if_pos (by omega)]; simp only [hB]; rw [if_neg (by omega), if_neg (by omega), show (i - k).toNat = i.toNat - k.toNat by omega]; rw [va_up_ne _ _ g, hB]; by_cases g2 : i < (a : Int) ∧ k.toNat ≤ a ∧ a < 64; rw [if_pos g2, if_pos (by omega)]; rw [if_neg g2, if_neg (by omega)]) (by omega) hG hS (lv_sub hl [0, 1, 2] rfl)
        exact loop43 _ 63 T _ _ _ (by omega) (by omega) (fun a c => by rw [if_neg (by omega), hA]; unfold sp1; by_cases g : a < 64; rw [if_pos g, if_pos (by omega)]; rw [if_neg g, if_neg (by omega)]) (Nat.lt_succ_self _) hG hS (lv_sub hl [0, 1, 2] rfl)
      · refine lv_aload_n hx hb dX1_spread_8 rfl (lv_at hl 1 rfl) ?_
        refine m_get (ci := 1) (v := .ref r) (C := RX1) (T := TX1) (N := 1) hx hb hts (by decide +kernel) hown K hG ((mset_ne (mne h1 h2 (by intro h; cases h))).trans h1) rfl 0 (by decide) (by decide +kernel) rfl dX1_spread_9 ?_
        refine lv_iload_n hx hb dX1_spread_12 rfl (lv_at hl 0 rfl) ?_
        refine lv_dup2_11 hx hb dX1_spread_13 rfl rfl ?_
        refine m_lald hx hb hG mset_self i.toNat (by omega) (by omega) (by decide) dX1_spread_14 ?_
        refine lv_aload_n hx hb dX1_spread_15 rfl (lv_at hl 1 rfl) ?_
        refine m_get (ci := 1) (v := .ref r) (C := RX1) (T := TX1) (N := 1) hx hb hts (by decide +kernel) hown K hG ((mset_ne (mne h1 h2 (by intro h; cases h))).trans h1) rfl 0 (by decide) (by decide +kernel) rfl dX1_spread_16 ?_
        refine lv_iload_n hx hb dX1_spread_19 rfl (lv_at hl 0 rfl) ?_
        refine m_lald hx hb hG mset_self i.toNat (by omega) (by omega) (by decide) dX1_spread_20 ?_
        refine lv_iload_n hx hb dX1_spread_21 rfl (lv_at hl 2 rfl) ?_
        refine m_lshl hx hb k.toNat (by omega) (by omega) dX1_spread_22 ?_
        refine lv_aload_n hx hb dX1_spread_23 rfl (lv_at hl 1 rfl) ?_
        refine m_get (ci := 1) (v := .ref r) (C := RX1) (T := TX1) (N := 1) hx hb hts (by decide +kernel) hown K hG ((mset_ne (mne h1 h2 (by intro h; cases h))).trans h1) rfl 0 (by decide) (by decide +kernel) rfl dX1_spread_24 ?_
        refine lv_iload_n hx hb dX1_spread_27 rfl (lv_at hl 0 rfl) ?_
        refine m_lald hx hb hG mset_self i.toNat (by omega) (by omega) (by decide) dX1_spread_28 ?_
        refine lv_iload_n hx hb dX1_spread_29 rfl (lv_at hl 2 rfl) ?_
        refine m_lushr hx hb k.toNat (by omega) (by omega) dX1_spread_30 ?_
        refine m_lor hx hb dX1_spread_31 ?_
        refine m_lor hx hb dX1_spread_32 ?_
        refine m_last hx hb hG hS mset_self i.toNat (by omega) (by omega) (by decide) dX1_spread_33 (fun H locs hG hS => ?_)
        rw [mset_mset] at hG
        have hG : mG D b (mset M r (aL 64 (va_up T i.toNat (fun tt => (T i.toNat) tt || ((decide (k.toNat ≤ tt) && (T i.toNat) (tt - k.toNat)) || (decide (tt + k.toNat < 64) && (T i.toNat) (tt + k.toNat))))))) s H := hG
        refine m_iinc (lv' := [(2, .int (iI (i + 1))), (0, .ref h), (1, .int (iI k))]) (k := 0) hx hb dX1_spread_34 hl rfl (by decide) rfl (fun ls hl => ?_)
        refine lv_goto (tgt := 2) hx hb dX1_spread_37 (by decide) ?_
        exact ih2 (i + 1) (va_up T i.toNat (fun tt => (T i.toNat) tt || ((decide (k.toNat ≤ tt) && (T i.toNat) (tt - k.toNat)) || (decide (tt + k.toNat < 64) && (T i.toNat) (tt + k.toNat))))) _ _ _ (by omega) (by omega) (fun a c => by by_cases g : a = i.toNat; rw [g, va_up_self, if_pos (by omega)]; simp only [hA]; rw [if_neg (by omega), if_neg (by omega), if_neg (by omega)]; rfl; rw [va_up_ne _ _ g, hA]; by_cases g2 : (a : Int) < i; rw [if_pos g2, if_pos (by omega)]; rw [if_neg g2, if_neg (by omega)]) (by omega) hG hS (lv_sub hl [0, 1, 2] rfl)
  exact loop2 _ 0 S _ _ _ (by omega) (by omega) (fun a c => by rw [if_neg (by omega)]) (Nat.lt_succ_self _) (by rw [mset_id h2]; exact hG) hS (lv_sub hl [0, 1, 2] rfl)

set_option maxHeartbeats 4000000 in
set_option maxRecDepth 100000 in
theorem c_X1_widen (l : Launch) (D : va_G) (b : Nat) (M : mM) (h r : Nat) (S : Nat → Nat → Bool) (h1 : M h = some (Pl r)) (h2 : M r = some (aL 64 S)) (d : Int) (hd0 : 0 ≤ d) (hd1 : d ≤ 7) : Met l yX1_widen wsX1_widen ({ frames := 1, cells := 0, slots := 0, locals := 22 } : Room) (mPc [.ref h, .int (iI d)] D b M) (mQv D b (fun M1 => ∃ T : Nat → Nat → Bool, M1 = mset M r (aL 64 T) ∧ ∀ a c : Nat, a < 64 → c < 64 → (T a c = true ↔ wide d.toNat S a c))) 0 0 (mF b) := by
  refine m_met (cc := cX1_widen) (maxL := 4) (ret := none) (by decide) rfl (Nat.le_of_ble_eq_true rfl) ?_
  intro p e s m args below meth c Q ls hx hb hml hr hts hown hlk hnm hQ K hG hS hl
  have hown : s.vm.findClass RX1 = some m.cls := hown
  have hl : lv_has ls 4 [(0, .ref h), (1, .int (iI d))] := hl
  refine lv_iconst (v := iI 0) hx hb dX1_widen_0 rfl ?_
  refine lv_istore_n (lv' := [(2, .int (iI 0)), (0, .ref h), (1, .int (iI d))]) hx hb dX1_widen_1 rfl hl (by decide) rfl (fun ls hl => ?_)
  have loop2 : ∀ (fuel : Nat) (q : Int) (T : Nat → Nat → Bool) (H : Heap) (locs : List Loc) (ls : Array Slot), (0 ≤ q) → (q ≤ d) → (∀ a c : Nat, a < 64 → c < 64 → (T a c = true ↔ wide q.toNat S a c)) → (d - q).toNat < fuel → mG D b (mset M r (aL 64 T)) s H → va_S (mF b) s.heap H locs → lv_has ls 4 [(2, .int (iI q)), (0, .ref h), (1, .int (iI d))] → W p l e ({ frames := 1, cells := 0, slots := 0, locals := 22 } : Room) s m args below meth c H locs 0 0 Q (F0 m 2 ls []) := by
    intro fuel
    induction fuel with
    | zero => intro q T H locs ls hq0 hq1 hA hm; exact absurd hm (Nat.not_lt_zero _)
    | succ fuel ih2 =>
      intro q T H locs ls hq0 hq1 hA hm hG hS hl
      refine lv_iload_n hx hb dX1_widen_2 rfl (lv_at hl 0 rfl) ?_
      refine lv_iload_n hx hb dX1_widen_3 rfl (lv_at hl 2 rfl) ?_
      refine m_icmp_ge (tgt := 29) hx hb dX1_widen_4 (by decide) ⟨by omega, by omega⟩ ⟨by omega, by omega⟩ (fun c4 => ?_) (fun c4 => ?_)
      · exact m_vret hx hb hr hlk hQ hG hS (Nat.le_of_ble_eq_true rfl) (Nat.le_of_ble_eq_true rfl) dX1_widen_29 ⟨T, rfl, by rw [show d = q by omega]; exact hA⟩
      · refine lv_iload_n hx hb dX1_widen_7 rfl (lv_at hl 0 rfl) ?_
        refine lv_iconst (v := iI 1) hx hb dX1_widen_8 rfl ?_
        refine m_iadd hx hb dX1_widen_9 ?_
        refine lv_iload_n hx hb dX1_widen_10 rfl (lv_at hl 2 rfl) ?_
        refine lv_iload_n hx hb dX1_widen_11 rfl (lv_at hl 0 rfl) ?_
        refine m_isub hx hb dX1_widen_12 ?_
        refine m_mmin hx hb (hml.trans hl.1.symm) hts hown (by decide +kernel) (by decide +kernel) (by decide +kernel) (by decide +kernel) (Nat.le_of_ble_eq_true rfl) (Nat.le_of_ble_eq_true rfl) (Nat.zero_le _) (Nat.zero_le _) ⟨by omega, by omega⟩ ⟨by omega, by omega⟩ dX1_widen_13 ?_
        refine lv_istore_n (lv' := [(3, .int (iI (min (q + 1) (d - q)))), (2, .int (iI q)), (0, .ref h), (1, .int (iI d))]) hx hb dX1_widen_16 rfl hl (by decide) rfl (fun ls hl => ?_)
        refine lv_aload_n hx hb dX1_widen_17 rfl (lv_at hl 2 rfl) ?_
        refine lv_iload_n hx hb dX1_widen_18 rfl (lv_at hl 0 rfl) ?_
        refine m_callfv (m_runV (a := h) (As := [.int (iI (min (q + 1) (d - q)))]) (rest := []) ⟨hx, hb, hml, hown, hts⟩ (c_X1_spread l D b _ h r T ((mset_ne (mne h1 h2 (by intro h; cases h))).trans h1) mset_self (min (q + 1) (d - q)) (by omega) (by omega)) (cwV 1 hts gX1_widen_X1_spread rfl rfl rfl (by decide +kernel) ⟨Nat.le_of_ble_eq_true rfl, Nat.le_of_ble_eq_true rfl⟩) K hG ((mset_ne (mne h1 h2 (by intro h; cases h))).trans h1) rfl rfl rfl hl.1 rfl (Nat.le_of_ble_eq_true rfl) dX1_widen_19 ⟨Nat.le_of_ble_eq_true rfl, Nat.le_of_ble_eq_true rfl⟩) hS (fun H locs hG hS => ?_)
        rw [mset_mset] at hG
        have hG : mG D b (mset M r (aL 64 (sp3 (min (q + 1) (d - q)).toNat (sp2 (min (q + 1) (d - q)).toNat (sp1 (min (q + 1) (d - q)).toNat T))))) s H := hG
        refine lv_iload_n hx hb dX1_widen_22 rfl (lv_at hl 1 rfl) ?_
        refine lv_iload_n hx hb dX1_widen_23 rfl (lv_at hl 0 rfl) ?_
        refine m_iadd hx hb dX1_widen_24 ?_
        refine lv_istore_n (lv' := [(2, .int (iI (q + (min (q + 1) (d - q))))), (3, .int (iI (min (q + 1) (d - q)))), (0, .ref h), (1, .int (iI d))]) hx hb dX1_widen_25 rfl hl (by decide) rfl (fun ls hl => ?_)
        refine lv_goto (tgt := 2) hx hb dX1_widen_26 (by decide) ?_
        exact ih2 (q + (min (q + 1) (d - q))) (sp3 (min (q + 1) (d - q)).toNat (sp2 (min (q + 1) (d - q)).toNat (sp1 (min (q + 1) (d - q)).toNat T))) _ _ _ (by omega) (by omega) (fun a c h9 h8 => by rw [show (q + min (q + 1) (d - q)).toNat = q.toNat + (min (q + 1) (d - q)).toNat by omega]; exact wide_step (by omega) (by omega) hA h9 h8) (by omega) hG hS (lv_sub hl [0, 2, 3] rfl)
  exact loop2 _ 0 S _ _ _ (by omega) (by omega) (fun a c h9 h8 => (wide_0 h9 h8).symm) (Nat.lt_succ_self _) (by rw [mset_id h2]; exact hG) hS (lv_sub hl [0, 1, 2] rfl)
end
section
/-- how many of the first n hold -/
def ctn (q : Nat → Bool) : Nat → Nat
  | 0 => 0
  | n + 1 => ctn q n + (if q n = true then 1 else 0)
theorem ctn_le (q : Nat → Bool) : ∀ n, ctn q n ≤ n
  | 0 => Nat.le_refl 0
  | n + 1 => by
    have := ctn_le q n
    rw [ctn]
    split <;> omega
/-- the sum of the k lowest digits in base B -/
def dsm (B : Nat) : Nat → Nat → Nat
  | 0, _ => 0
  | k + 1, x => x % B + dsm B k (x / B)
def dsB (B m : Nat) : Nat → Nat → Prop
  | 0, _ => True
  | k + 1, x => x % B ≤ m ∧ dsB B m k (x / B)
theorem land4 (n a b : Nat) : a &&& b = 2 ^ n * ((a / 2 ^ n) &&& (b / 2 ^ n)) + ((a % 2 ^ n) &&& (b % 2 ^ n)) := by
  rw [← Nat.and_mod_two_pow, ← Nat.and_div_two_pow]
  exact (Nat.div_add_mod _ _).symm
def mk1 : Nat → Nat
  | 0 => 0
  | k + 1 => 4 * mk1 k + 1
def mk2 : Nat → Nat
  | 0 => 0
  | k + 1 => 16 * mk2 k + 3
def mk3 : Nat → Nat
  | 0 => 0
  | k + 1 => 256 * mk3 k + 15
theorem sm_and : ∀ e, e < 4 → ∀ _ : True, e &&& 1 = e % 2 := by decide
theorem sm_and3 : ∀ e, e < 16 → e &&& 3 = e % 4 := by decide
theorem sm_and15 : ∀ e, e < 256 → e &&& 15 = e % 16 := by decide +kernel
theorem st1 : ∀ (k x : Nat), x < 4 ^ k → ((x / 2) &&& mk1 k) ≤ x ∧ dsm 4 k (x - ((x / 2) &&& mk1 k)) = dsm 2 (2 * k) x ∧ dsB 4 2 k (x - ((x / 2) &&& mk1 k)) ∧ x - ((x / 2) &&& mk1 k) < 4 ^ k
  | 0, x, h => by
    have h0 : x = 0 := by rw [Nat.pow_zero] at h; omega
    subst h0
    exact ⟨by simp, rfl, trivial, by simp⟩
  | k + 1, x, h => by
    have hp : 4 ^ (k + 1) = 4 * 4 ^ k := by rw [Nat.pow_succ, Nat.mul_comm]
    obtain ⟨i1, i2, i3, i4⟩ := st1 k (x / 4) (by omega)
    have e1 : (x / 2) &&& mk1 (k + 1) = 4 * ((x / 4 / 2) &&& mk1 k) + x % 4 / 2 := by
      rw [land4 2, show mk1 (k + 1) / 2 ^ 2 = mk1 k by rw [mk1]; omega, show mk1 (k + 1) % 2 ^ 2 = 1 by rw [mk1]; omega, show x / 2 / 2 ^ 2 = x / 4 / 2 by omega, sm_and _ (by omega) trivial, show x / 2 % 2 ^ 2 % 2 = x % 4 / 2 by omega]
    rw [e1]
    generalize hg : (x / 4 / 2) &&& mk1 k = g at i1 i2 i3 i4 ⊢
    have e2 : (x - (4 * g + x % 4 / 2)) / 4 = x / 4 - g := by omega
    have e3 : (x - (4 * g + x % 4 / 2)) % 4 = x % 4 - x % 4 / 2 := by omega
    refine ⟨by omega, ?_, ⟨by rw [e3]; omega, by rw [e2]; exact i3⟩, by omega⟩
    rw [dsm, e2, e3, i2, show 2 * (k + 1) = 2 * k + 1 + 1 by omega, dsm, dsm, show x / 2 / 2 = x / 4 by omega]
    omega
theorem st2 : ∀ (k y : Nat), y < 16 ^ k → dsB 4 2 (2 * k) y → dsm 16 k ((y &&& mk2 k) + ((y / 4) &&& mk2 k)) = dsm 4 (2 * k) y ∧ dsB 16 4 k ((y &&& mk2 k) + ((y / 4) &&& mk2 k)) ∧ (y &&& mk2 k) + ((y / 4) &&& mk2 k) < 16 ^ k
  | 0, y, h, _ => by
    have h0 : y = 0 := by rw [Nat.pow_zero] at h; omega
    subst h0
    exact ⟨rfl, trivial, by simp⟩
  | k + 1, y, h, hB => by
    have hp : 16 ^ (k + 1) = 16 * 16 ^ k := by rw [Nat.pow_succ, Nat.mul_comm]
    rw [show 2 * (k + 1) = 2 * k + 1 + 1 by omega] at hB ⊢
    obtain ⟨b1, b2, b3⟩ := hB
    rw [show y / 4 / 4 = y / 16 by omega] at b3
    obtain ⟨i2, i3, i4⟩ := st2 k (y / 16) (by omega) b3
    have e1 : y &&& mk2 (k + 1) = 16 * ((y / 16) &&& mk2 k) + y % 4 := by
      rw [land4 4, show mk2 (k + 1) / 2 ^ 4 = mk2 k by rw [mk2]; omega, show mk2 (k + 1) % 2 ^ 4 = 3 by rw [mk2]; omega, sm_and3 _ (by omega), show y % 2 ^ 4 % 4 = y % 4 by omega]
    have e1' : (y / 4) &&& mk2 (k + 1) = 16 * ((y / 16 / 4) &&& mk2 k) + y / 4 % 4 := by
      rw [land4 4, show mk2 (k + 1) / 2 ^ 4 = mk2 k by rw [mk2]; omega, show mk2 (k + 1) % 2 ^ 4 = 3 by rw [mk2]; omega, sm_and3 _ (by omega), show y / 4 % 2 ^ 4 % 4 = y / 4 % 4 by omega, show y / 4 / 2 ^ 4 = y / 16 / 4 by omega]
    rw [e1, e1']
    generalize (y / 16) &&& mk2 k = g1 at i2 i3 i4 ⊢
    generalize (y / 16 / 4) &&& mk2 k = g2 at i2 i3 i4 ⊢
    have e2 : (16 * g1 + y % 4 + (16 * g2 + y / 4 % 4)) / 16 = g1 + g2 := by omega
    have e3 : (16 * g1 + y % 4 + (16 * g2 + y / 4 % 4)) % 16 = y % 4 + y / 4 % 4 := by omega
    refine ⟨?_, ⟨by rw [e3]; omega, by rw [e2]; exact i3⟩, by omega⟩
    rw [dsm, e2, e3, i2, dsm, dsm, show y / 4 / 4 = y / 16 by omega]
    omega
theorem st3 : ∀ (k y : Nat), y < 256 ^ k → dsB 16 4 (2 * k) y → dsm 256 k ((y + y / 16) &&& mk3 k) = dsm 16 (2 * k) y ∧ dsB 256 8 k ((y + y / 16) &&& mk3 k) ∧ ((y + y / 16) &&& mk3 k) < 256 ^ k ∧ y % 16 ≤ 4
  | 0, y, h, _ => by
    have h0 : y = 0 := by rw [Nat.pow_zero] at h; omega
    subst h0
    exact ⟨rfl, trivial, by simp [mk3], by omega⟩
  | k + 1, y, h, hB => by
    have hp : 256 ^ (k + 1) = 256 * 256 ^ k := by rw [Nat.pow_succ, Nat.mul_comm]
    rw [show 2 * (k + 1) = 2 * k + 1 + 1 by omega] at hB ⊢
    obtain ⟨b1, b2, b3⟩ := hB
    rw [show y / 16 / 16 = y / 256 by omega] at b3
    obtain ⟨i2, i3, i4, i5⟩ := st3 k (y / 256) (by omega) b3
    have e9 : (y + y / 16) / 2 ^ 8 = y / 256 + y / 256 / 16 ∧ (y + y / 16) % 2 ^ 8 % 16 = y % 16 + y / 16 % 16 := by
      generalize f0 : y / 16 = a at *
      generalize f1 : y / 256 = a2 at *
      generalize f2 : a2 / 16 = a3 at *
      have f3 : a = 16 * a2 + a % 16 := by omega
      have f4 : a2 = 16 * a3 + a2 % 16 := by omega
      have f5 : y = 16 * a + y % 16 := by omega
      generalize y % 16 = e0 at *
      generalize a % 16 = e1 at *
      generalize a2 % 16 = e2 at *
      subst f5
      subst f3
      subst f4
      constructor <;> omega
    have e1 : (y + y / 16) &&& mk3 (k + 1) = 256 * ((y / 256 + y / 256 / 16) &&& mk3 k) + (y % 16 + y / 16 % 16) := by
      rw [land4 8, show mk3 (k + 1) / 2 ^ 8 = mk3 k by rw [mk3]; omega, show mk3 (k + 1) % 2 ^ 8 = 15 by rw [mk3]; omega, sm_and15 _ (by omega), e9.1, e9.2]
    rw [e1]
    generalize (y / 256 + y / 256 / 16) &&& mk3 k = g at i2 i3 i4 ⊢
    have e2 : (256 * g + (y % 16 + y / 16 % 16)) / 256 = g := by omega
    have e3 : (256 * g + (y % 16 + y / 16 % 16)) % 256 = y % 16 + y / 16 % 16 := by omega
    refine ⟨?_, ⟨by rw [e3]; omega, by rw [e2]; exact i3⟩, by omega, b1⟩
    rw [dsm, e2, e3, i2, dsm, dsm, show y / 16 / 16 = y / 256 by omega]
    omega
theorem st4a {y y1 y2 y3 g0 g1 g2 : Nat} (h0 : g0 ≤ 8) (h1 : g1 ≤ 8) (h2 : g2 ≤ 8) (e0 : y = 65536 * y2 + 256 * g1 + g0) (e1 : y1 = 65536 * y3 + 256 * g2 + g1) : (y + y1) / 65536 = y2 + y3 := by omega
theorem st4b {y y1 y2 y3 y4 y5 y6 y7 l0 l1 l2 l3 : Nat} (h0 : l0 ≤ 134744072) (h1 : l1 ≤ 134744072) (h2 : l2 ≤ 134744072) (h3 : l3 ≤ 134744072) (e0 : y = 4294967296 * y4 + l0) (e1 : y1 = 4294967296 * y5 + l1) (e2 : y2 = 4294967296 * y6 + l2) (e3 : y3 = 4294967296 * y7 + l3) : (y + y1 + (y2 + y3)) / 4294967296 = y4 + y5 + y6 + y7 := by omega
theorem st4c {g0 g1 g2 g3 : Nat} (h0 : g0 ≤ 8) (h1 : g1 ≤ 8) (h2 : g2 ≤ 8) (h3 : g3 ≤ 8) : 256 * (256 * (256 * g3 + g2) + g1) + g0 ≤ 134744072 := by omega
theorem st4d {y y1 y2 y3 y4 y5 y6 y7 g0 g1 g2 g3 g4 g5 g6 : Nat} (h0 : g0 ≤ 8) (h1 : g1 ≤ 8) (h2 : g2 ≤ 8) (h3 : g3 ≤ 8) (h4 : g4 ≤ 8) (h5 : g5 ≤ 8) (h6 : g6 ≤ 8) (h7 : y7 ≤ 8) (q6 : y6 = 256 * y7 + g6) (q5 : y5 = 256 * y6 + g5) (q4 : y4 = 256 * y5 + g4) (q3 : y3 = 256 * y4 + g3) (q2 : y2 = 256 * y3 + g2) (q1 : y1 = 256 * y2 + g1) (q0 : y = 256 * y1 + g0) : (y + y1 + (y2 + y3) + (y4 + y5 + y6 + y7)) % 128 = g0 + (g1 + (g2 + (g3 + (g4 + (g5 + (g6 + y7)))))) ∧ y + y1 + (y2 + y3) + (y4 + y5 + y6 + y7) < 9223372036854775808 := by omega
theorem st4 (y : Nat) (h : y < 18446744073709551616) (hB : dsB 256 8 8 y) : y + y / 256 < 9223372036854775808 ∧ (y + y / 256) + (y + y / 256) / 65536 < 9223372036854775808 ∧ ((y + y / 256) + (y + y / 256) / 65536) + ((y + y / 256) + (y + y / 256) / 65536) / 4294967296 < 9223372036854775808 ∧ (((y + y / 256) + (y + y / 256) / 65536) + ((y + y / 256) + (y + y / 256) / 65536) / 4294967296) % 128 = dsm 256 8 y := by
  obtain ⟨b0, b1, b2, b3, b4, b5, b6, b7, -⟩ := hB
  obtain ⟨y1, d1⟩ : ∃ z, z = y / 256 := ⟨_, rfl⟩
  rw [← d1] at b1 b2 b3 b4 b5 b6 b7
  obtain ⟨y2, d2⟩ : ∃ z, z = y1 / 256 := ⟨_, rfl⟩
  rw [← d2] at b2 b3 b4 b5 b6 b7
  obtain ⟨y3, d3⟩ : ∃ z, z = y2 / 256 := ⟨_, rfl⟩
  rw [← d3] at b3 b4 b5 b6 b7
  obtain ⟨y4, d4⟩ : ∃ z, z = y3 / 256 := ⟨_, rfl⟩
  rw [← d4] at b4 b5 b6 b7
  obtain ⟨y5, d5⟩ : ∃ z, z = y4 / 256 := ⟨_, rfl⟩
  rw [← d5] at b5 b6 b7
  obtain ⟨y6, d6⟩ : ∃ z, z = y5 / 256 := ⟨_, rfl⟩
  rw [← d6] at b6 b7
  obtain ⟨y7, d7⟩ : ∃ z, z = y6 / 256 := ⟨_, rfl⟩
  rw [← d7] at b7
  have w1 : y1 < 72057594037927936 := by omega
  have w2 : y2 < 281474976710656 := by omega
  have w3 : y3 < 1099511627776 := by omega
  have w4 : y4 < 4294967296 := by omega
  have w5 : y5 < 16777216 := by omega
  have w6 : y6 < 65536 := by omega
  have w7 : y7 < 256 := by omega
  have q7 : y7 % 256 = y7 := Nat.mod_eq_of_lt w7
  rw [q7] at b7
  have q6 : y6 = 256 * y7 + y6 % 256 := by omega
  have q5 : y5 = 256 * y6 + y5 % 256 := by omega
  have q4 : y4 = 256 * y5 + y4 % 256 := by omega
  have q3 : y3 = 256 * y4 + y3 % 256 := by omega
  have q2 : y2 = 256 * y3 + y2 % 256 := by omega
  have q1 : y1 = 256 * y2 + y1 % 256 := by omega
  have q0 : y = 256 * y1 + y % 256 := by omega
  have z : dsm 256 8 y = y % 256 + (y1 % 256 + (y2 % 256 + (y3 % 256 + (y4 % 256 + (y5 % 256 + (y6 % 256 + y7)))))) := by
    simp only [dsm, ← d1, ← d2, ← d3, ← d4, ← d5, ← d6, ← d7, q7, Nat.add_zero]
  rw [z, ← d1]
  generalize y % 256 = g0 at *
  generalize y1 % 256 = g1 at *
  generalize y2 % 256 = g2 at *
  generalize y3 % 256 = g3 at *
  generalize y4 % 256 = g4 at *
  generalize y5 % 256 = g5 at *
  generalize y6 % 256 = g6 at *
  clear z d1 d2 d3 d4 d5 d6 d7 w1 w2 w3 w4 w5 w6 w7 q7 h
  have u1 : (y + y1) / 65536 = y2 + y3 := st4a b0 b1 b2 (by omega) (by omega)
  have u2 : (y + y1 + (y2 + y3)) / 4294967296 = y4 + y5 + y6 + y7 := st4b (st4c b0 b1 b2 b3) (st4c b1 b2 b3 b4) (st4c b2 b3 b4 b5) (st4c b3 b4 b5 b6) (by omega) (by omega) (by omega) (by omega)
  have u3 := st4d b0 b1 b2 b3 b4 b5 b6 b7 q6 q5 q4 q3 q2 q1 q0
  rw [u1, u2]
  generalize y2 + y3 = k1 at *
  generalize y4 + y5 + y6 + y7 = k2 at *
  exact ⟨by omega, by omega, u3.2, u3.1⟩
theorem hb2of {x : Nat} (h : x < 16 ^ 16) (hB : dsB 16 4 16 x) : x < 2 ^ 63 := by
  obtain ⟨-, -, -, -, -, -, -, -, -, -, -, -, -, -, -, b, -⟩ := hB
  have h1 : x / 16 / 16 / 16 / 16 / 16 / 16 / 16 / 16 / 16 / 16 / 16 / 16 / 16 / 16 / 16 = x / 16 ^ 15 := by simp only [Nat.div_div_eq_div_mul]
  rw [h1] at b
  have h2 : x / 16 ^ 15 < 16 := by
    apply Nat.div_lt_of_lt_mul
    exact h
  rw [Nat.mod_eq_of_lt h2] at b
  have h3 : x < 16 ^ 15 * (4 + 1) := by
    have := Nat.div_lt_iff_lt_mul (x := x) (k := 16 ^ 15) (y := 5) (by decide)
    rw [Nat.mul_comm]
    exact this.mp (by omega)
  exact Nat.lt_of_lt_of_le h3 (by decide)
theorem ctn_shift (q : Nat → Bool) : ∀ n, ctn q (n + 1) = (if q 0 = true then 1 else 0) + ctn (fun i => q (i + 1)) n
  | 0 => by simp [ctn]
  | n + 1 => by
    rw [ctn, ctn_shift q n, ctn]
    omega
theorem ctn_cong {q r : Nat → Bool} : ∀ {n : Nat}, (∀ i, i < n → q i = r i) → ctn q n = ctn r n
  | 0, _ => rfl
  | n + 1, h => by rw [ctn, ctn, ctn_cong (fun i hi => h i (Nat.lt_succ_of_lt hi)), h n (Nat.lt_succ_self n)]
theorem dsm_ctn : ∀ (n x : Nat), dsm 2 n x = ctn (fun i => x.testBit i) n
  | 0, _ => rfl
  | n + 1, x => by
    rw [dsm, dsm_ctn n (x / 2), ctn_shift]
    congr 1
    · rw [Nat.testBit_zero]
      by_cases h : x % 2 = 1
      · simp [h]
      · rw [show x % 2 = 0 by omega]; simp
    · apply ctn_cong
      intro i _
      rw [Nat.testBit_succ]
theorem bNat_lt (q : Nat → Bool) : ∀ n, bNat q n < 2 ^ n
  | 0 => by simp [bNat]
  | n + 1 => by
    rw [bNat]
    apply Nat.or_lt_two_pow
    · exact Nat.lt_trans (bNat_lt q n) (by rw [Nat.pow_succ]; have := Nat.two_pow_pos n; omega)
    · split
      · rw [Nat.pow_succ]; have := Nat.two_pow_pos n; omega
      · exact Nat.two_pow_pos _
theorem lN_shr {n k : Nat} {z : Int} (hz : z = (k : Int)) (hn : n < 2 ^ 64) (hk : k < 64) : ((lN n).toUInt64 >>> ((iI z).toInt64.toUInt64 &&& Int64.toUInt64 63)).toInt64 = lN (n / 2 ^ k) := by
  subst hz
  rw [sh_u k hk]
  apply Int64.toBitVec_inj.mp
  apply BitVec.eq_of_toNat_eq
  show ((lN n).toUInt64 >>> UInt64.ofNat k).toNat = (BitVec.ofNat 64 _).toNat
  have h1 : (UInt64.ofNat k).toNat = k := by
    show (BitVec.ofNat 64 k).toNat = k
    rw [BitVec.toNat_ofNat, Nat.mod_eq_of_lt (by omega)]
  have h2 : (lN n).toUInt64.toNat = n := by
    show (BitVec.ofNat 64 n).toNat = n
    rw [BitVec.toNat_ofNat, Nat.mod_eq_of_lt hn]
  rw [UInt64.toNat_shiftRight, h1, h2, Nat.mod_eq_of_lt hk, Nat.shiftRight_eq_div_pow, BitVec.toNat_ofNat, Nat.mod_eq_of_lt (Nat.lt_of_le_of_lt (Nat.div_le_self _ _) hn)]
theorem lN_and (a b : Nat) (ha : a < 2 ^ 64) (hb : b < 2 ^ 64) : lN a &&& lN b = lN (a &&& b) := by
  apply Int64.toBitVec_inj.mp
  apply BitVec.eq_of_toNat_eq
  rw [Int64.toBitVec_and, BitVec.toNat_and]
  show (BitVec.ofNat 64 a).toNat &&& (BitVec.ofNat 64 b).toNat = (BitVec.ofNat 64 _).toNat
  rw [BitVec.toNat_ofNat, BitVec.toNat_ofNat, BitVec.toNat_ofNat, Nat.mod_eq_of_lt ha, Nat.mod_eq_of_lt hb, Nat.mod_eq_of_lt (Nat.lt_of_le_of_lt Nat.and_le_left ha)]
theorem lK1 : (6148914691236517205 : Int64) = lN (mk1 32) := by decide +kernel
theorem lK2 : (3689348814741910323 : Int64) = lN (mk2 16) := by decide +kernel
theorem lK3 : (1085102592571150095 : Int64) = lN (mk3 8) := by decide +kernel
theorem mkb : mk1 32 < 2 ^ 64 ∧ mk2 16 < 2 ^ 64 ∧ mk3 8 < 2 ^ 64 := by decide +kernel

set_option maxHeartbeats 4000000 in
set_option maxRecDepth 100000 in
theorem c_J13_bitCount_95d88 (l : Launch) (D : va_G) (b : Nat) (M : mM) (q : Nat → Bool) : Met l yJ13_bitCount_95d88 wsJ13_bitCount_95d88 ({ frames := 0, cells := 0, slots := 0, locals := 0 } : Room) (mPc [.long (bO q)] D b M) (mQi D b (fI (ctn q 64 : Nat) M)) 0 0 (mF b) := by
  refine m_met (cc := cJ13_bitCount_95d88) (maxL := 2) (ret := (some .int)) (by decide) rfl (Nat.le_of_ble_eq_true rfl) ?_
  intro p e s m args below meth c Q ls hx hb hml hr hts hown hlk hnm hQ K hG hS hl
  have hown : s.vm.findClass RJ13 = some m.cls := hown
  have hl : lv_has ls 2 [(0, .long (bO q))] := hl
  obtain ⟨x, ex⟩ : ∃ x, x = bNat q 64 := ⟨_, rfl⟩
  have hx0 : x < 2 ^ 64 := by rw [ex]; exact bNat_lt q 64
  have e0 : bO q = lN x := by rw [ex]; rfl
  rw [e0] at hl
  have a1 := st1 32 x (by rw [show (4 : Nat) ^ 32 = 2 ^ 64 by decide]; exact hx0)
  obtain ⟨x1, f1⟩ : ∃ x1, x - ((x / 2) &&& mk1 32) = x1 := ⟨_, rfl⟩
  have a1' := a1.2
  rw [f1] at a1'
  have a2 := st2 16 x1 (by rw [show (16 : Nat) ^ 16 = 4 ^ 32 by decide]; exact a1'.2.2) a1'.2.1
  obtain ⟨x2, f2⟩ : ∃ x2, x2 = (x1 &&& mk2 16) + ((x1 / 4) &&& mk2 16) := ⟨_, rfl⟩
  rw [← f2] at a2
  have a3 := st3 8 x2 (by rw [show (256 : Nat) ^ 8 = 16 ^ 16 by decide]; exact a2.2.2) a2.2.1
  obtain ⟨x3, f3⟩ : ∃ x3, x3 = (x2 + x2 / 16) &&& mk3 8 := ⟨_, rfl⟩
  rw [← f3] at a3
  have a4 := st4 x3 (by rw [show (18446744073709551616 : Nat) = 256 ^ 8 by decide]; exact a3.2.2.1) a3.2.1
  obtain ⟨x4, f4⟩ : ∃ x4, x4 = x3 + x3 / 256 := ⟨_, rfl⟩
  rw [← f4] at a4
  obtain ⟨x5, f5⟩ : ∃ x5, x5 = x4 + x4 / 65536 := ⟨_, rfl⟩
  rw [← f5] at a4
  obtain ⟨x6, f6⟩ : ∃ x6, x6 = x5 + x5 / 4294967296 := ⟨_, rfl⟩
  rw [← f6] at a4
  have hb1 : x1 < 2 ^ 64 := by rw [show (2 : Nat) ^ 64 = 4 ^ 32 by decide]; exact a1'.2.2
  have hb2 : x2 < 2 ^ 63 := by
    exact hb2of a2.2.2 a2.2.1
  have hb3 : x3 < 2 ^ 64 := by rw [show (2 : Nat) ^ 64 = 256 ^ 8 by decide]; exact a3.2.2.1
  have hres : x6 % 128 = ctn q 64 := by
    rw [a4.2.2.2, a3.1, a2.1, a1'.1, dsm_ctn]
    exact ctn_cong (fun i hi => by rw [ex, bNat_bit]; simp [hi])
  refine lv_lload_n hx hb dJ13_bitCount_95d88_0 rfl (lv_at hl 0 rfl) ?_
  refine lv_lload_n hx hb dJ13_bitCount_95d88_1 rfl (lv_at hl 0 rfl) ?_
  refine lv_iconst (v := iI 1) hx hb dJ13_bitCount_95d88_2 rfl ?_
  refine lv_lushr hx hb dJ13_bitCount_95d88_3 rfl ?_
  refine lv_ldc2 (v := 6148914691236517205) hx hb hown (hts _ (by decide +kernel : Cond.constantLong RJ13 314 (6148914691236517205) ∈ wsJ13_bitCount_95d88)) dJ13_bitCount_95d88_4 ?_
  refine lv_land hx hb dJ13_bitCount_95d88_7 ?_
  refine lv_lsub hx hb dJ13_bitCount_95d88_8 ?_
  have e9 : lN x - (((lN x).toUInt64 >>> ((iI 1).toInt64.toUInt64 &&& Int64.toUInt64 63)).toInt64 &&& 6148914691236517205) = lN x1 := by rw [lN_shr (z := 1) (k := 1) rfl hx0 (by decide), lK1, lN_and _ _ (by omega) mkb.1, lN_sub a1.1, f1]
  refine m_topl e9 ?_
  refine lv_lstore_n (lv' := [(0, .long (lN x1))]) hx hb dJ13_bitCount_95d88_9 rfl hl (by decide) rfl (fun ls hl => ?_)
  refine lv_lload_n hx hb dJ13_bitCount_95d88_10 rfl (lv_at hl 0 rfl) ?_
  refine lv_ldc2 (v := 3689348814741910323) hx hb hown (hts _ (by decide +kernel : Cond.constantLong RJ13 316 (3689348814741910323) ∈ wsJ13_bitCount_95d88)) dJ13_bitCount_95d88_11 ?_
  refine lv_land hx hb dJ13_bitCount_95d88_14 ?_
  refine lv_lload_n hx hb dJ13_bitCount_95d88_15 rfl (lv_at hl 0 rfl) ?_
  refine lv_iconst (v := iI 2) hx hb dJ13_bitCount_95d88_16 rfl ?_
  refine lv_lushr hx hb dJ13_bitCount_95d88_17 rfl ?_
  refine lv_ldc2 (v := 3689348814741910323) hx hb hown (hts _ (by decide +kernel : Cond.constantLong RJ13 316 (3689348814741910323) ∈ wsJ13_bitCount_95d88)) dJ13_bitCount_95d88_18 ?_
  refine lv_land hx hb dJ13_bitCount_95d88_21 ?_
  refine lv_ladd hx hb dJ13_bitCount_95d88_22 ?_
  have e23 : (lN x1 &&& 3689348814741910323) + (((lN x1).toUInt64 >>> ((iI 2).toInt64.toUInt64 &&& Int64.toUInt64 63)).toInt64 &&& 3689348814741910323) = lN x2 := by rw [lN_shr (z := 2) (k := 2) rfl (by omega) (by decide), lK2, lN_and _ _ (by omega) mkb.2.1, lN_and _ _ (by omega) mkb.2.1, lN_add, ← f2]
  refine m_topl e23 ?_
  refine lv_lstore_n (lv' := [(0, .long (lN x2))]) hx hb dJ13_bitCount_95d88_23 rfl hl (by decide) rfl (fun ls hl => ?_)
  refine lv_lload_n hx hb dJ13_bitCount_95d88_24 rfl (lv_at hl 0 rfl) ?_
  refine lv_lload_n hx hb dJ13_bitCount_95d88_25 rfl (lv_at hl 0 rfl) ?_
  refine lv_iconst (v := iI 4) hx hb dJ13_bitCount_95d88_26 rfl ?_
  refine lv_lushr hx hb dJ13_bitCount_95d88_27 rfl ?_
  refine lv_ladd hx hb dJ13_bitCount_95d88_28 ?_
  refine lv_ldc2 (v := 1085102592571150095) hx hb hown (hts _ (by decide +kernel : Cond.constantLong RJ13 318 (1085102592571150095) ∈ wsJ13_bitCount_95d88)) dJ13_bitCount_95d88_29 ?_
  refine lv_land hx hb dJ13_bitCount_95d88_32 ?_
  have e33 : (lN x2 + ((lN x2).toUInt64 >>> ((iI 4).toInt64.toUInt64 &&& Int64.toUInt64 63)).toInt64) &&& 1085102592571150095 = lN x3 := by rw [lN_shr (z := 4) (k := 4) rfl (by omega) (by decide), lK3, lN_add, lN_and _ _ (by have := hb2; omega) mkb.2.2, ← f3]
  refine m_topl e33 ?_
  refine lv_lstore_n (lv' := [(0, .long (lN x3))]) hx hb dJ13_bitCount_95d88_33 rfl hl (by decide) rfl (fun ls hl => ?_)
  refine lv_lload_n hx hb dJ13_bitCount_95d88_34 rfl (lv_at hl 0 rfl) ?_
  refine lv_lload_n hx hb dJ13_bitCount_95d88_35 rfl (lv_at hl 0 rfl) ?_
  refine lv_bipush (v := iI 8) hx hb dJ13_bitCount_95d88_36 (by decide) ?_
  refine lv_lushr hx hb dJ13_bitCount_95d88_38 rfl ?_
  refine lv_ladd hx hb dJ13_bitCount_95d88_39 ?_
  have e40 : lN x3 + ((lN x3).toUInt64 >>> ((iI 8).toInt64.toUInt64 &&& Int64.toUInt64 63)).toInt64 = lN x4 := by rw [lN_shr (z := 8) (k := 8) rfl (by omega) (by decide), lN_add, ← f4]
  refine m_topl e40 ?_
  refine lv_lstore_n (lv' := [(0, .long (lN x4))]) hx hb dJ13_bitCount_95d88_40 rfl hl (by decide) rfl (fun ls hl => ?_)
  refine lv_lload_n hx hb dJ13_bitCount_95d88_41 rfl (lv_at hl 0 rfl) ?_
  refine lv_lload_n hx hb dJ13_bitCount_95d88_42 rfl (lv_at hl 0 rfl) ?_
  refine lv_bipush (v := iI 16) hx hb dJ13_bitCount_95d88_43 (by decide) ?_
  refine lv_lushr hx hb dJ13_bitCount_95d88_45 rfl ?_
  refine lv_ladd hx hb dJ13_bitCount_95d88_46 ?_
  have e47 : lN x4 + ((lN x4).toUInt64 >>> ((iI 16).toInt64.toUInt64 &&& Int64.toUInt64 63)).toInt64 = lN x5 := by rw [lN_shr (z := 16) (k := 16) rfl (by omega) (by decide), lN_add, ← f5]
  refine m_topl e47 ?_
  refine lv_lstore_n (lv' := [(0, .long (lN x5))]) hx hb dJ13_bitCount_95d88_47 rfl hl (by decide) rfl (fun ls hl => ?_)
  refine lv_lload_n hx hb dJ13_bitCount_95d88_48 rfl (lv_at hl 0 rfl) ?_
  refine lv_lload_n hx hb dJ13_bitCount_95d88_49 rfl (lv_at hl 0 rfl) ?_
  refine lv_bipush (v := iI 32) hx hb dJ13_bitCount_95d88_50 (by decide) ?_
  refine lv_lushr hx hb dJ13_bitCount_95d88_52 rfl ?_
  refine lv_ladd hx hb dJ13_bitCount_95d88_53 ?_
  have e54 : lN x5 + ((lN x5).toUInt64 >>> ((iI 32).toInt64.toUInt64 &&& Int64.toUInt64 63)).toInt64 = lN x6 := by rw [lN_shr (z := 32) (k := 32) rfl (by omega) (by decide), lN_add, ← f6]
  refine m_topl e54 ?_
  refine lv_lstore_n (lv' := [(0, .long (lN x6))]) hx hb dJ13_bitCount_95d88_54 rfl hl (by decide) rfl (fun ls hl => ?_)
  refine lv_lload_n hx hb dJ13_bitCount_95d88_55 rfl (lv_at hl 0 rfl) ?_
  refine lv_l2i hx hb dJ13_bitCount_95d88_56 rfl ?_
  refine lv_bipush (v := iI 127) hx hb dJ13_bitCount_95d88_57 (by decide) ?_
  refine lv_iand hx hb dJ13_bitCount_95d88_59 ?_
  exact m_iret hx hb hr hlk hQ hG hS (Nat.le_of_ble_eq_true rfl) (Nat.le_of_ble_eq_true rfl) dJ13_bitCount_95d88_60 ⟨by show (lN x6).toInt32 &&& iI 127 = iI _; rw [← hres, lN_i, pk_and _ 7 (by decide), show (nI x6).toBitVec.toNat % 2 ^ 7 = x6 % 128 by (show (BitVec.ofNat 32 x6).toNat % 2 ^ 7 = _); rw [BitVec.toNat_ofNat]; omega]; rfl, rfl⟩

def ct2 (S : Nat → Nat → Bool) : Nat → Nat
  | 0 => 0
  | n + 1 => ct2 S n + ctn (S n) 64
set_option maxHeartbeats 4000000 in
set_option maxRecDepth 100000 in
theorem c_X1_size (l : Launch) (D : va_G) (b : Nat) (M : mM) (h r : Nat) (S : Nat → Nat → Bool) (h1 : M h = some (Pl r)) (h2 : M r = some (aL 64 S)) : Met l yX1_size wsX1_size ({ frames := 1, cells := 0, slots := 0, locals := 21 } : Room) (mPc [.ref h] D b M) (mQi D b (fI (ct2 S 64 : Nat) M)) 0 0 (mF b) := by
  refine m_met (cc := cX1_size) (maxL := 3) (ret := (some .int)) (by decide) rfl (Nat.le_of_ble_eq_true rfl) ?_
  intro p e s m args below meth c Q ls hx hb hml hr hts hown hlk hnm hQ K hG hS hl
  have hown : s.vm.findClass RX1 = some m.cls := hown
  have hl : lv_has ls 3 [(0, .ref h)] := hl
  refine lv_iconst (v := iI 0) hx hb dX1_size_0 rfl ?_
  refine lv_istore_n (lv' := [(1, .int (iI 0)), (0, .ref h)]) hx hb dX1_size_1 rfl hl (by decide) rfl (fun ls hl => ?_)
  refine lv_iconst (v := iI 0) hx hb dX1_size_2 rfl ?_
  refine lv_istore_n (lv' := [(2, .int (iI 0)), (1, .int (iI 0)), (0, .ref h)]) hx hb dX1_size_3 rfl hl (by decide) rfl (fun ls hl => ?_)
  have loop4 : ∀ (fuel : Nat) (i : Int) (u : Int) (H : Heap) (locs : List Loc) (ls : Array Slot), (0 ≤ i) → (i ≤ 64) → (u = (ct2 S i.toNat : Nat)) → (64 - i).toNat < fuel → mG D b M s H → va_S (mF b) s.heap H locs → lv_has ls 3 [(2, .int (iI i)), (1, .int (iI u)), (0, .ref h)] → W p l e ({ frames := 1, cells := 0, slots := 0, locals := 21 } : Room) s m args below meth c H locs 0 0 Q (F0 m 4 ls []) := by
    intro fuel
    induction fuel with
    | zero => intro i u H locs ls hi0 hi1 hu hm; exact absurd hm (Nat.not_lt_zero _)
    | succ fuel ih4 =>
      intro i u H locs ls hi0 hi1 hu hm hG hS hl
      refine lv_iload_n hx hb dX1_size_4 rfl (lv_at hl 0 rfl) ?_
      refine lv_bipush (v := iI 64) hx hb dX1_size_5 (by decide) ?_
      refine m_icmp_ge (tgt := 28) hx hb dX1_size_7 (by decide) ⟨by omega, by omega⟩ ⟨by omega, by omega⟩ (fun c7 => ?_) (fun c7 => ?_)
      · refine lv_iload_n hx hb dX1_size_28 rfl (lv_at hl 1 rfl) ?_
        exact m_iret hx hb hr hlk hQ hG hS (Nat.le_of_ble_eq_true rfl) (Nat.le_of_ble_eq_true rfl) dX1_size_29 ⟨congrArg iI (by rw [hu, show i.toNat = 64 by omega]), rfl⟩
      · refine lv_iload_n hx hb dX1_size_10 rfl (lv_at hl 1 rfl) ?_
        refine lv_aload_n hx hb dX1_size_11 rfl (lv_at hl 2 rfl) ?_
        refine m_get (ci := 1) (v := .ref r) (C := RX1) (T := TX1) (N := 1) hx hb hts (by decide +kernel) hown K hG h1 rfl 0 (by decide) (by decide +kernel) rfl dX1_size_12 ?_
        refine lv_iload_n hx hb dX1_size_15 rfl (lv_at hl 0 rfl) ?_
        refine m_lald hx hb hG h2 i.toNat (by omega) (by omega) (by decide) dX1_size_16 ?_
        refine m_callfi (m_runS (As := [.long (bO (S i.toNat))]) (rest := [.int (iI u)]) ⟨hx, hb, hml, hown, hts⟩ (c_J13_bitCount_95d88 l D b _ (S i.toNat)) (va_cwS 1 hts gX1_size_J13_bitCount_95d88 rfl rfl rfl (by decide +kernel) ⟨Nat.le_of_ble_eq_true rfl, Nat.le_of_ble_eq_true rfl⟩) K hG rfl hl.1 rfl (Nat.le_of_ble_eq_true rfl) dX1_size_17 ⟨Nat.le_of_ble_eq_true rfl, Nat.le_of_ble_eq_true rfl⟩) hS (fun H locs hG hS => ?_)
        have hG : mG D b M s H := hG
        refine m_iadd hx hb dX1_size_20 ?_
        refine lv_istore_n (lv' := [(1, .int (iI (u + (ctn (S i.toNat) 64 : Nat)))), (2, .int (iI i)), (0, .ref h)]) hx hb dX1_size_21 rfl hl (by decide) rfl (fun ls hl => ?_)
        refine m_iinc (lv' := [(2, .int (iI (i + 1))), (1, .int (iI (u + (ctn (S i.toNat) 64 : Nat)))), (0, .ref h)]) (k := 1) hx hb dX1_size_22 hl rfl (by decide) rfl (fun ls hl => ?_)
        refine lv_goto (tgt := 4) hx hb dX1_size_25 (by decide) ?_
        exact ih4 (i + 1) (u + (ctn (S i.toNat) 64 : Nat)) _ _ _ (by omega) (by omega) (by rw [show (i + 1).toNat = i.toNat + 1 by omega, ct2, hu]; omega) (by omega) hG hS (lv_sub hl [0, 1, 2] rfl)
  exact loop4 _ 0 0 _ _ _ (by omega) (by omega) rfl (Nat.lt_succ_self _) hG hS (lv_sub hl [0, 1, 2] rfl)
end
section
set_option maxHeartbeats 4000000 in
set_option maxRecDepth 100000 in
theorem c_X4_isTick (l : Launch) (D : va_G) (b : Nat) (M : mM) (t : Int) (h : rg t) : Met l yX4_isTick wsX4_isTick ({ frames := 0, cells := 0, slots := 0, locals := 0 } : Room) (mPc [.int (iI t)] D b M) (mQi D b (fI (if 0 ≤ t ∧ t < 80 then 1 else 0) M)) 0 0 (mF b) := by
  refine m_met (cc := cX4_isTick) (maxL := 1) (ret := (some .boolean)) (by decide) rfl (Nat.le_of_ble_eq_true rfl) ?_
  intro p e s m args below meth c Q ls hx hb hml hr hts hown hlk hnm hQ K hG hS hl
  have hown : s.vm.findClass RX4 = some m.cls := hown
  have hl : lv_has ls 1 [(0, .int (iI t))] := hl
  refine lv_iload_n hx hb dX4_isTick_0 rfl (lv_at hl 0 rfl) ?_
  refine m_if_lt (tgt := 14) hx hb dX4_isTick_1 (by decide) h (fun c1 => ?_) (fun c1 => ?_)
  · refine lv_iconst (v := iI 0) hx hb dX4_isTick_14 rfl ?_
    exact m_zret hx hb hr hlk hQ hG hS (Nat.le_of_ble_eq_true rfl) (Nat.le_of_ble_eq_true rfl) dX4_isTick_15 (Or.inl rfl) ⟨congrArg iI (by first | rfl | omega | (split <;> omega)), rfl⟩
  · refine lv_iload_n hx hb dX4_isTick_4 rfl (lv_at hl 0 rfl) ?_
    refine lv_bipush (v := iI 80) hx hb dX4_isTick_5 (by decide) ?_
    refine m_icmp_ge (tgt := 14) hx hb dX4_isTick_7 (by decide) h ⟨by omega, by omega⟩ (fun c7 => ?_) (fun c7 => ?_)
    · refine lv_iconst (v := iI 0) hx hb dX4_isTick_14 rfl ?_
      exact m_zret hx hb hr hlk hQ hG hS (Nat.le_of_ble_eq_true rfl) (Nat.le_of_ble_eq_true rfl) dX4_isTick_15 (Or.inl rfl) ⟨congrArg iI (by first | rfl | omega | (split <;> omega)), rfl⟩
    · refine lv_iconst (v := iI 1) hx hb dX4_isTick_10 rfl ?_
      refine lv_goto (tgt := 15) hx hb dX4_isTick_11 (by decide) ?_
      exact m_zret hx hb hr hlk hQ hG hS (Nat.le_of_ble_eq_true rfl) (Nat.le_of_ble_eq_true rfl) dX4_isTick_15 (Or.inr rfl) ⟨congrArg iI (by first | rfl | omega | (split <;> omega)), rfl⟩

set_option maxHeartbeats 4000000 in
set_option maxRecDepth 100000 in
theorem c_X4_isPlace (l : Launch) (D : va_G) (b : Nat) (M : mM) (t : Int) (h : rg t) : Met l yX4_isPlace wsX4_isPlace ({ frames := 0, cells := 0, slots := 0, locals := 0 } : Room) (mPc [.int (iI t)] D b M) (mQi D b (fI (if 0 ≤ t ∧ t < 4096 then 1 else 0) M)) 0 0 (mF b) := by
  refine m_met (cc := cX4_isPlace) (maxL := 1) (ret := (some .boolean)) (by decide) rfl (Nat.le_of_ble_eq_true rfl) ?_
  intro p e s m args below meth c Q ls hx hb hml hr hts hown hlk hnm hQ K hG hS hl
  have hown : s.vm.findClass RX4 = some m.cls := hown
  have hl : lv_has ls 1 [(0, .int (iI t))] := hl
  refine lv_iload_n hx hb dX4_isPlace_0 rfl (lv_at hl 0 rfl) ?_
  refine m_if_lt (tgt := 15) hx hb dX4_isPlace_1 (by decide) h (fun c1 => ?_) (fun c1 => ?_)
  · refine lv_iconst (v := iI 0) hx hb dX4_isPlace_15 rfl ?_
    exact m_zret hx hb hr hlk hQ hG hS (Nat.le_of_ble_eq_true rfl) (Nat.le_of_ble_eq_true rfl) dX4_isPlace_16 (Or.inl rfl) ⟨congrArg iI (by first | rfl | omega | (split <;> omega)), rfl⟩
  · refine lv_iload_n hx hb dX4_isPlace_4 rfl (lv_at hl 0 rfl) ?_
    refine lv_sipush (v := iI 4096) hx hb dX4_isPlace_5 (by decide) ?_
    refine m_icmp_ge (tgt := 15) hx hb dX4_isPlace_8 (by decide) h ⟨by omega, by omega⟩ (fun c8 => ?_) (fun c8 => ?_)
    · refine lv_iconst (v := iI 0) hx hb dX4_isPlace_15 rfl ?_
      exact m_zret hx hb hr hlk hQ hG hS (Nat.le_of_ble_eq_true rfl) (Nat.le_of_ble_eq_true rfl) dX4_isPlace_16 (Or.inl rfl) ⟨congrArg iI (by first | rfl | omega | (split <;> omega)), rfl⟩
    · refine lv_iconst (v := iI 1) hx hb dX4_isPlace_11 rfl ?_
      refine lv_goto (tgt := 16) hx hb dX4_isPlace_12 (by decide) ?_
      exact m_zret hx hb hr hlk hQ hG hS (Nat.le_of_ble_eq_true rfl) (Nat.le_of_ble_eq_true rfl) dX4_isPlace_16 (Or.inr rfl) ⟨congrArg iI (by first | rfl | omega | (split <;> omega)), rfl⟩

set_option maxHeartbeats 4000000 in
set_option maxRecDepth 100000 in
theorem c_X4_xOf (l : Launch) (D : va_G) (b : Nat) (M : mM) (t : Int) (h : 0 ≤ t) (h2 : t < 4096) : Met l yX4_xOf wsX4_xOf ({ frames := 0, cells := 0, slots := 0, locals := 0 } : Room) (mPc [.int (iI t)] D b M) (mQi D b (fI (t / 64) M)) 0 0 (mF b) := by
  refine m_met (cc := cX4_xOf) (maxL := 1) (ret := (some .int)) (by decide) rfl (Nat.le_of_ble_eq_true rfl) ?_
  intro p e s m args below meth c Q ls hx hb hml hr hts hown hlk hnm hQ K hG hS hl
  have hown : s.vm.findClass RX4 = some m.cls := hown
  have hl : lv_has ls 1 [(0, .int (iI t))] := hl
  refine lv_iload_n hx hb dX4_xOf_0 rfl (lv_at hl 0 rfl) ?_
  refine lv_bipush (v := iI 64) hx hb dX4_xOf_1 (by decide) ?_
  refine m_idiv hx hb dX4_xOf_3 (by omega) (by omega) ?_
  exact m_iret hx hb hr hlk hQ hG hS (Nat.le_of_ble_eq_true rfl) (Nat.le_of_ble_eq_true rfl) dX4_xOf_4 ⟨congrArg iI (by first | rfl | omega | (split <;> omega)), rfl⟩

set_option maxHeartbeats 4000000 in
set_option maxRecDepth 100000 in
theorem c_X4_yOf (l : Launch) (D : va_G) (b : Nat) (M : mM) (t : Int) (h : 0 ≤ t) (h2 : t < 4096) : Met l yX4_yOf wsX4_yOf ({ frames := 0, cells := 0, slots := 0, locals := 0 } : Room) (mPc [.int (iI t)] D b M) (mQi D b (fI (t % 64) M)) 0 0 (mF b) := by
  refine m_met (cc := cX4_yOf) (maxL := 1) (ret := (some .int)) (by decide) rfl (Nat.le_of_ble_eq_true rfl) ?_
  intro p e s m args below meth c Q ls hx hb hml hr hts hown hlk hnm hQ K hG hS hl
  have hown : s.vm.findClass RX4 = some m.cls := hown
  have hl : lv_has ls 1 [(0, .int (iI t))] := hl
  refine lv_iload_n hx hb dX4_yOf_0 rfl (lv_at hl 0 rfl) ?_
  refine lv_bipush (v := iI 64) hx hb dX4_yOf_1 (by decide) ?_
  refine m_irem hx hb dX4_yOf_3 (by omega) (by omega) ?_
  exact m_iret hx hb hr hlk hQ hG hS (Nat.le_of_ble_eq_true rfl) (Nat.le_of_ble_eq_true rfl) dX4_yOf_4 ⟨congrArg iI (by first | rfl | omega | (split <;> omega)), rfl⟩

set_option maxHeartbeats 4000000 in
set_option maxRecDepth 100000 in
theorem c_X4_isStretch (l : Launch) (D : va_G) (b : Nat) (M : mM) (t u : Int) (h : rg t) (h2 : rg u) : Met l yX4_isStretch wsX4_isStretch ({ frames := 1, cells := 0, slots := 0, locals := 20 } : Room) (mPc [.int (iI t), .int (iI u)] D b M) (mQi D b (fI (if (0 ≤ t ∧ t < 80) ∧ (0 ≤ u ∧ u < 80) ∧ t ≤ u then 1 else 0) M)) 0 0 (mF b) := by
  refine m_met (cc := cX4_isStretch) (maxL := 2) (ret := (some .boolean)) (by decide) rfl (Nat.le_of_ble_eq_true rfl) ?_
  intro p e s m args below meth c Q ls hx hb hml hr hts hown hlk hnm hQ K hG hS hl
  have hown : s.vm.findClass RX4 = some m.cls := hown
  have hl : lv_has ls 2 [(0, .int (iI t)), (1, .int (iI u))] := hl
  refine lv_iload_n hx hb dX4_isStretch_0 rfl (lv_at hl 0 rfl) ?_
  refine m_callfi (m_runS (As := [.int (iI t)]) (rest := []) ⟨hx, hb, hml, hown, hts⟩ (c_X4_isTick l D b _ t h) (va_cwS 1 hts gX4_isStretch_X4_isTick rfl rfl rfl (by decide +kernel) ⟨Nat.le_of_ble_eq_true rfl, Nat.le_of_ble_eq_true rfl⟩) K hG rfl hl.1 rfl (Nat.le_of_ble_eq_true rfl) dX4_isStretch_1 ⟨Nat.le_of_ble_eq_true rfl, Nat.le_of_ble_eq_true rfl⟩) hS (fun H locs hG hS => ?_)
  have hG : mG D b M s H := hG
  refine m_ifb_eq (tgt := 23) hx hb dX4_isStretch_4 (by decide) (fun c4 => ?_) (fun c4 => ?_)
  · refine lv_iconst (v := iI 0) hx hb dX4_isStretch_23 rfl ?_
    exact m_zret hx hb hr hlk hQ hG hS (Nat.le_of_ble_eq_true rfl) (Nat.le_of_ble_eq_true rfl) dX4_isStretch_24 (Or.inl rfl) ⟨congrArg iI (by first | rfl | omega | (split <;> omega)), rfl⟩
  · refine lv_iload_n hx hb dX4_isStretch_7 rfl (lv_at hl 1 rfl) ?_
    refine m_callfi (m_runS (As := [.int (iI u)]) (rest := []) ⟨hx, hb, hml, hown, hts⟩ (c_X4_isTick l D b _ u h2) (va_cwS 1 hts gX4_isStretch_X4_isTick rfl rfl rfl (by decide +kernel) ⟨Nat.le_of_ble_eq_true rfl, Nat.le_of_ble_eq_true rfl⟩) K hG rfl hl.1 rfl (Nat.le_of_ble_eq_true rfl) dX4_isStretch_8 ⟨Nat.le_of_ble_eq_true rfl, Nat.le_of_ble_eq_true rfl⟩) hS (fun H locs hG hS => ?_)
    have hG : mG D b M s H := hG
    refine m_ifb_eq (tgt := 23) hx hb dX4_isStretch_11 (by decide) (fun c11 => ?_) (fun c11 => ?_)
    · refine lv_iconst (v := iI 0) hx hb dX4_isStretch_23 rfl ?_
      exact m_zret hx hb hr hlk hQ hG hS (Nat.le_of_ble_eq_true rfl) (Nat.le_of_ble_eq_true rfl) dX4_isStretch_24 (Or.inl rfl) ⟨congrArg iI (by first | rfl | omega | (split <;> omega)), rfl⟩
    · refine lv_iload_n hx hb dX4_isStretch_14 rfl (lv_at hl 0 rfl) ?_
      refine lv_iload_n hx hb dX4_isStretch_15 rfl (lv_at hl 1 rfl) ?_
      refine m_icmp_gt (tgt := 23) hx hb dX4_isStretch_16 (by decide) h h2 (fun c16 => ?_) (fun c16 => ?_)
      · refine lv_iconst (v := iI 0) hx hb dX4_isStretch_23 rfl ?_
        exact m_zret hx hb hr hlk hQ hG hS (Nat.le_of_ble_eq_true rfl) (Nat.le_of_ble_eq_true rfl) dX4_isStretch_24 (Or.inl rfl) ⟨congrArg iI (by first | rfl | omega | (split <;> omega)), rfl⟩
      · refine lv_iconst (v := iI 1) hx hb dX4_isStretch_19 rfl ?_
        refine lv_goto (tgt := 24) hx hb dX4_isStretch_20 (by decide) ?_
        exact m_zret hx hb hr hlk hQ hG hS (Nat.le_of_ble_eq_true rfl) (Nat.le_of_ble_eq_true rfl) dX4_isStretch_24 (Or.inr rfl) ⟨congrArg iI (by first | rfl | omega | (split <;> omega)), rfl⟩
end
section
def q4 (a b c d : Int) : Nat → Int := fun k => if k = 0 then a else if k = 1 then b else if k = 2 then c else d
abbrev BF (F : Nat → Nat → Int) (t : Nat) : mE := Bx (F t 0) (F t 1) (F t 2) (F t 3)
theorem BF_congr {F G : Nat → Nat → Int} {t : Nat} (h : ∀ k, F t k = G t k) : BF F t = BF G t := by unfold BF; rw [h 0, h 1, h 2, h 3]
abbrev Th (sp : Int) (tk wh ra rc : Nat) (n j : Int) : mE := .inr (3, [.int (iI sp), .ref tk, .ref wh, .ref ra, .ref rc, .int (iI n), .int (iI j)])
def arF (F : Nat → Nat → Int) (t : Nat) (u v r : Int) : Nat → Int := q4 (max (F t 0) (u - r)) (min (F t 1) (u + r)) (max (F t 2) (v - r)) (min (F t 3) (v + r))
def neF (F : Nat → Nat → Int) (t t2 : Nat) (s : Int) : Nat → Int := q4 (max (F t 0) (F t2 0 - s)) (min (F t 1) (F t2 1 + s)) (max (F t 2) (F t2 2 - s)) (min (F t 3) (F t2 3 + s))
def siF (vt vw vr : Nat → Int) : Nat → Nat → Nat → Int
  | 0 => fun _ => q4 0 63 0 63
  | n + 1 => va_up (siF vt vw vr n) (vt n).toNat (arF (siF vt vw vr n) (vt n).toNat (vw n / 64) (vw n % 64) (vr n))
def fwF (s : Int) (F : Nat → Nat → Int) : Nat → Nat → Nat → Int
  | 0 => F
  | i + 1 => va_up (fwF s F i) (i + 1) (neF (fwF s F i) (i + 1) i s)
def bwF (s : Int) (F : Nat → Nat → Int) : Nat → Nat → Nat → Int
  | 0 => F
  | i + 1 => va_up (bwF s F i) (78 - i) (neF (bwF s F i) (78 - i) (78 - i + 1) s)
/-- where a thing can be, by its first n sights -/
def stF (s : Int) (vt vw vr : Nat → Int) (n : Nat) : Nat → Nat → Int := bwF s (fwF s (siF vt vw vr n) 79) 79
theorem sm63 {z : Int} (h : 0 ≤ z ∧ z ≤ 63) : sm z := ⟨by omega, by omega⟩
abbrev in63 (F : Nat → Nat → Int) : Prop := ∀ t k, 0 ≤ F t k ∧ F t k ≤ 63
theorem q4_rg {a b c d : Int} (h1 : 0 ≤ a ∧ a ≤ 63) (h2 : 0 ≤ b ∧ b ≤ 63) (h3 : 0 ≤ c ∧ c ≤ 63) (h4 : 0 ≤ d ∧ d ≤ 63) (k : Nat) : 0 ≤ q4 a b c d k ∧ q4 a b c d k ≤ 63 := by
  unfold q4
  split
  · exact h1
  · split
    · exact h2
    · split
      · exact h3
      · exact h4
theorem up_rg {F : Nat → Nat → Int} (h : in63 F) (t : Nat) {v : Nat → Int} (hv : ∀ k, 0 ≤ v k ∧ v k ≤ 63) : in63 (va_up F t v) := by
  intro a k
  by_cases g : a = t
  · subst g; rw [va_up_self]; exact hv k
  · rw [va_up_ne _ _ g]; exact h a k
theorem siF_rg {vt vw vr : Nat → Int} : ∀ {n : Nat}, (∀ k, k < n → (0 ≤ vw k ∧ vw k < 4096) ∧ (0 ≤ vr k ∧ vr k < 64)) → in63 (siF vt vw vr n)
  | 0, _ => fun t k => q4_rg (by omega) (by omega) (by omega) (by omega) k
  | n + 1, h => by
    have ih := siF_rg (vt := vt) (n := n) (fun k hk => h k (Nat.lt_succ_of_lt hk))
    obtain ⟨h1, h2⟩ := h n (Nat.lt_succ_self n)
    refine up_rg ih _ (fun k => q4_rg ?_ ?_ ?_ ?_ k)
    · have := ih (vt n).toNat 0; omega
    · have := ih (vt n).toNat 1; omega
    · have := ih (vt n).toNat 2; omega
    · have := ih (vt n).toNat 3; omega
theorem neF_rg {F : Nat → Nat → Int} (h : in63 F) {s : Int} (hs : 0 ≤ s) (t t2 k : Nat) : 0 ≤ neF F t t2 s k ∧ neF F t t2 s k ≤ 63 := by
  refine q4_rg ?_ ?_ ?_ ?_ k
  · have := h t 0; have := h t2 0; omega
  · have := h t 1; have := h t2 1; omega
  · have := h t 2; have := h t2 2; omega
  · have := h t 3; have := h t2 3; omega
theorem fwF_rg {F : Nat → Nat → Int} {s : Int} (hs : 0 ≤ s) (h : in63 F) : ∀ i, in63 (fwF s F i)
  | 0 => h
  | i + 1 => up_rg (fwF_rg hs h i) _ (neF_rg (fwF_rg hs h i) hs _ _)
theorem bwF_rg {F : Nat → Nat → Int} {s : Int} (hs : 0 ≤ s) (h : in63 F) : ∀ i, in63 (bwF s F i)
  | 0 => h
  | i + 1 => up_rg (bwF_rg hs h i) _ (neF_rg (bwF_rg hs h i) hs _ _)
theorem stF_rg {s : Int} (hs : 0 ≤ s) {vt vw vr : Nat → Int} {n : Nat} (h : ∀ k, k < n → (0 ≤ vw k ∧ vw k < 4096) ∧ (0 ≤ vr k ∧ vr k < 64)) : in63 (stF s vt vw vr n) := bwF_rg hs (fwF_rg hs (siF_rg h) 79) 79
theorem bxs_set {M : mM} {bx : Nat → Nat} {F : Nat → Nat → Int} (inj : ∀ t t2, t < 80 → t2 < 80 → bx t = bx t2 → t = t2) (h : ∀ t, t < 80 → M (bx t) = some (BF F t)) {k : Nat} (hk : k < 80) {v : Nat → Int} : ∀ t, t < 80 → mset M (bx k) (Bx (v 0) (v 1) (v 2) (v 3)) (bx t) = some (BF (va_up F k v) t) := by
  intro t ht
  by_cases g : t = k
  · subst g; rw [mset_self]; simp [va_up]
  · rw [mset_ne (fun z => g (inj t k ht hk z)), h t ht]; simp [va_up, g]
theorem bxs_fr {M M0 : mM} {bx : Nat → Nat} (h : ∀ a, (∀ t, t < 80 → a ≠ bx t) → M a = M0 a) {k : Nat} (hk : k < 80) {v : mE} : ∀ a, (∀ t, t < 80 → a ≠ bx t) → mset M (bx k) v a = M0 a := fun a ha => by rw [mset_ne (ha k hk)]; exact h a ha
theorem fld_up (F : Nat → Nat → Int) {i : Int} (hi : 0 ≤ i) : va_up (fun (t : Nat) (k : Nat) => if (t : Int) < i then q4 0 63 0 63 k else F t k) i.toNat (q4 0 63 0 63) = (fun (t : Nat) (k : Nat) => if (t : Int) < i + 1 then q4 0 63 0 63 k else F t k) := by
  funext t k
  by_cases g : t = i.toNat
  · rw [g, va_up_self, if_pos (by omega)]
  · rw [va_up_ne _ _ g]
    by_cases g2 : (t : Int) < i
    · rw [if_pos g2, if_pos (by omega)]
    · rw [if_neg g2, if_neg (by omega)]
abbrev neB (F : Nat → Nat → Int) (t : Nat) : Prop := F t 0 ≤ F t 1 ∧ F t 2 ≤ F t 3
def ThOk (M : mM) (th tk wh ra rc : Nat) (rf : Nat → Option Nat) (bx : Nat → Nat) (sp n j : Int) (vt vw vr : Nat → Int) (F : Nat → Nat → Int) : Prop :=
  M th = some (Th sp tk wh ra rc n j) ∧ M tk = some (aI 12 vt) ∧ M wh = some (aI 12 vw) ∧ M ra = some (aI 12 vr) ∧ M rc = some (aQ RX0 80 rf) ∧ (∀ t, t < 80 → rf t = some (bx t)) ∧ (∀ t, t < 80 → M (bx t) = some (BF F t)) ∧ (tk ≠ wh ∧ tk ≠ ra ∧ wh ≠ ra) ∧ (∀ t t2, t < 80 → t2 < 80 → bx t = bx t2 → t = t2)
abbrev sOk (n : Int) (vt vw vr : Nat → Int) : Prop := ∀ k : Nat, (k : Int) < n → (0 ≤ vt k ∧ vt k < 80) ∧ (0 ≤ vw k ∧ vw k < 4096) ∧ (0 ≤ vr k ∧ vr k < 64)
theorem sOk_le {n n2 : Int} {vt vw vr : Nat → Int} (h : sOk n vt vw vr) (hn : n2 ≤ n) : sOk n2 vt vw vr := fun k hk => h k (by omega)
theorem sOk_up {n : Int} {vt vw vr : Nat → Int} (h : sOk n vt vw vr) (h0 : 0 ≤ n) {t w r : Int} (ht : 0 ≤ t ∧ t < 80) (hw : 0 ≤ w ∧ w < 4096) (hr : 0 ≤ r ∧ r < 64) : sOk (n + 1) (va_up vt n.toNat t) (va_up vw n.toNat w) (va_up vr n.toNat r) := by
  intro k hk
  by_cases g : k = n.toNat
  · rw [g, va_up_self, va_up_self, va_up_self]; exact ⟨ht, hw, hr⟩
  · rw [va_up_ne _ _ g, va_up_ne _ _ g, va_up_ne _ _ g]; exact h k (by omega)

set_option maxHeartbeats 4000000 in
set_option maxRecDepth 100000 in
theorem c_X3_sights (l : Launch) (D : va_G) (b : Nat) (M : mM) (th tk wh ra rc : Nat) (rf : Nat → Option Nat) (bx : Nat → Nat) (sp n j : Int) (vt vw vr : Nat → Int) (F : Nat → Nat → Int) (hT : ThOk M th tk wh ra rc rf bx sp n j vt vw vr F) : Met l yX3_sights wsX3_sights ({ frames := 0, cells := 0, slots := 0, locals := 0 } : Room) (mPc [.ref th] D b M) (mQi D b (fI n M)) 0 0 (mF b) := by
  refine m_met (cc := cX3_sights) (maxL := 1) (ret := (some .int)) (by decide) rfl (Nat.le_of_ble_eq_true rfl) ?_
  intro p e s m args below meth c Q ls hx hb hml hr hts hown hlk hnm hQ K hG hS hl
  have hown : s.vm.findClass RX3 = some m.cls := hown
  have hl : lv_has ls 1 [(0, .ref th)] := hl
  obtain ⟨h1, ht, hw, hra, hrc, hrf, hB, ⟨n1, n2, n3⟩, inj⟩ := id hT
  have nth : ∀ t, t < 80 → th ≠ bx t := fun t q => mne h1 (hB t q) (by intro h; cases h)
  have ntk : ∀ t, t < 80 → tk ≠ bx t := fun t q => mne ht (hB t q) (by intro h; cases h)
  have nwh : ∀ t, t < 80 → wh ≠ bx t := fun t q => mne hw (hB t q) (by intro h; cases h)
  have nra : ∀ t, t < 80 → ra ≠ bx t := fun t q => mne hra (hB t q) (by intro h; cases h)
  have nrc : ∀ t, t < 80 → rc ≠ bx t := fun t q => mne hrc (hB t q) (by intro h; cases h)
  refine lv_aload_n hx hb dX3_sights_0 rfl (lv_at hl 0 rfl) ?_
  refine m_get (ci := 3) (v := .int (iI n)) (C := RX3) (T := TX3) (N := 7) hx hb hts (by decide +kernel) hown K hG h1 rfl 5 (by decide) (by decide +kernel) rfl dX3_sights_1 ?_
  exact m_iret hx hb hr hlk hQ hG hS (Nat.le_of_ble_eq_true rfl) (Nat.le_of_ble_eq_true rfl) dX3_sights_4 ⟨congrArg iI (by first | rfl | omega | (split <;> omega)), rfl⟩

set_option maxHeartbeats 4000000 in
set_option maxRecDepth 100000 in
theorem c_X3_leftOut (l : Launch) (D : va_G) (b : Nat) (M : mM) (th tk wh ra rc : Nat) (rf : Nat → Option Nat) (bx : Nat → Nat) (sp n j : Int) (vt vw vr : Nat → Int) (F : Nat → Nat → Int) (hT : ThOk M th tk wh ra rc rf bx sp n j vt vw vr F) : Met l yX3_leftOut wsX3_leftOut ({ frames := 0, cells := 0, slots := 0, locals := 0 } : Room) (mPc [.ref th] D b M) (mQi D b (fI j M)) 0 0 (mF b) := by
  refine m_met (cc := cX3_leftOut) (maxL := 1) (ret := (some .int)) (by decide) rfl (Nat.le_of_ble_eq_true rfl) ?_
  intro p e s m args below meth c Q ls hx hb hml hr hts hown hlk hnm hQ K hG hS hl
  have hown : s.vm.findClass RX3 = some m.cls := hown
  have hl : lv_has ls 1 [(0, .ref th)] := hl
  obtain ⟨h1, ht, hw, hra, hrc, hrf, hB, ⟨n1, n2, n3⟩, inj⟩ := id hT
  have nth : ∀ t, t < 80 → th ≠ bx t := fun t q => mne h1 (hB t q) (by intro h; cases h)
  have ntk : ∀ t, t < 80 → tk ≠ bx t := fun t q => mne ht (hB t q) (by intro h; cases h)
  have nwh : ∀ t, t < 80 → wh ≠ bx t := fun t q => mne hw (hB t q) (by intro h; cases h)
  have nra : ∀ t, t < 80 → ra ≠ bx t := fun t q => mne hra (hB t q) (by intro h; cases h)
  have nrc : ∀ t, t < 80 → rc ≠ bx t := fun t q => mne hrc (hB t q) (by intro h; cases h)
  refine lv_aload_n hx hb dX3_leftOut_0 rfl (lv_at hl 0 rfl) ?_
  refine m_get (ci := 3) (v := .int (iI j)) (C := RX3) (T := TX3) (N := 7) hx hb hts (by decide +kernel) hown K hG h1 rfl 6 (by decide) (by decide +kernel) rfl dX3_leftOut_1 ?_
  exact m_iret hx hb hr hlk hQ hG hS (Nat.le_of_ble_eq_true rfl) (Nat.le_of_ble_eq_true rfl) dX3_leftOut_4 ⟨congrArg iI (by first | rfl | omega | (split <;> omega)), rfl⟩

set_option maxHeartbeats 4000000 in
set_option maxRecDepth 100000 in
theorem c_X3_reachAt (l : Launch) (D : va_G) (b : Nat) (M : mM) (th tk wh ra rc : Nat) (rf : Nat → Option Nat) (bx : Nat → Nat) (sp n j : Int) (vt vw vr : Nat → Int) (F : Nat → Nat → Int) (hT : ThOk M th tk wh ra rc rf bx sp n j vt vw vr F) (t : Int) (ht0 : 0 ≤ t) (ht1 : t < 80) : Met l yX3_reachAt wsX3_reachAt ({ frames := 0, cells := 0, slots := 0, locals := 0 } : Room) (mPc [.ref th, .int (iI t)] D b M) (mQq D b (fQ (some (bx t.toNat)) M)) 0 0 (mF b) := by
  refine m_met (cc := cX3_reachAt) (maxL := 2) (ret := (some (.object "OverLine$Box"))) (by decide) rfl (Nat.le_of_ble_eq_true rfl) ?_
  intro p e s m args below meth c Q ls hx hb hml hr hts hown hlk hnm hQ K hG hS hl
  have hown : s.vm.findClass RX3 = some m.cls := hown
  have hl : lv_has ls 2 [(0, .ref th), (1, .int (iI t))] := hl
  obtain ⟨h1, ht, hw, hra, hrc, hrf, hB, ⟨n1, n2, n3⟩, inj⟩ := id hT
  have nth : ∀ t, t < 80 → th ≠ bx t := fun t q => mne h1 (hB t q) (by intro h; cases h)
  have ntk : ∀ t, t < 80 → tk ≠ bx t := fun t q => mne ht (hB t q) (by intro h; cases h)
  have nwh : ∀ t, t < 80 → wh ≠ bx t := fun t q => mne hw (hB t q) (by intro h; cases h)
  have nra : ∀ t, t < 80 → ra ≠ bx t := fun t q => mne hra (hB t q) (by intro h; cases h)
  have nrc : ∀ t, t < 80 → rc ≠ bx t := fun t q => mne hrc (hB t q) (by intro h; cases h)
  refine lv_aload_n hx hb dX3_reachAt_0 rfl (lv_at hl 0 rfl) ?_
  refine m_get (ci := 3) (v := .ref rc) (C := RX3) (T := TX3) (N := 7) hx hb hts (by decide +kernel) hown K hG h1 rfl 4 (by decide) (by decide +kernel) rfl dX3_reachAt_1 ?_
  refine lv_iload_n hx hb dX3_reachAt_4 rfl (lv_at hl 1 rfl) ?_
  refine m_aald hx hb hG hrc t.toNat (by omega) (by omega) (by decide) (hrf t.toNat (by omega)) dX3_reachAt_5 ?_
  exact m_aret (some (bx t.toNat)) rfl hx hb hr hlk hQ hG hS (Nat.le_of_ble_eq_true rfl) (Nat.le_of_ble_eq_true rfl) dX3_reachAt_6 ⟨rfl, rfl⟩

set_option maxHeartbeats 4000000 in
set_option maxRecDepth 100000 in
theorem c_X3_settle (l : Launch) (D : va_G) (b : Nat) (M : mM) (th tk wh ra rc : Nat) (rf : Nat → Option Nat) (bx : Nat → Nat) (sp n j : Int) (vt vw vr : Nat → Int) (F : Nat → Nat → Int) (hT : ThOk M th tk wh ra rc rf bx sp n j vt vw vr F) (hn0 : 0 ≤ n) (hn1 : n ≤ 12) (hsp0 : 0 ≤ sp) (hsp1 : sp ≤ 7) (sok : sOk n vt vw vr) : Met l yX3_settle wsX3_settle ({ frames := 2, cells := 0, slots := 0, locals := 37 } : Room) (mPc [.ref th] D b M) (mQv D b (fun M1 => ThOk M1 th tk wh ra rc rf bx sp n j vt vw vr (stF sp vt vw vr n.toNat) ∧ ∀ a, (∀ t, t < 80 → a ≠ bx t) → M1 a = M a)) 0 0 (mF b) := by
  refine m_met (cc := cX3_settle) (maxL := 2) (ret := none) (by decide) rfl (Nat.le_of_ble_eq_true rfl) ?_
  intro p e s m args below meth c Q ls hx hb hml hr hts hown hlk hnm hQ K hG hS hl
  have hown : s.vm.findClass RX3 = some m.cls := hown
  have hl : lv_has ls 2 [(0, .ref th)] := hl
  obtain ⟨h1, ht, hw, hra, hrc, hrf, hB, ⟨n1, n2, n3⟩, inj⟩ := id hT
  have nth : ∀ t, t < 80 → th ≠ bx t := fun t q => mne h1 (hB t q) (by intro h; cases h)
  have ntk : ∀ t, t < 80 → tk ≠ bx t := fun t q => mne ht (hB t q) (by intro h; cases h)
  have nwh : ∀ t, t < 80 → wh ≠ bx t := fun t q => mne hw (hB t q) (by intro h; cases h)
  have nra : ∀ t, t < 80 → ra ≠ bx t := fun t q => mne hra (hB t q) (by intro h; cases h)
  have nrc : ∀ t, t < 80 → rc ≠ bx t := fun t q => mne hrc (hB t q) (by intro h; cases h)
  refine lv_iconst (v := iI 0) hx hb dX3_settle_0 rfl ?_
  refine lv_istore_n (lv' := [(1, .int (iI 0)), (0, .ref th)]) hx hb dX3_settle_1 rfl hl (by decide) rfl (fun ls hl => ?_)
  have loop2 : ∀ (fuel : Nat) (i : Int) (M1 : mM) (H : Heap) (locs : List Loc) (ls : Array Slot), (0 ≤ i) → (i ≤ 80) → (∀ t, t < 80 → M1 (bx t) = some (BF (fun (t : Nat) (k : Nat) => if (t : Int) < i then q4 0 63 0 63 k else F t k) t)) → (∀ a, (∀ t, t < 80 → a ≠ bx t) → M1 a = M a) → (80 - i).toNat < fuel → mG D b M1 s H → va_S (mF b) s.heap H locs → lv_has ls 2 [(1, .int (iI i)), (0, .ref th)] → W p l e ({ frames := 2, cells := 0, slots := 0, locals := 37 } : Room) s m args below meth c H locs 0 0 Q (F0 m 2 ls []) := by
    intro fuel
    induction fuel with
    | zero => intro i M1 H locs ls hi0 hi1 hB1 hF1 hm; exact absurd hm (Nat.not_lt_zero _)
    | succ fuel ih2 =>
      intro i M1 H locs ls hi0 hi1 hB1 hF1 hm hG hS hl
      refine lv_iload_n hx hb dX3_settle_2 rfl (lv_at hl 0 rfl) ?_
      refine lv_bipush (v := iI 80) hx hb dX3_settle_3 (by decide) ?_
      refine m_icmp_ge (tgt := 23) hx hb dX3_settle_5 (by decide) ⟨by omega, by omega⟩ ⟨by omega, by omega⟩ (fun c5 => ?_) (fun c5 => ?_)
      · refine lv_iconst (v := iI 0) hx hb dX3_settle_23 rfl ?_
        refine lv_istore_n (lv' := [(1, .int (iI 0)), (0, .ref th)]) hx hb dX3_settle_24 rfl hl (by decide) rfl (fun ls hl => ?_)
        have loop25 : ∀ (fuel : Nat) (i : Int) (M2 : mM) (H : Heap) (locs : List Loc) (ls : Array Slot), (0 ≤ i) → (i ≤ n) → (∀ t, t < 80 → M2 (bx t) = some (BF (siF vt vw vr i.toNat) t)) → (∀ a, (∀ t, t < 80 → a ≠ bx t) → M2 a = M a) → (n - i).toNat < fuel → mG D b M2 s H → va_S (mF b) s.heap H locs → lv_has ls 2 [(1, .int (iI i)), (0, .ref th)] → W p l e ({ frames := 2, cells := 0, slots := 0, locals := 37 } : Room) s m args below meth c H locs 0 0 Q (F0 m 25 ls []) := by
          intro fuel
          induction fuel with
          | zero => intro i M2 H locs ls hj0 hj1 hB2 hF2 hm; exact absurd hm (Nat.not_lt_zero _)
          | succ fuel ih25 =>
            intro i M2 H locs ls hj0 hj1 hB2 hF2 hm hG hS hl
            have hR : in63 (siF vt vw vr i.toNat) := (siF_rg (fun k hk => (sok k (by omega)).2))
            refine lv_iload_n hx hb dX3_settle_25 rfl (lv_at hl 0 rfl) ?_
            refine lv_aload_n hx hb dX3_settle_26 rfl (lv_at hl 1 rfl) ?_
            refine m_get (ci := 3) (v := .int (iI n)) (C := RX3) (T := TX3) (N := 7) hx hb hts (by decide +kernel) hown K hG ((hF2 th nth).trans h1) rfl 5 (by decide) (by decide +kernel) rfl dX3_settle_27 ?_
            refine m_icmp_ge (tgt := 77) hx hb dX3_settle_30 (by decide) ⟨by omega, by omega⟩ ⟨by omega, by omega⟩ (fun c30 => ?_) (fun c30 => ?_)
            · refine lv_iconst (v := iI 1) hx hb dX3_settle_77 rfl ?_
              refine lv_istore_n (lv' := [(1, .int (iI 1)), (0, .ref th)]) hx hb dX3_settle_78 rfl hl (by decide) rfl (fun ls hl => ?_)
              have loop79 : ∀ (fuel : Nat) (i : Int) (M3 : mM) (H : Heap) (locs : List Loc) (ls : Array Slot), (1 ≤ i) → (i ≤ 80) → (∀ t, t < 80 → M3 (bx t) = some (BF (fwF sp (siF vt vw vr n.toNat) (i - 1).toNat) t)) → (∀ a, (∀ t, t < 80 → a ≠ bx t) → M3 a = M a) → (80 - i).toNat < fuel → mG D b M3 s H → va_S (mF b) s.heap H locs → lv_has ls 2 [(1, .int (iI i)), (0, .ref th)] → W p l e ({ frames := 2, cells := 0, slots := 0, locals := 37 } : Room) s m args below meth c H locs 0 0 Q (F0 m 79 ls []) := by
                intro fuel
                induction fuel with
                | zero => intro i M3 H locs ls hk0 hk1 hB3 hF3 hm; exact absurd hm (Nat.not_lt_zero _)
                | succ fuel ih79 =>
                  intro i M3 H locs ls hk0 hk1 hB3 hF3 hm hG hS hl
                  have hR : in63 (fwF sp (siF vt vw vr n.toNat) (i - 1).toNat) := fwF_rg hsp0 (siF_rg (fun k hk => (sok k (by omega)).2)) _
                  refine lv_iload_n hx hb dX3_settle_79 rfl (lv_at hl 0 rfl) ?_
                  refine lv_bipush (v := iI 80) hx hb dX3_settle_80 (by decide) ?_
                  refine m_icmp_ge (tgt := 112) hx hb dX3_settle_82 (by decide) ⟨by omega, by omega⟩ ⟨by omega, by omega⟩ (fun c82 => ?_) (fun c82 => ?_)
                  · refine lv_bipush (v := iI 78) hx hb dX3_settle_112 (by decide) ?_
                    refine lv_istore_n (lv' := [(1, .int (iI 78)), (0, .ref th)]) hx hb dX3_settle_114 rfl hl (by decide) rfl (fun ls hl => ?_)
                    have loop115 : ∀ (fuel : Nat) (i : Int) (M4 : mM) (H : Heap) (locs : List Loc) (ls : Array Slot), (-1 ≤ i) → (i ≤ 78) → (∀ t, t < 80 → M4 (bx t) = some (BF (bwF sp (fwF sp (siF vt vw vr n.toNat) 79) (78 - i).toNat) t)) → (∀ a, (∀ t, t < 80 → a ≠ bx t) → M4 a = M a) → (i + 1).toNat < fuel → mG D b M4 s H → va_S (mF b) s.heap H locs → lv_has ls 2 [(1, .int (iI i)), (0, .ref th)] → W p l e ({ frames := 2, cells := 0, slots := 0, locals := 37 } : Room) s m args below meth c H locs 0 0 Q (F0 m 115 ls []) := by
                      intro fuel
                      induction fuel with
                      | zero => intro i M4 H locs ls hm0 hm1 hB4 hF4 hm; exact absurd hm (Nat.not_lt_zero _)
                      | succ fuel ih115 =>
                        intro i M4 H locs ls hm0 hm1 hB4 hF4 hm hG hS hl
                        have hR : in63 (bwF sp (fwF sp (siF vt vw vr n.toNat) 79) (78 - i).toNat) := bwF_rg hsp0 (fwF_rg hsp0 (siF_rg (fun k hk => (sok k (by omega)).2)) _) _
                        refine lv_iload_n hx hb dX3_settle_115 rfl (lv_at hl 0 rfl) ?_
                        refine m_if_lt (tgt := 146) hx hb dX3_settle_116 (by decide) ⟨by omega, by omega⟩ (fun c116 => ?_) (fun c116 => ?_)
                        · exact m_vret hx hb hr hlk hQ hG hS (Nat.le_of_ble_eq_true rfl) (Nat.le_of_ble_eq_true rfl) dX3_settle_146 ⟨⟨(hF4 th nth).trans h1, (hF4 tk ntk).trans ht, (hF4 wh nwh).trans hw, (hF4 ra nra).trans hra, (hF4 rc nrc).trans hrc, hrf, (by unfold stF; rw [show (bwF sp (fwF sp (siF vt vw vr n.toNat) 79) 79) = bwF sp (fwF sp (siF vt vw vr n.toNat) 79) (78 - i).toNat by rw [show (78 - i).toNat = 79 by omega]]; exact hB4), ⟨n1, n2, n3⟩, inj⟩, hF4⟩
                        · refine lv_aload_n hx hb dX3_settle_119 rfl (lv_at hl 1 rfl) ?_
                          refine m_get (ci := 3) (v := .ref rc) (C := RX3) (T := TX3) (N := 7) hx hb hts (by decide +kernel) hown K hG ((hF4 th nth).trans h1) rfl 4 (by decide) (by decide +kernel) rfl dX3_settle_120 ?_
                          refine lv_iload_n hx hb dX3_settle_123 rfl (lv_at hl 0 rfl) ?_
                          refine m_aald hx hb hG ((hF4 rc nrc).trans hrc) i.toNat (by omega) (by omega) (by decide) (hrf i.toNat (by omega)) dX3_settle_124 ?_
                          refine lv_aload_n hx hb dX3_settle_125 rfl (lv_at hl 1 rfl) ?_
                          refine m_get (ci := 3) (v := .ref rc) (C := RX3) (T := TX3) (N := 7) hx hb hts (by decide +kernel) hown K hG ((hF4 th nth).trans h1) rfl 4 (by decide) (by decide +kernel) rfl dX3_settle_126 ?_
                          refine lv_iload_n hx hb dX3_settle_129 rfl (lv_at hl 0 rfl) ?_
                          refine lv_iconst (v := iI 1) hx hb dX3_settle_130 rfl ?_
                          refine m_iadd hx hb dX3_settle_131 ?_
                          refine m_aald hx hb hG ((hF4 rc nrc).trans hrc) ((i + 1).toNat) (by omega) (by omega) (by decide) (hrf ((i + 1).toNat) (by omega)) dX3_settle_132 ?_
                          refine lv_aload_n hx hb dX3_settle_133 rfl (lv_at hl 1 rfl) ?_
                          refine m_get (ci := 3) (v := .int (iI sp)) (C := RX3) (T := TX3) (N := 7) hx hb hts (by decide +kernel) hown K hG ((hF4 th nth).trans h1) rfl 0 (by decide) (by decide +kernel) rfl dX3_settle_134 ?_
                          refine m_callfv (m_runV (a := bx i.toNat) (As := [.ref (bx ((i + 1).toNat)), .int (iI sp)]) (rest := []) ⟨hx, hb, hml, hown, hts⟩ (c_X0_keepNear l D b _ (bx i.toNat) ((bwF sp (fwF sp (siF vt vw vr n.toNat) 79) (78 - i).toNat) i.toNat 0) ((bwF sp (fwF sp (siF vt vw vr n.toNat) 79) (78 - i).toNat) i.toNat 1) ((bwF sp (fwF sp (siF vt vw vr n.toNat) 79) (78 - i).toNat) i.toNat 2) ((bwF sp (fwF sp (siF vt vw vr n.toNat) 79) (78 - i).toNat) i.toNat 3) (hB4 i.toNat (by omega)) (sm63 (hR i.toNat 0)) (sm63 (hR i.toNat 1)) (sm63 (hR i.toNat 2)) (sm63 (hR i.toNat 3)) (bx ((i + 1).toNat)) ((bwF sp (fwF sp (siF vt vw vr n.toNat) 79) (78 - i).toNat) ((i + 1).toNat) 0) ((bwF sp (fwF sp (siF vt vw vr n.toNat) 79) (78 - i).toNat) ((i + 1).toNat) 1) ((bwF sp (fwF sp (siF vt vw vr n.toNat) 79) (78 - i).toNat) ((i + 1).toNat) 2) ((bwF sp (fwF sp (siF vt vw vr n.toNat) 79) (78 - i).toNat) ((i + 1).toNat) 3) sp (hB4 ((i + 1).toNat) (by omega)) (sm63 (hR ((i + 1).toNat) 0)) (sm63 (hR ((i + 1).toNat) 1)) (sm63 (hR ((i + 1).toNat) 2)) (sm63 (hR ((i + 1).toNat) 3)) (by omega) (fun z => absurd (inj ((i + 1).toNat) i.toNat (by omega) (by omega) z) (by omega))) (cwV 2 hts gX3_settle_X0_keepNear rfl rfl rfl (by decide +kernel) ⟨Nat.le_of_ble_eq_true rfl, Nat.le_of_ble_eq_true rfl⟩) K hG (hB4 i.toNat (by omega)) rfl rfl rfl hl.1 rfl (Nat.le_of_ble_eq_true rfl) dX3_settle_137 ⟨Nat.le_of_ble_eq_true rfl, Nat.le_of_ble_eq_true rfl⟩) hS (fun H locs hG hS => ?_)
                          have hG : mG D b (mset M4 (bx i.toNat) (.inr (0, [.int (iI (max ((bwF sp (fwF sp (siF vt vw vr n.toNat) 79) (78 - i).toNat) i.toNat 0) ((bwF sp (fwF sp (siF vt vw vr n.toNat) 79) (78 - i).toNat) ((i + 1).toNat) 0 - sp))), .int (iI (min ((bwF sp (fwF sp (siF vt vw vr n.toNat) 79) (78 - i).toNat) i.toNat 1) ((bwF sp (fwF sp (siF vt vw vr n.toNat) 79) (78 - i).toNat) ((i + 1).toNat) 1 + sp))), .int (iI (max ((bwF sp (fwF sp (siF vt vw vr n.toNat) 79) (78 - i).toNat) i.toNat 2) ((bwF sp (fwF sp (siF vt vw vr n.toNat) 79) (78 - i).toNat) ((i + 1).toNat) 2 - sp))), .int (iI (min ((bwF sp (fwF sp (siF vt vw vr n.toNat) 79) (78 - i).toNat) i.toNat 3) ((bwF sp (fwF sp (siF vt vw vr n.toNat) 79) (78 - i).toNat) ((i + 1).toNat) 3 + sp)))]))) s H := hG
                          refine m_iinc (lv' := [(1, .int (iI (i + (-1)))), (0, .ref th)]) (k := 0) hx hb dX3_settle_140 hl rfl (by decide) rfl (fun ls hl => ?_)
                          refine lv_goto (tgt := 115) hx hb dX3_settle_143 (by decide) ?_
                          exact ih115 (i + (-1)) (mset M4 (bx i.toNat) (.inr (0, [.int (iI (max ((bwF sp (fwF sp (siF vt vw vr n.toNat) 79) (78 - i).toNat) i.toNat 0) ((bwF sp (fwF sp (siF vt vw vr n.toNat) 79) (78 - i).toNat) ((i + 1).toNat) 0 - sp))), .int (iI (min ((bwF sp (fwF sp (siF vt vw vr n.toNat) 79) (78 - i).toNat) i.toNat 1) ((bwF sp (fwF sp (siF vt vw vr n.toNat) 79) (78 - i).toNat) ((i + 1).toNat) 1 + sp))), .int (iI (max ((bwF sp (fwF sp (siF vt vw vr n.toNat) 79) (78 - i).toNat) i.toNat 2) ((bwF sp (fwF sp (siF vt vw vr n.toNat) 79) (78 - i).toNat) ((i + 1).toNat) 2 - sp))), .int (iI (min ((bwF sp (fwF sp (siF vt vw vr n.toNat) 79) (78 - i).toNat) i.toNat 3) ((bwF sp (fwF sp (siF vt vw vr n.toNat) 79) (78 - i).toNat) ((i + 1).toNat) 3 + sp)))]))) _ _ _ (by omega) (by omega) (by rw [show (78 - (i + (-1))).toNat = (78 - i).toNat + 1 by omega]; have h9 := bxs_set (v := neF (bwF sp (fwF sp (siF vt vw vr n.toNat) 79) (78 - i).toNat) i.toNat (i + 1).toNat sp) inj hB4 (k := i.toNat) (by omega); rw [bwF, show 78 - (78 - i).toNat = i.toNat by omega, show i.toNat + 1 = (i + 1).toNat by omega]; exact h9) (bxs_fr hF4 (by omega)) (by omega) hG hS (lv_sub hl [0, 1] rfl)
                    exact loop115 _ 78 M3 _ _ _ (by omega) (by omega) (by rw [show (79 : Nat) = (i - 1).toNat by omega]; exact hB3) hF3 (Nat.lt_succ_self _) hG hS (lv_sub hl [0, 1] rfl)
                  · refine lv_aload_n hx hb dX3_settle_85 rfl (lv_at hl 1 rfl) ?_
                    refine m_get (ci := 3) (v := .ref rc) (C := RX3) (T := TX3) (N := 7) hx hb hts (by decide +kernel) hown K hG ((hF3 th nth).trans h1) rfl 4 (by decide) (by decide +kernel) rfl dX3_settle_86 ?_
                    refine lv_iload_n hx hb dX3_settle_89 rfl (lv_at hl 0 rfl) ?_
                    refine m_aald hx hb hG ((hF3 rc nrc).trans hrc) i.toNat (by omega) (by omega) (by decide) (hrf i.toNat (by omega)) dX3_settle_90 ?_
                    refine lv_aload_n hx hb dX3_settle_91 rfl (lv_at hl 1 rfl) ?_
                    refine m_get (ci := 3) (v := .ref rc) (C := RX3) (T := TX3) (N := 7) hx hb hts (by decide +kernel) hown K hG ((hF3 th nth).trans h1) rfl 4 (by decide) (by decide +kernel) rfl dX3_settle_92 ?_
                    refine lv_iload_n hx hb dX3_settle_95 rfl (lv_at hl 0 rfl) ?_
                    refine lv_iconst (v := iI 1) hx hb dX3_settle_96 rfl ?_
                    refine m_isub hx hb dX3_settle_97 ?_
                    refine m_aald hx hb hG ((hF3 rc nrc).trans hrc) ((i - 1).toNat) (by omega) (by omega) (by decide) (hrf ((i - 1).toNat) (by omega)) dX3_settle_98 ?_
                    refine lv_aload_n hx hb dX3_settle_99 rfl (lv_at hl 1 rfl) ?_
                    refine m_get (ci := 3) (v := .int (iI sp)) (C := RX3) (T := TX3) (N := 7) hx hb hts (by decide +kernel) hown K hG ((hF3 th nth).trans h1) rfl 0 (by decide) (by decide +kernel) rfl dX3_settle_100 ?_
                    refine m_callfv (m_runV (a := bx i.toNat) (As := [.ref (bx ((i - 1).toNat)), .int (iI sp)]) (rest := []) ⟨hx, hb, hml, hown, hts⟩ (c_X0_keepNear l D b _ (bx i.toNat) ((fwF sp (siF vt vw vr n.toNat) (i - 1).toNat) i.toNat 0) ((fwF sp (siF vt vw vr n.toNat) (i - 1).toNat) i.toNat 1) ((fwF sp (siF vt vw vr n.toNat) (i - 1).toNat) i.toNat 2) ((fwF sp (siF vt vw vr n.toNat) (i - 1).toNat) i.toNat 3) (hB3 i.toNat (by omega)) (sm63 (hR i.toNat 0)) (sm63 (hR i.toNat 1)) (sm63 (hR i.toNat 2)) (sm63 (hR i.toNat 3)) (bx ((i - 1).toNat)) ((fwF sp (siF vt vw vr n.toNat) (i - 1).toNat) ((i - 1).toNat) 0) ((fwF sp (siF vt vw vr n.toNat) (i - 1).toNat) ((i - 1).toNat) 1) ((fwF sp (siF vt vw vr n.toNat) (i - 1).toNat) ((i - 1).toNat) 2) ((fwF sp (siF vt vw vr n.toNat) (i - 1).toNat) ((i - 1).toNat) 3) sp (hB3 ((i - 1).toNat) (by omega)) (sm63 (hR ((i - 1).toNat) 0)) (sm63 (hR ((i - 1).toNat) 1)) (sm63 (hR ((i - 1).toNat) 2)) (sm63 (hR ((i - 1).toNat) 3)) (by omega) (fun z => absurd (inj ((i - 1).toNat) i.toNat (by omega) (by omega) z) (by omega))) (cwV 2 hts gX3_settle_X0_keepNear rfl rfl rfl (by decide +kernel) ⟨Nat.le_of_ble_eq_true rfl, Nat.le_of_ble_eq_true rfl⟩) K hG (hB3 i.toNat (by omega)) rfl rfl rfl hl.1 rfl (Nat.le_of_ble_eq_true rfl) dX3_settle_103 ⟨Nat.le_of_ble_eq_true rfl, Nat.le_of_ble_eq_true rfl⟩) hS (fun H locs hG hS => ?_)
                    have hG : mG D b (mset M3 (bx i.toNat) (.inr (0, [.int (iI (max ((fwF sp (siF vt vw vr n.toNat) (i - 1).toNat) i.toNat 0) ((fwF sp (siF vt vw vr n.toNat) (i - 1).toNat) ((i - 1).toNat) 0 - sp))), .int (iI (min ((fwF sp (siF vt vw vr n.toNat) (i - 1).toNat) i.toNat 1) ((fwF sp (siF vt vw vr n.toNat) (i - 1).toNat) ((i - 1).toNat) 1 + sp))), .int (iI (max ((fwF sp (siF vt vw vr n.toNat) (i - 1).toNat) i.toNat 2) ((fwF sp (siF vt vw vr n.toNat) (i - 1).toNat) ((i - 1).toNat) 2 - sp))), .int (iI (min ((fwF sp (siF vt vw vr n.toNat) (i - 1).toNat) i.toNat 3) ((fwF sp (siF vt vw vr n.toNat) (i - 1).toNat) ((i - 1).toNat) 3 + sp)))]))) s H := hG
                    refine m_iinc (lv' := [(1, .int (iI (i + 1))), (0, .ref th)]) (k := 0) hx hb dX3_settle_106 hl rfl (by decide) rfl (fun ls hl => ?_)
                    refine lv_goto (tgt := 79) hx hb dX3_settle_109 (by decide) ?_
                    exact ih79 (i + 1) (mset M3 (bx i.toNat) (.inr (0, [.int (iI (max ((fwF sp (siF vt vw vr n.toNat) (i - 1).toNat) i.toNat 0) ((fwF sp (siF vt vw vr n.toNat) (i - 1).toNat) ((i - 1).toNat) 0 - sp))), .int (iI (min ((fwF sp (siF vt vw vr n.toNat) (i - 1).toNat) i.toNat 1) ((fwF sp (siF vt vw vr n.toNat) (i - 1).toNat) ((i - 1).toNat) 1 + sp))), .int (iI (max ((fwF sp (siF vt vw vr n.toNat) (i - 1).toNat) i.toNat 2) ((fwF sp (siF vt vw vr n.toNat) (i - 1).toNat) ((i - 1).toNat) 2 - sp))), .int (iI (min ((fwF sp (siF vt vw vr n.toNat) (i - 1).toNat) i.toNat 3) ((fwF sp (siF vt vw vr n.toNat) (i - 1).toNat) ((i - 1).toNat) 3 + sp)))]))) _ _ _ (by omega) (by omega) (by rw [show (i + 1 - 1).toNat = (i - 1).toNat + 1 by omega]; have h9 := bxs_set (v := neF (fwF sp (siF vt vw vr n.toNat) (i - 1).toNat) i.toNat (i - 1).toNat sp) inj hB3 (k := i.toNat) (by omega); rw [fwF, show (i - 1).toNat + 1 = i.toNat by omega]; exact h9) (bxs_fr hF3 (by omega)) (by omega) hG hS (lv_sub hl [0, 1] rfl)
              exact loop79 _ 1 M2 _ _ _ (by omega) (by omega) (by rw [show n.toNat = i.toNat by omega]; exact hB2) hF2 (Nat.lt_succ_self _) hG hS (lv_sub hl [0, 1] rfl)
            · have so := sok i.toNat (by omega)
              obtain ⟨⟨so1, so2⟩, ⟨so3, so4⟩, so5, so6⟩ := so
              refine lv_aload_n hx hb dX3_settle_33 rfl (lv_at hl 1 rfl) ?_
              refine m_get (ci := 3) (v := .ref rc) (C := RX3) (T := TX3) (N := 7) hx hb hts (by decide +kernel) hown K hG ((hF2 th nth).trans h1) rfl 4 (by decide) (by decide +kernel) rfl dX3_settle_34 ?_
              refine lv_aload_n hx hb dX3_settle_37 rfl (lv_at hl 1 rfl) ?_
              refine m_get (ci := 3) (v := .ref tk) (C := RX3) (T := TX3) (N := 7) hx hb hts (by decide +kernel) hown K hG ((hF2 th nth).trans h1) rfl 1 (by decide) (by decide +kernel) rfl dX3_settle_38 ?_
              refine lv_iload_n hx hb dX3_settle_41 rfl (lv_at hl 0 rfl) ?_
              refine m_iald hx hb hG ((hF2 tk ntk).trans ht) i.toNat (by omega) (by omega) (by decide) dX3_settle_42 ?_
              refine m_aald hx hb hG ((hF2 rc nrc).trans hrc) ((vt i.toNat).toNat) (by omega) (by omega) (by decide) (hrf ((vt i.toNat).toNat) (by omega)) dX3_settle_43 ?_
              refine lv_aload_n hx hb dX3_settle_44 rfl (lv_at hl 1 rfl) ?_
              refine m_get (ci := 3) (v := .ref wh) (C := RX3) (T := TX3) (N := 7) hx hb hts (by decide +kernel) hown K hG ((hF2 th nth).trans h1) rfl 2 (by decide) (by decide +kernel) rfl dX3_settle_45 ?_
              refine lv_iload_n hx hb dX3_settle_48 rfl (lv_at hl 0 rfl) ?_
              refine m_iald hx hb hG ((hF2 wh nwh).trans hw) i.toNat (by omega) (by omega) (by decide) dX3_settle_49 ?_
              refine m_callfi (m_runSN (As := [.int (iI (vw i.toNat))]) (rest := [.ref (bx ((vt i.toNat).toNat))]) ⟨hx, hb, hml, hown, hts⟩ (c_X4_xOf l D b _ (vw i.toNat) (by omega) (by omega)) ⟨va_cnB 1 hts gX3_settle_X4_xOf_n63 rfl rfl rfl K.2.2.2.1.1 (hts _ (by decide +kernel : Cond.initialized RX4 ∈ wsX3_settle)) (by decide +kernel) ⟨Nat.le_of_ble_eq_true rfl, Nat.le_of_ble_eq_true rfl⟩, hts _ (by decide +kernel : Cond.static yX4_xOf ∈ wsX3_settle), trivial⟩ K hG rfl hl.1 rfl (Nat.le_of_ble_eq_true rfl) dX3_settle_50 ⟨Nat.le_of_ble_eq_true rfl, Nat.le_of_ble_eq_true rfl⟩) hS (fun H locs hG hS => ?_)
              have hG : mG D b M2 s H := hG
              refine lv_aload_n hx hb dX3_settle_53 rfl (lv_at hl 1 rfl) ?_
              refine m_get (ci := 3) (v := .ref wh) (C := RX3) (T := TX3) (N := 7) hx hb hts (by decide +kernel) hown K hG ((hF2 th nth).trans h1) rfl 2 (by decide) (by decide +kernel) rfl dX3_settle_54 ?_
              refine lv_iload_n hx hb dX3_settle_57 rfl (lv_at hl 0 rfl) ?_
              refine m_iald hx hb hG ((hF2 wh nwh).trans hw) i.toNat (by omega) (by omega) (by decide) dX3_settle_58 ?_
              refine m_callfi (m_runSN (As := [.int (iI (vw i.toNat))]) (rest := [.int (iI ((vw i.toNat) / 64)), .ref (bx ((vt i.toNat).toNat))]) ⟨hx, hb, hml, hown, hts⟩ (c_X4_yOf l D b _ (vw i.toNat) (by omega) (by omega)) ⟨va_cnB 1 hts gX3_settle_X4_yOf_n67 rfl rfl rfl K.2.2.2.1.2 (hts _ (by decide +kernel : Cond.initialized RX4 ∈ wsX3_settle)) (by decide +kernel) ⟨Nat.le_of_ble_eq_true rfl, Nat.le_of_ble_eq_true rfl⟩, hts _ (by decide +kernel : Cond.static yX4_yOf ∈ wsX3_settle), trivial⟩ K hG rfl hl.1 rfl (Nat.le_of_ble_eq_true rfl) dX3_settle_59 ⟨Nat.le_of_ble_eq_true rfl, Nat.le_of_ble_eq_true rfl⟩) hS (fun H locs hG hS => ?_)
              have hG : mG D b M2 s H := hG
              refine lv_aload_n hx hb dX3_settle_62 rfl (lv_at hl 1 rfl) ?_
              refine m_get (ci := 3) (v := .ref ra) (C := RX3) (T := TX3) (N := 7) hx hb hts (by decide +kernel) hown K hG ((hF2 th nth).trans h1) rfl 3 (by decide) (by decide +kernel) rfl dX3_settle_63 ?_
              refine lv_iload_n hx hb dX3_settle_66 rfl (lv_at hl 0 rfl) ?_
              refine m_iald hx hb hG ((hF2 ra nra).trans hra) i.toNat (by omega) (by omega) (by decide) dX3_settle_67 ?_
              refine m_callfv (m_runV (a := bx ((vt i.toNat).toNat)) (As := [.int (iI ((vw i.toNat) / 64)), .int (iI ((vw i.toNat) % 64)), .int (iI (vr i.toNat))]) (rest := []) ⟨hx, hb, hml, hown, hts⟩ (c_X0_keepAround l D b _ (bx ((vt i.toNat).toNat)) ((siF vt vw vr i.toNat) ((vt i.toNat).toNat) 0) ((siF vt vw vr i.toNat) ((vt i.toNat).toNat) 1) ((siF vt vw vr i.toNat) ((vt i.toNat).toNat) 2) ((siF vt vw vr i.toNat) ((vt i.toNat).toNat) 3) (hB2 ((vt i.toNat).toNat) (by omega)) (sm63 (hR ((vt i.toNat).toNat) 0)) (sm63 (hR ((vt i.toNat).toNat) 1)) (sm63 (hR ((vt i.toNat).toNat) 2)) (sm63 (hR ((vt i.toNat).toNat) 3)) ((vw i.toNat) / 64) ((vw i.toNat) % 64) (vr i.toNat) (by omega) (by omega) (by omega)) (cwV 3 hts gX3_settle_X0_keepAround rfl rfl rfl (by decide +kernel) ⟨Nat.le_of_ble_eq_true rfl, Nat.le_of_ble_eq_true rfl⟩) K hG (hB2 ((vt i.toNat).toNat) (by omega)) rfl rfl rfl hl.1 rfl (Nat.le_of_ble_eq_true rfl) dX3_settle_68 ⟨Nat.le_of_ble_eq_true rfl, Nat.le_of_ble_eq_true rfl⟩) hS (fun H locs hG hS => ?_)
              have hG : mG D b (mset M2 (bx ((vt i.toNat).toNat)) (.inr (0, [.int (iI (max ((siF vt vw vr i.toNat) ((vt i.toNat).toNat) 0) ((vw i.toNat) / 64 - (vr i.toNat)))), .int (iI (min ((siF vt vw vr i.toNat) ((vt i.toNat).toNat) 1) ((vw i.toNat) / 64 + (vr i.toNat)))), .int (iI (max ((siF vt vw vr i.toNat) ((vt i.toNat).toNat) 2) ((vw i.toNat) % 64 - (vr i.toNat)))), .int (iI (min ((siF vt vw vr i.toNat) ((vt i.toNat).toNat) 3) ((vw i.toNat) % 64 + (vr i.toNat))))]))) s H := hG
              refine m_iinc (lv' := [(1, .int (iI (i + 1))), (0, .ref th)]) (k := 0) hx hb dX3_settle_71 hl rfl (by decide) rfl (fun ls hl => ?_)
              refine lv_goto (tgt := 25) hx hb dX3_settle_74 (by decide) ?_
              exact ih25 (i + 1) (mset M2 (bx ((vt i.toNat).toNat)) (.inr (0, [.int (iI (max ((siF vt vw vr i.toNat) ((vt i.toNat).toNat) 0) ((vw i.toNat) / 64 - (vr i.toNat)))), .int (iI (min ((siF vt vw vr i.toNat) ((vt i.toNat).toNat) 1) ((vw i.toNat) / 64 + (vr i.toNat)))), .int (iI (max ((siF vt vw vr i.toNat) ((vt i.toNat).toNat) 2) ((vw i.toNat) % 64 - (vr i.toNat)))), .int (iI (min ((siF vt vw vr i.toNat) ((vt i.toNat).toNat) 3) ((vw i.toNat) % 64 + (vr i.toNat))))]))) _ _ _ (by omega) (by omega) (by rw [show (i + 1).toNat = i.toNat + 1 by omega]; exact bxs_set (v := arF (siF vt vw vr i.toNat) (vt i.toNat).toNat (vw i.toNat / 64) (vw i.toNat % 64) (vr i.toNat)) inj hB2 (by omega)) (bxs_fr hF2 (by omega)) (by omega) hG hS (lv_sub hl [0, 1] rfl)
        exact loop25 _ 0 M1 _ _ _ (by omega) (by omega) (fun t q => (hB1 t q).trans (congrArg some (BF_congr (fun k => if_pos (show (t : Int) < i by omega))))) hF1 (Nat.lt_succ_self _) hG hS (lv_sub hl [0, 1] rfl)
      · refine lv_aload_n hx hb dX3_settle_8 rfl (lv_at hl 1 rfl) ?_
        refine m_get (ci := 3) (v := .ref rc) (C := RX3) (T := TX3) (N := 7) hx hb hts (by decide +kernel) hown K hG ((hF1 th nth).trans h1) rfl 4 (by decide) (by decide +kernel) rfl dX3_settle_9 ?_
        refine lv_iload_n hx hb dX3_settle_12 rfl (lv_at hl 0 rfl) ?_
        refine m_aald hx hb hG ((hF1 rc nrc).trans hrc) i.toNat (by omega) (by omega) (by decide) (hrf i.toNat (by omega)) dX3_settle_13 ?_
        refine m_callfv (m_runV (a := bx i.toNat) (As := []) (rest := []) ⟨hx, hb, hml, hown, hts⟩ (c_X0_setToField l D b _ (bx i.toNat) ((fun (t : Nat) (k : Nat) => if (t : Int) < i then q4 0 63 0 63 k else F t k) i.toNat 0) ((fun (t : Nat) (k : Nat) => if (t : Int) < i then q4 0 63 0 63 k else F t k) i.toNat 1) ((fun (t : Nat) (k : Nat) => if (t : Int) < i then q4 0 63 0 63 k else F t k) i.toNat 2) ((fun (t : Nat) (k : Nat) => if (t : Int) < i then q4 0 63 0 63 k else F t k) i.toNat 3) (hB1 i.toNat (by omega))) (cwV 0 hts gX3_settle_X0_setToField rfl rfl rfl (by decide +kernel) ⟨Nat.le_of_ble_eq_true rfl, Nat.le_of_ble_eq_true rfl⟩) K hG (hB1 i.toNat (by omega)) rfl rfl rfl hl.1 rfl (Nat.le_of_ble_eq_true rfl) dX3_settle_14 ⟨Nat.le_of_ble_eq_true rfl, Nat.le_of_ble_eq_true rfl⟩) hS (fun H locs hG hS => ?_)
        have hG : mG D b (mset M1 (bx i.toNat) (.inr (0, [.int (iI 0), .int (iI 63), .int (iI 0), .int (iI 63)]))) s H := hG
        refine m_iinc (lv' := [(1, .int (iI (i + 1))), (0, .ref th)]) (k := 0) hx hb dX3_settle_17 hl rfl (by decide) rfl (fun ls hl => ?_)
        refine lv_goto (tgt := 2) hx hb dX3_settle_20 (by decide) ?_
        exact ih2 (i + 1) (mset M1 (bx i.toNat) (.inr (0, [.int (iI 0), .int (iI 63), .int (iI 0), .int (iI 63)]))) _ _ _ (by omega) (by omega) (by rw [← fld_up F hi0]; exact bxs_set (v := q4 0 63 0 63) inj hB1 (by omega)) (bxs_fr hF1 (by omega)) (by omega) hG hS (lv_sub hl [0, 1] rfl)
  exact loop2 _ 0 M _ _ _ (by omega) (by omega) (fun t q => (hB t q).trans (congrArg some (BF_congr (fun k => (if_neg (show ¬ ((t : Int) < 0) by omega)).symm)))) (fun a _ => rfl) (Nat.lt_succ_self _) hG hS (lv_sub hl [0, 1] rfl)

set_option maxHeartbeats 4000000 in
set_option maxRecDepth 100000 in
theorem c_X3_canMove (l : Launch) (D : va_G) (b : Nat) (M : mM) (th tk wh ra rc : Nat) (rf : Nat → Option Nat) (bx : Nat → Nat) (sp n j : Int) (vt vw vr : Nat → Int) (F : Nat → Nat → Int) (hT : ThOk M th tk wh ra rc rf bx sp n j vt vw vr F) (hR : in63 F) : Met l yX3_canMove wsX3_canMove ({ frames := 1, cells := 0, slots := 0, locals := 20 } : Room) (mPc [.ref th] D b M) (mQi D b (fI (tf (∀ t : Nat, t < 80 → neB F t)) M)) 0 0 (mF b) := by
  refine m_met (cc := cX3_canMove) (maxL := 2) (ret := (some .boolean)) (by decide) rfl (Nat.le_of_ble_eq_true rfl) ?_
  intro p e s m args below meth c Q ls hx hb hml hr hts hown hlk hnm hQ K hG hS hl
  have hown : s.vm.findClass RX3 = some m.cls := hown
  have hl : lv_has ls 2 [(0, .ref th)] := hl
  obtain ⟨h1, ht, hw, hra, hrc, hrf, hB, ⟨n1, n2, n3⟩, inj⟩ := id hT
  have nth : ∀ t, t < 80 → th ≠ bx t := fun t q => mne h1 (hB t q) (by intro h; cases h)
  have ntk : ∀ t, t < 80 → tk ≠ bx t := fun t q => mne ht (hB t q) (by intro h; cases h)
  have nwh : ∀ t, t < 80 → wh ≠ bx t := fun t q => mne hw (hB t q) (by intro h; cases h)
  have nra : ∀ t, t < 80 → ra ≠ bx t := fun t q => mne hra (hB t q) (by intro h; cases h)
  have nrc : ∀ t, t < 80 → rc ≠ bx t := fun t q => mne hrc (hB t q) (by intro h; cases h)
  refine lv_iconst (v := iI 0) hx hb dX3_canMove_0 rfl ?_
  refine lv_istore_n (lv' := [(1, .int (iI 0)), (0, .ref th)]) hx hb dX3_canMove_1 rfl hl (by decide) rfl (fun ls hl => ?_)
  have loop2 : ∀ (fuel : Nat) (i : Int) (H : Heap) (locs : List Loc) (ls : Array Slot), (0 ≤ i) → (i ≤ 80) → (∀ t : Nat, (t : Int) < i → neB F t) → (80 - i).toNat < fuel → mG D b M s H → va_S (mF b) s.heap H locs → lv_has ls 2 [(1, .int (iI i)), (0, .ref th)] → W p l e ({ frames := 1, cells := 0, slots := 0, locals := 20 } : Room) s m args below meth c H locs 0 0 Q (F0 m 2 ls []) := by
    intro fuel
    induction fuel with
    | zero => intro i H locs ls hi0 hi1 hA hm; exact absurd hm (Nat.not_lt_zero _)
    | succ fuel ih2 =>
      intro i H locs ls hi0 hi1 hA hm hG hS hl
      refine lv_iload_n hx hb dX3_canMove_2 rfl (lv_at hl 0 rfl) ?_
      refine lv_bipush (v := iI 80) hx hb dX3_canMove_3 (by decide) ?_
      refine m_icmp_ge (tgt := 28) hx hb dX3_canMove_5 (by decide) ⟨by omega, by omega⟩ ⟨by omega, by omega⟩ (fun c5 => ?_) (fun c5 => ?_)
      · refine lv_iconst (v := iI 1) hx hb dX3_canMove_28 rfl ?_
        exact m_zret hx hb hr hlk hQ hG hS (Nat.le_of_ble_eq_true rfl) (Nat.le_of_ble_eq_true rfl) dX3_canMove_29 (Or.inr rfl) ⟨congrArg iI (tf_t (fun t h => hA t (by omega))).symm, rfl⟩
      · refine lv_aload_n hx hb dX3_canMove_8 rfl (lv_at hl 1 rfl) ?_
        refine m_get (ci := 3) (v := .ref rc) (C := RX3) (T := TX3) (N := 7) hx hb hts (by decide +kernel) hown K hG h1 rfl 4 (by decide) (by decide +kernel) rfl dX3_canMove_9 ?_
        refine lv_iload_n hx hb dX3_canMove_12 rfl (lv_at hl 0 rfl) ?_
        refine m_aald hx hb hG hrc i.toNat (by omega) (by omega) (by decide) (hrf i.toNat (by omega)) dX3_canMove_13 ?_
        refine m_callfi (m_runV (a := bx i.toNat) (As := []) (rest := []) ⟨hx, hb, hml, hown, hts⟩ (c_X0_isEmpty l D b _ (bx i.toNat) (F i.toNat 0) (F i.toNat 1) (F i.toNat 2) (F i.toNat 3) (hB i.toNat (by omega)) (sm63 (hR i.toNat 0)) (sm63 (hR i.toNat 1)) (sm63 (hR i.toNat 2)) (sm63 (hR i.toNat 3))) (cwV 0 hts gX3_canMove_X0_isEmpty rfl rfl rfl (by decide +kernel) ⟨Nat.le_of_ble_eq_true rfl, Nat.le_of_ble_eq_true rfl⟩) K hG (hB i.toNat (by omega)) rfl rfl rfl hl.1 rfl (Nat.le_of_ble_eq_true rfl) dX3_canMove_14 ⟨Nat.le_of_ble_eq_true rfl, Nat.le_of_ble_eq_true rfl⟩) hS (fun H locs hG hS => ?_)
        have hG : mG D b M s H := hG
        refine m_ifb_eq (tgt := 22) hx hb dX3_canMove_17 (by decide) (fun c17 => ?_) (fun c17 => ?_)
        · refine m_iinc (lv' := [(1, .int (iI (i + 1))), (0, .ref th)]) (k := 0) hx hb dX3_canMove_22 hl rfl (by decide) rfl (fun ls hl => ?_)
          refine lv_goto (tgt := 2) hx hb dX3_canMove_25 (by decide) ?_
          exact ih2 (i + 1) _ _ _ (by omega) (by omega) (fun t h => by rcases Int.lt_or_le (t : Int) i with q | q; exact hA t q; rw [show t = i.toNat by omega]; exact ⟨by omega, by omega⟩) (by omega) hG hS (lv_sub hl [0, 1] rfl)
        · refine lv_iconst (v := iI 0) hx hb dX3_canMove_20 rfl ?_
          exact m_zret hx hb hr hlk hQ hG hS (Nat.le_of_ble_eq_true rfl) (Nat.le_of_ble_eq_true rfl) dX3_canMove_21 (Or.inl rfl) ⟨congrArg iI (tf_f (fun q => by have := q i.toNat (by omega); omega)).symm, rfl⟩
  exact loop2 _ 0 _ _ _ (by omega) (by omega) (fun t h => absurd h (by omega)) (Nat.lt_succ_self _) hG hS (lv_sub hl [0, 1] rfl)

set_option maxHeartbeats 4000000 in
set_option maxRecDepth 100000 in
theorem c_X3_dropSight (l : Launch) (D : va_G) (b : Nat) (M : mM) (th tk wh ra rc : Nat) (rf : Nat → Option Nat) (bx : Nat → Nat) (sp n j : Int) (vt vw vr : Nat → Int) (F : Nat → Nat → Int) (hT : ThOk M th tk wh ra rc rf bx sp n j vt vw vr F) (hn0 : 0 ≤ n) (hn1 : n ≤ 12) (hsp0 : 0 ≤ sp) (hsp1 : sp ≤ 7) (sok : sOk n vt vw vr) : Met l yX3_dropSight wsX3_dropSight ({ frames := 3, cells := 0, slots := 0, locals := 58 } : Room) (mPc [.ref th] D b M) (mQi D b (fun r M1 => (n ≤ 0 ∧ r = iI 0 ∧ M1 = M) ∨ (0 < n ∧ r = iI 1 ∧ ThOk M1 th tk wh ra rc rf bx sp (n - 1) j vt vw vr (stF sp vt vw vr (n - 1).toNat) ∧ ∀ a, a ≠ th → (∀ t, t < 80 → a ≠ bx t) → M1 a = M a))) 0 0 (mF b) := by
  refine m_met (cc := cX3_dropSight) (maxL := 1) (ret := (some .boolean)) (by decide) rfl (Nat.le_of_ble_eq_true rfl) ?_
  intro p e s m args below meth c Q ls hx hb hml hr hts hown hlk hnm hQ K hG hS hl
  have hown : s.vm.findClass RX3 = some m.cls := hown
  have hl : lv_has ls 1 [(0, .ref th)] := hl
  obtain ⟨h1, ht, hw, hra, hrc, hrf, hB, ⟨n1, n2, n3⟩, inj⟩ := id hT
  have nth : ∀ t, t < 80 → th ≠ bx t := fun t q => mne h1 (hB t q) (by intro h; cases h)
  have ntk : ∀ t, t < 80 → tk ≠ bx t := fun t q => mne ht (hB t q) (by intro h; cases h)
  have nwh : ∀ t, t < 80 → wh ≠ bx t := fun t q => mne hw (hB t q) (by intro h; cases h)
  have nra : ∀ t, t < 80 → ra ≠ bx t := fun t q => mne hra (hB t q) (by intro h; cases h)
  have nrc : ∀ t, t < 80 → rc ≠ bx t := fun t q => mne hrc (hB t q) (by intro h; cases h)
  refine lv_aload_n hx hb dX3_dropSight_0 rfl (lv_at hl 0 rfl) ?_
  refine m_get (ci := 3) (v := .int (iI n)) (C := RX3) (T := TX3) (N := 7) hx hb hts (by decide +kernel) hown K hG h1 rfl 5 (by decide) (by decide +kernel) rfl dX3_dropSight_1 ?_
  refine m_if_gt (tgt := 9) hx hb dX3_dropSight_4 (by decide) ⟨by omega, by omega⟩ (fun c4 => ?_) (fun c4 => ?_)
  · refine lv_aload_n hx hb dX3_dropSight_9 rfl (lv_at hl 0 rfl) ?_
    refine lv_dup hx hb dX3_dropSight_10 rfl ?_
    refine m_get (ci := 3) (v := .int (iI n)) (C := RX3) (T := TX3) (N := 7) hx hb hts (by decide +kernel) hown K hG h1 rfl 5 (by decide) (by decide +kernel) rfl dX3_dropSight_11 ?_
    refine lv_iconst (v := iI 1) hx hb dX3_dropSight_14 rfl ?_
    refine m_isub hx hb dX3_dropSight_15 ?_
    refine m_put (ci := 3) (v := .int (iI (n - 1))) (ty := .int) (fs' := [.int (iI sp), .ref tk, .ref wh, .ref ra, .ref rc, .int (iI (n - 1)), .int (iI j)]) (C := RX3) (T := TX3) (N := 7) hx hb hts (by decide +kernel) tyX3 tyX3_ok nmX3 hown K hG hS h1 rfl 5 (by decide) (by decide +kernel) rfl (by decide +kernel) rfl rfl (Nat.le_of_ble_eq_true rfl) rfl dX3_dropSight_16 (fun H locs hG hS => ?_)
    have hG : mG D b (mset M th (.inr (3, [.int (iI sp), .ref tk, .ref wh, .ref ra, .ref rc, .int (iI (n - 1)), .int (iI j)]))) s H := hG
    refine lv_aload_n hx hb dX3_dropSight_19 rfl (lv_at hl 0 rfl) ?_
    refine m_callv (m_runV (a := th) (As := []) (rest := []) ⟨hx, hb, hml, hown, hts⟩ (c_X3_settle l D b _ th tk wh ra rc rf bx sp (n - 1) j vt vw vr F ⟨mset_self, ((mset_ne (mne ht h1 (by intro h; cases h))).trans ht), ((mset_ne (mne hw h1 (by intro h; cases h))).trans hw), ((mset_ne (mne hra h1 (by intro h; cases h))).trans hra), ((mset_ne (mne hrc h1 (by intro h; cases h))).trans hrc), hrf, (fun t q => ((mset_ne (Ne.symm (nth t (by omega)))).trans (hB t (by omega)))), ⟨n1, n2, n3⟩, inj⟩ (by omega) (by omega) hsp0 hsp1 (sOk_le sok (by omega))) (cwV 0 hts gX3_dropSight_X3_settle rfl rfl rfl (by decide +kernel) ⟨Nat.le_of_ble_eq_true rfl, Nat.le_of_ble_eq_true rfl⟩) K hG mset_self rfl rfl rfl hl.1 rfl (Nat.le_of_ble_eq_true rfl) dX3_dropSight_20 ⟨Nat.le_of_ble_eq_true rfl, Nat.le_of_ble_eq_true rfl⟩) hS (fun M2 H locs hw3 hG hS => ?_)
    obtain ⟨hT2, hF2⟩ := hw3
    obtain ⟨h1_2, ht_2, hw_2, hra_2, hrc_2, -, hB_2, -, -⟩ := id hT2
    refine lv_iconst (v := iI 1) hx hb dX3_dropSight_23 rfl ?_
    exact m_zret hx hb hr hlk hQ hG hS (Nat.le_of_ble_eq_true rfl) (Nat.le_of_ble_eq_true rfl) dX3_dropSight_24 (Or.inr rfl) (Or.inr ⟨by omega, rfl, hT2, fun a h8 h9 => (hF2 a h9).trans (mset_ne h8)⟩)
  · refine lv_iconst (v := iI 0) hx hb dX3_dropSight_7 rfl ?_
    exact m_zret hx hb hr hlk hQ hG hS (Nat.le_of_ble_eq_true rfl) (Nat.le_of_ble_eq_true rfl) dX3_dropSight_8 (Or.inl rfl) (Or.inl ⟨by omega, rfl, rfl⟩)

set_option maxHeartbeats 4000000 in
set_option maxRecDepth 100000 in
theorem c_X3_takeSight (l : Launch) (D : va_G) (b : Nat) (M : mM) (th tk wh ra rc : Nat) (rf : Nat → Option Nat) (bx : Nat → Nat) (sp n j : Int) (vt vw vr : Nat → Int) (F : Nat → Nat → Int) (hT : ThOk M th tk wh ra rc rf bx sp n j vt vw vr F) (hn0 : 0 ≤ n) (hn1 : n ≤ 12) (hsp0 : 0 ≤ sp) (hsp1 : sp ≤ 7) (sok : sOk n vt vw vr) (t0 w0 r0 : Int) (ht0 : 0 ≤ t0) (ht1 : t0 < 80) (hw0 : 0 ≤ w0) (hw1 : w0 < 4096) (hr0 : 0 ≤ r0) (hr1 : r0 < 64) : Met l yX3_takeSight wsX3_takeSight ({ frames := 3, cells := 0, slots := 0, locals := 58 } : Room) (mPc [.ref th, .int (iI t0), .int (iI w0), .int (iI r0)] D b M) (mQi D b (fun r M1 => (∀ a, a ≠ th → a ≠ tk → a ≠ wh → a ≠ ra → (∀ t, t < 80 → a ≠ bx t) → M1 a = M a) ∧ ((12 ≤ n ∧ r = iI 0 ∧ M1 = M) ∨ (n < 12 ∧ (∀ t : Nat, t < 80 → neB (stF sp (va_up vt n.toNat t0) (va_up vw n.toNat w0) (va_up vr n.toNat r0) (n + 1).toNat) t) ∧ r = iI 1 ∧ ThOk M1 th tk wh ra rc rf bx sp (n + 1) (j) (va_up vt n.toNat t0) (va_up vw n.toNat w0) (va_up vr n.toNat r0) (stF sp (va_up vt n.toNat t0) (va_up vw n.toNat w0) (va_up vr n.toNat r0) (n + 1).toNat)) ∨ (n < 12 ∧ ¬ (∀ t : Nat, t < 80 → neB (stF sp (va_up vt n.toNat t0) (va_up vw n.toNat w0) (va_up vr n.toNat r0) (n + 1).toNat) t) ∧ r = iI 0 ∧ ThOk M1 th tk wh ra rc rf bx sp (n) (j + 1) (va_up vt n.toNat t0) (va_up vw n.toNat w0) (va_up vr n.toNat r0) (stF sp (va_up vt n.toNat t0) (va_up vw n.toNat w0) (va_up vr n.toNat r0) n.toNat))))) 0 0 (mF b) := by
  refine m_met (cc := cX3_takeSight) (maxL := 4) (ret := (some .boolean)) (by decide) rfl (Nat.le_of_ble_eq_true rfl) ?_
  intro p e s m args below meth c Q ls hx hb hml hr hts hown hlk hnm hQ K hG hS hl
  have hown : s.vm.findClass RX3 = some m.cls := hown
  have hl : lv_has ls 4 [(0, .ref th), (1, .int (iI t0)), (2, .int (iI w0)), (3, .int (iI r0))] := hl
  obtain ⟨h1, ht, hw, hra, hrc, hrf, hB, ⟨n1, n2, n3⟩, inj⟩ := id hT
  have nth : ∀ t, t < 80 → th ≠ bx t := fun t q => mne h1 (hB t q) (by intro h; cases h)
  have ntk : ∀ t, t < 80 → tk ≠ bx t := fun t q => mne ht (hB t q) (by intro h; cases h)
  have nwh : ∀ t, t < 80 → wh ≠ bx t := fun t q => mne hw (hB t q) (by intro h; cases h)
  have nra : ∀ t, t < 80 → ra ≠ bx t := fun t q => mne hra (hB t q) (by intro h; cases h)
  have nrc : ∀ t, t < 80 → rc ≠ bx t := fun t q => mne hrc (hB t q) (by intro h; cases h)
  refine lv_aload_n hx hb dX3_takeSight_0 rfl (lv_at hl 0 rfl) ?_
  refine m_get (ci := 3) (v := .int (iI n)) (C := RX3) (T := TX3) (N := 7) hx hb hts (by decide +kernel) hown K hG h1 rfl 5 (by decide) (by decide +kernel) rfl dX3_takeSight_1 ?_
  refine lv_bipush (v := iI 12) hx hb dX3_takeSight_4 (by decide) ?_
  refine m_icmp_lt (tgt := 11) hx hb dX3_takeSight_6 (by decide) ⟨by omega, by omega⟩ ⟨by omega, by omega⟩ (fun c6 => ?_) (fun c6 => ?_)
  · refine lv_aload_n hx hb dX3_takeSight_11 rfl (lv_at hl 0 rfl) ?_
    refine m_get (ci := 3) (v := .ref tk) (C := RX3) (T := TX3) (N := 7) hx hb hts (by decide +kernel) hown K hG h1 rfl 1 (by decide) (by decide +kernel) rfl dX3_takeSight_12 ?_
    refine lv_aload_n hx hb dX3_takeSight_15 rfl (lv_at hl 0 rfl) ?_
    refine m_get (ci := 3) (v := .int (iI n)) (C := RX3) (T := TX3) (N := 7) hx hb hts (by decide +kernel) hown K hG h1 rfl 5 (by decide) (by decide +kernel) rfl dX3_takeSight_16 ?_
    refine lv_iload_n hx hb dX3_takeSight_19 rfl (lv_at hl 1 rfl) ?_
    refine m_iast hx hb hG hS ht n.toNat (by omega) (by omega) (by decide) dX3_takeSight_20 (fun H locs hG hS => ?_)
    have hG : mG D b (mset M tk (aI 12 (va_up vt n.toNat t0))) s H := hG
    refine lv_aload_n hx hb dX3_takeSight_21 rfl (lv_at hl 0 rfl) ?_
    refine m_get (ci := 3) (v := .ref wh) (C := RX3) (T := TX3) (N := 7) hx hb hts (by decide +kernel) hown K hG ((mset_ne (mne h1 ht (by intro h; cases h))).trans h1) rfl 2 (by decide) (by decide +kernel) rfl dX3_takeSight_22 ?_
    refine lv_aload_n hx hb dX3_takeSight_25 rfl (lv_at hl 0 rfl) ?_
    refine m_get (ci := 3) (v := .int (iI n)) (C := RX3) (T := TX3) (N := 7) hx hb hts (by decide +kernel) hown K hG ((mset_ne (mne h1 ht (by intro h; cases h))).trans h1) rfl 5 (by decide) (by decide +kernel) rfl dX3_takeSight_26 ?_
    refine lv_iload_n hx hb dX3_takeSight_29 rfl (lv_at hl 2 rfl) ?_
    refine m_iast hx hb hG hS ((mset_ne (Ne.symm n1)).trans hw) n.toNat (by omega) (by omega) (by decide) dX3_takeSight_30 (fun H locs hG hS => ?_)
    have hG : mG D b (mset (mset M tk (aI 12 (va_up vt n.toNat t0))) wh (aI 12 (va_up vw n.toNat w0))) s H := hG
    refine lv_aload_n hx hb dX3_takeSight_31 rfl (lv_at hl 0 rfl) ?_
    refine m_get (ci := 3) (v := .ref ra) (C := RX3) (T := TX3) (N := 7) hx hb hts (by decide +kernel) hown K hG ((mset_ne (mne h1 hw (by intro h; cases h))).trans ((mset_ne (mne h1 ht (by intro h; cases h))).trans h1)) rfl 3 (by decide) (by decide +kernel) rfl dX3_takeSight_32 ?_
    refine lv_aload_n hx hb dX3_takeSight_35 rfl (lv_at hl 0 rfl) ?_
    refine m_get (ci := 3) (v := .int (iI n)) (C := RX3) (T := TX3) (N := 7) hx hb hts (by decide +kernel) hown K hG ((mset_ne (mne h1 hw (by intro h; cases h))).trans ((mset_ne (mne h1 ht (by intro h; cases h))).trans h1)) rfl 5 (by decide) (by decide +kernel) rfl dX3_takeSight_36 ?_
    refine lv_iload_n hx hb dX3_takeSight_39 rfl (lv_at hl 3 rfl) ?_
    refine m_iast hx hb hG hS ((mset_ne (Ne.symm n3)).trans ((mset_ne (Ne.symm n2)).trans hra)) n.toNat (by omega) (by omega) (by decide) dX3_takeSight_40 (fun H locs hG hS => ?_)
    have hG : mG D b (mset (mset (mset M tk (aI 12 (va_up vt n.toNat t0))) wh (aI 12 (va_up vw n.toNat w0))) ra (aI 12 (va_up vr n.toNat r0))) s H := hG
    refine lv_aload_n hx hb dX3_takeSight_41 rfl (lv_at hl 0 rfl) ?_
    refine lv_dup hx hb dX3_takeSight_42 rfl ?_
    refine m_get (ci := 3) (v := .int (iI n)) (C := RX3) (T := TX3) (N := 7) hx hb hts (by decide +kernel) hown K hG ((mset_ne (mne h1 hra (by intro h; cases h))).trans ((mset_ne (mne h1 hw (by intro h; cases h))).trans ((mset_ne (mne h1 ht (by intro h; cases h))).trans h1))) rfl 5 (by decide) (by decide +kernel) rfl dX3_takeSight_43 ?_
    refine lv_iconst (v := iI 1) hx hb dX3_takeSight_46 rfl ?_
    refine m_iadd hx hb dX3_takeSight_47 ?_
    refine m_put (ci := 3) (v := .int (iI (n + 1))) (ty := .int) (fs' := [.int (iI sp), .ref tk, .ref wh, .ref ra, .ref rc, .int (iI (n + 1)), .int (iI j)]) (C := RX3) (T := TX3) (N := 7) hx hb hts (by decide +kernel) tyX3 tyX3_ok nmX3 hown K hG hS ((mset_ne (mne h1 hra (by intro h; cases h))).trans ((mset_ne (mne h1 hw (by intro h; cases h))).trans ((mset_ne (mne h1 ht (by intro h; cases h))).trans h1))) rfl 5 (by decide) (by decide +kernel) rfl (by decide +kernel) rfl rfl (Nat.le_of_ble_eq_true rfl) rfl dX3_takeSight_48 (fun H locs hG hS => ?_)
    have hG : mG D b (mset (mset (mset (mset M tk (aI 12 (va_up vt n.toNat t0))) wh (aI 12 (va_up vw n.toNat w0))) ra (aI 12 (va_up vr n.toNat r0))) th (.inr (3, [.int (iI sp), .ref tk, .ref wh, .ref ra, .ref rc, .int (iI (n + 1)), .int (iI j)]))) s H := hG
    have sok1 := sOk_up sok hn0 (t := t0) (w := w0) (r := r0) ⟨ht0, ht1⟩ ⟨hw0, hw1⟩ ⟨hr0, hr1⟩
    refine lv_aload_n hx hb dX3_takeSight_51 rfl (lv_at hl 0 rfl) ?_
    refine m_callv (m_runV (a := th) (As := []) (rest := []) ⟨hx, hb, hml, hown, hts⟩ (c_X3_settle l D b _ th tk wh ra rc rf bx sp (n + 1) j (va_up vt n.toNat t0) (va_up vw n.toNat w0) (va_up vr n.toNat r0) F ⟨mset_self, ((mset_ne (mne ht h1 (by intro h; cases h))).trans ((mset_ne n2).trans ((mset_ne n1).trans mset_self))), ((mset_ne (mne hw h1 (by intro h; cases h))).trans ((mset_ne n3).trans mset_self)), ((mset_ne (mne hra h1 (by intro h; cases h))).trans mset_self), ((mset_ne (mne hrc h1 (by intro h; cases h))).trans ((mset_ne (mne hrc hra (by intro h; cases h))).trans ((mset_ne (mne hrc hw (by intro h; cases h))).trans ((mset_ne (mne hrc ht (by intro h; cases h))).trans hrc)))), hrf, (fun t q => ((mset_ne (Ne.symm (nth t (by omega)))).trans ((mset_ne (Ne.symm (nra t (by omega)))).trans ((mset_ne (Ne.symm (nwh t (by omega)))).trans ((mset_ne (Ne.symm (ntk t (by omega)))).trans (hB t (by omega))))))), ⟨n1, n2, n3⟩, inj⟩ (by omega) (by omega) hsp0 hsp1 (sOk_le sok1 (by omega))) (cwV 0 hts gX3_takeSight_X3_settle rfl rfl rfl (by decide +kernel) ⟨Nat.le_of_ble_eq_true rfl, Nat.le_of_ble_eq_true rfl⟩) K hG mset_self rfl rfl rfl hl.1 rfl (Nat.le_of_ble_eq_true rfl) dX3_takeSight_52 ⟨Nat.le_of_ble_eq_true rfl, Nat.le_of_ble_eq_true rfl⟩) hS (fun M2 H locs hw3 hG hS => ?_)
    obtain ⟨hT2, hF2⟩ := hw3
    obtain ⟨h1_2, ht_2, hw_2, hra_2, hrc_2, -, hB_2, -, -⟩ := id hT2
    have hR_2 : in63 (stF sp (va_up vt n.toNat t0) (va_up vw n.toNat w0) (va_up vr n.toNat r0) (n + 1).toNat) := stF_rg hsp0 (fun k hk => (sok1 k (by omega)).2)
    refine lv_aload_n hx hb dX3_takeSight_55 rfl (lv_at hl 0 rfl) ?_
    refine m_callfi (m_runV (a := th) (As := []) (rest := []) ⟨hx, hb, hml, hown, hts⟩ (c_X3_canMove l D b _ th tk wh ra rc rf bx sp (n + 1) j (va_up vt n.toNat t0) (va_up vw n.toNat w0) (va_up vr n.toNat r0) (stF sp (va_up vt n.toNat t0) (va_up vw n.toNat w0) (va_up vr n.toNat r0) (n + 1).toNat) ⟨h1_2, ht_2, hw_2, hra_2, hrc_2, hrf, (fun t q => (hB_2 t (by omega))), ⟨n1, n2, n3⟩, inj⟩ hR_2) (cwV 0 hts gX3_takeSight_X3_canMove rfl rfl rfl (by decide +kernel) ⟨Nat.le_of_ble_eq_true rfl, Nat.le_of_ble_eq_true rfl⟩) K hG h1_2 rfl rfl rfl hl.1 rfl (Nat.le_of_ble_eq_true rfl) dX3_takeSight_56 ⟨Nat.le_of_ble_eq_true rfl, Nat.le_of_ble_eq_true rfl⟩) hS (fun H locs hG hS => ?_)
    have hG : mG D b M2 s H := hG
    refine m_ift_ne (tgt := 88) hx hb dX3_takeSight_59 (by decide) (fun c59 => ?_) (fun c59 => ?_)
    · refine lv_iconst (v := iI 1) hx hb dX3_takeSight_88 rfl ?_
      exact m_zret hx hb hr hlk hQ hG hS (Nat.le_of_ble_eq_true rfl) (Nat.le_of_ble_eq_true rfl) dX3_takeSight_89 (Or.inr rfl) ⟨fun a g1 g2 g3 g4 g5 => (hF2 a g5).trans ((mset_ne g1).trans ((mset_ne g4).trans ((mset_ne g3).trans (mset_ne g2)))), Or.inr (Or.inl ⟨by omega, c59, rfl, hT2⟩)⟩
    · refine lv_aload_n hx hb dX3_takeSight_62 rfl (lv_at hl 0 rfl) ?_
      refine lv_dup hx hb dX3_takeSight_63 rfl ?_
      refine m_get (ci := 3) (v := .int (iI (n + 1))) (C := RX3) (T := TX3) (N := 7) hx hb hts (by decide +kernel) hown K hG h1_2 rfl 5 (by decide) (by decide +kernel) rfl dX3_takeSight_64 ?_
      refine lv_iconst (v := iI 1) hx hb dX3_takeSight_67 rfl ?_
      refine m_isub hx hb dX3_takeSight_68 ?_
      refine m_put (ci := 3) (v := .int (iI ((n + 1) - 1))) (ty := .int) (fs' := [.int (iI sp), .ref tk, .ref wh, .ref ra, .ref rc, .int (iI ((n + 1) - 1)), .int (iI j)]) (C := RX3) (T := TX3) (N := 7) hx hb hts (by decide +kernel) tyX3 tyX3_ok nmX3 hown K hG hS h1_2 rfl 5 (by decide) (by decide +kernel) rfl (by decide +kernel) rfl rfl (Nat.le_of_ble_eq_true rfl) rfl dX3_takeSight_69 (fun H locs hG hS => ?_)
      have hG : mG D b (mset M2 th (.inr (3, [.int (iI sp), .ref tk, .ref wh, .ref ra, .ref rc, .int (iI ((n + 1) - 1)), .int (iI j)]))) s H := hG
      refine lv_aload_n hx hb dX3_takeSight_72 rfl (lv_at hl 0 rfl) ?_
      refine lv_dup hx hb dX3_takeSight_73 rfl ?_
      refine m_get (ci := 3) (v := .int (iI j)) (C := RX3) (T := TX3) (N := 7) hx hb hts (by decide +kernel) hown K hG mset_self rfl 6 (by decide) (by decide +kernel) rfl dX3_takeSight_74 ?_
      refine lv_iconst (v := iI 1) hx hb dX3_takeSight_77 rfl ?_
      refine m_iadd hx hb dX3_takeSight_78 ?_
      refine m_put (ci := 3) (v := .int (iI (j + 1))) (ty := .int) (fs' := [.int (iI sp), .ref tk, .ref wh, .ref ra, .ref rc, .int (iI ((n + 1) - 1)), .int (iI (j + 1))]) (C := RX3) (T := TX3) (N := 7) hx hb hts (by decide +kernel) tyX3 tyX3_ok nmX3 hown K hG hS mset_self rfl 6 (by decide) (by decide +kernel) rfl (by decide +kernel) rfl rfl (Nat.le_of_ble_eq_true rfl) rfl dX3_takeSight_79 (fun H locs hG hS => ?_)
      rw [mset_mset] at hG
      have hG : mG D b (mset M2 th (.inr (3, [.int (iI sp), .ref tk, .ref wh, .ref ra, .ref rc, .int (iI ((n + 1) - 1)), .int (iI (j + 1))]))) s H := hG
      refine lv_aload_n hx hb dX3_takeSight_82 rfl (lv_at hl 0 rfl) ?_
      refine m_callv (m_runV (a := th) (As := []) (rest := []) ⟨hx, hb, hml, hown, hts⟩ (c_X3_settle l D b _ th tk wh ra rc rf bx sp ((n + 1) - 1) (j + 1) (va_up vt n.toNat t0) (va_up vw n.toNat w0) (va_up vr n.toNat r0) (stF sp (va_up vt n.toNat t0) (va_up vw n.toNat w0) (va_up vr n.toNat r0) (n + 1).toNat) ⟨mset_self, ((mset_ne (mne ht_2 h1_2 (by intro h; cases h))).trans ht_2), ((mset_ne (mne hw_2 h1_2 (by intro h; cases h))).trans hw_2), ((mset_ne (mne hra_2 h1_2 (by intro h; cases h))).trans hra_2), ((mset_ne (mne hrc_2 h1_2 (by intro h; cases h))).trans hrc_2), hrf, (fun t q => ((mset_ne (Ne.symm (nth t (by omega)))).trans (hB_2 t (by omega)))), ⟨n1, n2, n3⟩, inj⟩ (by omega) (by omega) hsp0 hsp1 (sOk_le sok1 (by omega))) (cwV 0 hts gX3_takeSight_X3_settle rfl rfl rfl (by decide +kernel) ⟨Nat.le_of_ble_eq_true rfl, Nat.le_of_ble_eq_true rfl⟩) K hG mset_self rfl rfl rfl hl.1 rfl (Nat.le_of_ble_eq_true rfl) dX3_takeSight_83 ⟨Nat.le_of_ble_eq_true rfl, Nat.le_of_ble_eq_true rfl⟩) hS (fun M5 H locs hw6 hG hS => ?_)
      obtain ⟨hT5, hF5⟩ := hw6
      obtain ⟨h1_5, ht_5, hw_5, hra_5, hrc_5, -, hB_5, -, -⟩ := id hT5
      refine lv_iconst (v := iI 0) hx hb dX3_takeSight_86 rfl ?_
      exact m_zret hx hb hr hlk hQ hG hS (Nat.le_of_ble_eq_true rfl) (Nat.le_of_ble_eq_true rfl) dX3_takeSight_87 (Or.inl rfl) ⟨fun a g1 g2 g3 g4 g5 => (hF5 a g5).trans ((mset_ne g1).trans ((hF2 a g5).trans ((mset_ne g1).trans ((mset_ne g4).trans ((mset_ne g3).trans (mset_ne g2)))))), Or.inr (Or.inr ⟨by omega, c59, rfl, (by have h9 := hT5; rw [show n + 1 - 1 = n by omega] at h9; exact h9)⟩)⟩
  · refine lv_iconst (v := iI 0) hx hb dX3_takeSight_9 rfl ?_
    exact m_zret hx hb hr hlk hQ hG hS (Nat.le_of_ble_eq_true rfl) (Nat.le_of_ble_eq_true rfl) dX3_takeSight_10 (Or.inl rfl) ⟨fun a _ _ _ _ _ => rfl, Or.inl ⟨by omega, rfl, rfl⟩⟩

set_option maxHeartbeats 4000000 in
set_option maxRecDepth 100000 in
theorem c_X3_advance (l : Launch) (D : va_G) (b : Nat) (M : mM) (th tk wh ra rc : Nat) (rf : Nat → Option Nat) (bx : Nat → Nat) (sp n j : Int) (vt vw vr : Nat → Int) (F : Nat → Nat → Int) (hT : ThOk M th tk wh ra rc rf bx sp n j vt vw vr F) (hsp0 : 0 ≤ sp) (hsp1 : sp ≤ 7) (h r : Nat) (S : Nat → Nat → Bool) (hp : M h = some (Pl r)) (h2 : M r = some (aL 64 S)) (t0 : Int) (ht0 : 0 ≤ t0) (ht1 : t0 < 80) (hR : in63 F) (hne : neB F t0.toNat) : Met l yX3_advance wsX3_advance ({ frames := 2, cells := 0, slots := 0, locals := 45 } : Room) (mPc [.ref th, .ref h, .int (iI t0)] D b M) (mQv D b (fun M1 => ∃ T : Nat → Nat → Bool, M1 = mset M r (aL 64 T) ∧ ∀ a c : Nat, a < 64 → c < 64 → (T a c = true ↔ ((F t0.toNat 0 ≤ (a : Int) ∧ (a : Int) ≤ F t0.toNat 1) ∧ (F t0.toNat 2 ≤ (c : Int) ∧ (c : Int) ≤ F t0.toNat 3)) ∧ wide sp.toNat S a c))) 0 0 (mF b) := by
  refine m_met (cc := cX3_advance) (maxL := 3) (ret := none) (by decide) rfl (Nat.le_of_ble_eq_true rfl) ?_
  intro p e s m args below meth c Q ls hx hb hml hr hts hown hlk hnm hQ K hG hS hl
  have hown : s.vm.findClass RX3 = some m.cls := hown
  have hl : lv_has ls 3 [(0, .ref th), (1, .ref h), (2, .int (iI t0))] := hl
  obtain ⟨h1, ht, hw, hra, hrc, hrf, hB, ⟨n1, n2, n3⟩, inj⟩ := id hT
  have nth : ∀ t, t < 80 → th ≠ bx t := fun t q => mne h1 (hB t q) (by intro h; cases h)
  have ntk : ∀ t, t < 80 → tk ≠ bx t := fun t q => mne ht (hB t q) (by intro h; cases h)
  have nwh : ∀ t, t < 80 → wh ≠ bx t := fun t q => mne hw (hB t q) (by intro h; cases h)
  have nra : ∀ t, t < 80 → ra ≠ bx t := fun t q => mne hra (hB t q) (by intro h; cases h)
  have nrc : ∀ t, t < 80 → rc ≠ bx t := fun t q => mne hrc (hB t q) (by intro h; cases h)
  refine lv_aload_n hx hb dX3_advance_0 rfl (lv_at hl 1 rfl) ?_
  refine lv_aload_n hx hb dX3_advance_1 rfl (lv_at hl 0 rfl) ?_
  refine m_get (ci := 3) (v := .int (iI sp)) (C := RX3) (T := TX3) (N := 7) hx hb hts (by decide +kernel) hown K hG h1 rfl 0 (by decide) (by decide +kernel) rfl dX3_advance_2 ?_
  refine m_callv (m_runV (a := h) (As := [.int (iI sp)]) (rest := []) ⟨hx, hb, hml, hown, hts⟩ (c_X1_widen l D b _ h r S hp h2 sp (by omega) (by omega)) (cwV 1 hts gX3_advance_X1_widen rfl rfl rfl (by decide +kernel) ⟨Nat.le_of_ble_eq_true rfl, Nat.le_of_ble_eq_true rfl⟩) K hG hp rfl rfl rfl hl.1 rfl (Nat.le_of_ble_eq_true rfl) dX3_advance_5 ⟨Nat.le_of_ble_eq_true rfl, Nat.le_of_ble_eq_true rfl⟩) hS (fun M2 H locs hw3 hG hS => ?_)
  obtain ⟨T1, hwM, hT1⟩ := hw3
  rw [hwM] at hG
  have hv1 := (hR t0.toNat 0).1
  have hv2 := hne.1
  have hv3 := (hR t0.toNat 1).2
  have hv4 := (hR t0.toNat 2).1
  have hv5 := hne.2
  have hv6 := (hR t0.toNat 3).2
  refine lv_aload_n hx hb dX3_advance_8 rfl (lv_at hl 1 rfl) ?_
  refine lv_aload_n hx hb dX3_advance_9 rfl (lv_at hl 0 rfl) ?_
  refine m_get (ci := 3) (v := .ref rc) (C := RX3) (T := TX3) (N := 7) hx hb hts (by decide +kernel) hown K hG ((mset_ne (mne h1 h2 (by intro h; cases h))).trans h1) rfl 4 (by decide) (by decide +kernel) rfl dX3_advance_10 ?_
  refine lv_iload_n hx hb dX3_advance_13 rfl (lv_at hl 2 rfl) ?_
  refine m_aald hx hb hG ((mset_ne (mne hrc h2 (by intro h; cases h))).trans hrc) t0.toNat (by omega) (by omega) (by decide) (hrf t0.toNat (by omega)) dX3_advance_14 ?_
  refine m_callfv (m_runV (a := h) (As := [.ref (bx t0.toNat)]) (rest := []) ⟨hx, hb, hml, hown, hts⟩ (c_X1_keep l D b _ h r T1 ((mset_ne (mne hp h2 (by intro h; cases h))).trans hp) mset_self (bx t0.toNat) (F t0.toNat 0) (F t0.toNat 1) (F t0.toNat 2) (F t0.toNat 3) ((mset_ne (mne (hB t0.toNat (by omega)) h2 (by intro h; cases h))).trans (hB t0.toNat (by omega))) hv1 hv2 hv3 hv4 hv5 hv6) (cwV 1 hts gX3_advance_X1_keep rfl rfl rfl (by decide +kernel) ⟨Nat.le_of_ble_eq_true rfl, Nat.le_of_ble_eq_true rfl⟩) K hG ((mset_ne (mne hp h2 (by intro h; cases h))).trans hp) rfl rfl rfl hl.1 rfl (Nat.le_of_ble_eq_true rfl) dX3_advance_15 ⟨Nat.le_of_ble_eq_true rfl, Nat.le_of_ble_eq_true rfl⟩) hS (fun H locs hG hS => ?_)
  rw [mset_mset] at hG
  have hG : mG D b (mset M r (aL 64 (fun a c => if (a : Int) < 64 then (decide (F t0.toNat 0 ≤ (a : Int) ∧ (a : Int) ≤ F t0.toNat 1) && (T1 a c && decide (F t0.toNat 2 ≤ (c : Int) ∧ (c : Int) ≤ F t0.toNat 3))) else T1 a c))) s H := hG
  exact m_vret hx hb hr hlk hQ hG hS (Nat.le_of_ble_eq_true rfl) (Nat.le_of_ble_eq_true rfl) dX3_advance_18 ⟨_, rfl, fun a c ha hc => by rw [if_pos (by omega), ← hT1 a c ha hc]; simp only [Bool.and_eq_true, decide_eq_true_eq]; constructor; rintro ⟨g1, g2, g3⟩; exact ⟨⟨g1, g3⟩, g2⟩; rintro ⟨⟨g1, g3⟩, g2⟩; exact ⟨g1, g2, g3⟩⟩
end
section
abbrev Ta (lv : Nat) (f g : Int) : mE := .inr (2, [.ref lv, .int (iI f), .int (iI g)])
def TaOk (M : mM) (ta lv : Nat) (lf : Nat → Option Nat) (pk rk : Nat → Nat) (f g : Int) (S : Nat → Nat → Nat → Bool) : Prop :=
  M ta = some (Ta lv f g) ∧ M lv = some (aQ RX1 81 lf) ∧ (∀ k, k < 81 → lf k = some (pk k)) ∧ (∀ k, k < 81 → M (pk k) = some (Pl (rk k))) ∧ (∀ k, k < 81 → M (rk k) = some (aL 64 (S k))) ∧ (∀ k k2, k < 81 → k2 < 81 → rk k = rk k2 → k = k2)
theorem ThOk_fr {M M1 : mM} {th tk wh ra rc : Nat} {rf : Nat → Option Nat} {bx : Nat → Nat} {sp n j : Int} {vt vw vr : Nat → Int} {F : Nat → Nat → Int} (h : ThOk M th tk wh ra rc rf bx sp n j vt vw vr F) (hk : ∀ a v, M a = some v → (∀ S : Nat → Nat → Bool, v ≠ aL 64 S) → (∀ f2 g2 l2, v ≠ Ta l2 f2 g2) → M1 a = M a) : ThOk M1 th tk wh ra rc rf bx sp n j vt vw vr F := by
  obtain ⟨h1, h2, h3, h4, h5, h6, h7, h8, h9⟩ := h
  exact ⟨(hk _ _ h1 (by intro _ z; cases z) (by intro _ _ _ z; cases z)).trans h1, (hk _ _ h2 (by intro _ z; cases z) (by intro _ _ _ z; cases z)).trans h2, (hk _ _ h3 (by intro _ z; cases z) (by intro _ _ _ z; cases z)).trans h3, (hk _ _ h4 (by intro _ z; cases z) (by intro _ _ _ z; cases z)).trans h4, (hk _ _ h5 (by intro _ z; cases z) (by intro _ _ _ z; cases z)).trans h5, h6, fun t q => (hk _ _ (h7 t q) (by intro _ z; cases z) (by intro _ _ _ z; cases z)).trans (h7 t q), h8, h9⟩
theorem rks_set {M : mM} {rk : Nat → Nat} {S : Nat → Nat → Nat → Bool} (inj : ∀ k k2, k < 81 → k2 < 81 → rk k = rk k2 → k = k2) (h : ∀ k, k < 81 → M (rk k) = some (aL 64 (S k))) {i : Nat} (hi : i < 81) {T : Nat → Nat → Bool} : ∀ k, k < 81 → mset M (rk i) (aL 64 T) (rk k) = some (aL 64 (va_up S i T k)) := by
  intro k hk
  by_cases g : k = i
  · subst g; rw [mset_self, va_up_self]
  · rw [mset_ne (fun z => g (inj k i hk hi z)), h k hk, va_up_ne _ _ g]
theorem rks_fr {M M0 : mM} {rk : Nat → Nat} (h : ∀ a, (∀ k, k < 81 → a ≠ rk k) → M a = M0 a) {i : Nat} (hi : i < 81) {v : mE} : ∀ a, (∀ k, k < 81 → a ≠ rk k) → mset M (rk i) v a = M0 a := fun a ha => by rw [mset_ne (ha i hi)]; exact h a ha
abbrev inB (F : Nat → Nat → Int) (t x y : Nat) : Prop := (F t 0 ≤ (x : Int) ∧ (x : Int) ≤ F t 1) ∧ (F t 2 ≤ (y : Int) ∧ (y : Int) ≤ F t 3)

set_option maxHeartbeats 4000000 in
set_option maxRecDepth 100000 in
theorem c_X2_narrow (l : Launch) (D : va_G) (b : Nat) (M : mM) (ta lv : Nat) (lf : Nat → Option Nat) (pk rk : Nat → Nat) (f g : Int) (S : Nat → Nat → Nat → Bool) (hA : TaOk M ta lv lf pk rk f g S) (hf : 0 ≤ f) (hfg : f ≤ g) (hg : g ≤ 80) (o : Nat) (w x y z : Int) (h3 : M o = some (Bx w x y z)) (hw : 0 ≤ w) (hwx : w ≤ x) (hx0 : x ≤ 63) (hy : 0 ≤ y) (hyz : y ≤ z) (hz : z ≤ 63) : Met l yX2_narrow wsX2_narrow ({ frames := 2, cells := 0, slots := 0, locals := 44 } : Room) (mPc [.ref ta, .ref o] D b M) (mQv D b (fun M1 => ∃ f1 g1 : Int, TaOk M1 ta lv lf pk rk f1 g1 S ∧ (∀ a, a ≠ ta → M1 a = M a) ∧ f ≤ f1 ∧ f1 ≤ g1 ∧ g1 ≤ g ∧ (∀ k : Nat, f ≤ k → (k : Int) < f1 → ∀ a c : Nat, a < 64 → c < 64 → S k a c = false) ∧ (f1 < g → ∃ a c : Nat, a < 64 ∧ c < 64 ∧ S f1.toNat a c = true) ∧ (∀ k : Nat, g1 ≤ k → (k : Int) < g → ∀ a c : Nat, w ≤ a → (a : Int) ≤ x → y ≤ c → (c : Int) ≤ z → S k a c = true))) 0 0 (mF b) := by
  refine m_met (cc := cX2_narrow) (maxL := 2) (ret := none) (by decide) rfl (Nat.le_of_ble_eq_true rfl) ?_
  intro p e s m args below meth c Q ls hx hb hml hr hts hown hlk hnm hQ K hG hS hl
  have hown : s.vm.findClass RX2 = some m.cls := hown
  have hl : lv_has ls 2 [(0, .ref ta), (1, .ref o)] := hl
  obtain ⟨a1, a2, hlf, hpk, hrk, injr⟩ := id hA
  have nta : ∀ k, k < 81 → ta ≠ rk k := fun k q => mne a1 (hrk k q) (by intro h; cases h)
  have nlv : ∀ k, k < 81 → lv ≠ rk k := fun k q => mne a2 (hrk k q) (by intro h; cases h)
  have npk : ∀ j k, j < 81 → k < 81 → pk j ≠ rk k := fun j k q q2 => mne (hpk j q) (hrk k q2) (by intro h; cases h)
  have loop0 : ∀ (fuel : Nat) (f1 : Int) (H : Heap) (locs : List Loc) (ls : Array Slot), (f ≤ f1) → (f1 ≤ g) → (∀ k : Nat, f ≤ k → (k : Int) < f1 → ∀ a c : Nat, a < 64 → c < 64 → S k a c = false) → (g - f1).toNat < fuel → mG D b (mset M ta (.inr (2, [.ref lv, .int (iI f1), .int (iI g)]))) s H → va_S (mF b) s.heap H locs → lv_has ls 2 [(0, .ref ta), (1, .ref o)] → W p l e ({ frames := 2, cells := 0, slots := 0, locals := 44 } : Room) s m args below meth c H locs 0 0 Q (F0 m 0 ls []) := by
    intro fuel
    induction fuel with
    | zero => intro f1 H locs ls hf0 hf1 hE hm; exact absurd hm (Nat.not_lt_zero _)
    | succ fuel ih0 =>
      intro f1 H locs ls hf0 hf1 hE hm hG hS hl
      refine lv_aload_n hx hb dX2_narrow_0 rfl (lv_at hl 0 rfl) ?_
      refine m_get (ci := 2) (v := .int (iI f1)) (C := RX2) (T := TX2) (N := 3) hx hb hts (by decide +kernel) hown K hG mset_self rfl 1 (by decide) (by decide +kernel) rfl dX2_narrow_1 ?_
      refine lv_aload_n hx hb dX2_narrow_4 rfl (lv_at hl 0 rfl) ?_
      refine m_get (ci := 2) (v := .int (iI g)) (C := RX2) (T := TX2) (N := 3) hx hb hts (by decide +kernel) hown K hG mset_self rfl 2 (by decide) (by decide +kernel) rfl dX2_narrow_5 ?_
      refine m_icmp_ge (tgt := 39) hx hb dX2_narrow_8 (by decide) ⟨by omega, by omega⟩ ⟨by omega, by omega⟩ (fun c8 => ?_) (fun c8 => ?_)
      · have hN : f1 < g → ∃ a c : Nat, a < 64 ∧ c < 64 ∧ S f1.toNat a c = true := fun h => absurd h (by omega)
        have loop39 : ∀ (fuel : Nat) (g1 : Int) (H : Heap) (locs : List Loc) (ls : Array Slot), (f1 ≤ g1) → (g1 ≤ g) → (∀ k : Nat, g1 ≤ k → (k : Int) < g → ∀ a c : Nat, w ≤ a → (a : Int) ≤ x → y ≤ c → (c : Int) ≤ z → S k a c = true) → (g1 - f1).toNat < fuel → mG D b (mset M ta (.inr (2, [.ref lv, .int (iI f1), .int (iI g1)]))) s H → va_S (mF b) s.heap H locs → lv_has ls 2 [(0, .ref ta), (1, .ref o)] → W p l e ({ frames := 2, cells := 0, slots := 0, locals := 44 } : Room) s m args below meth c H locs 0 0 Q (F0 m 39 ls []) := by
          intro fuel
          induction fuel with
          | zero => intro g1 H locs ls hg0 hg1 hC hm; exact absurd hm (Nat.not_lt_zero _)
          | succ fuel ih39 =>
            intro g1 H locs ls hg0 hg1 hC hm hG hS hl
            refine lv_aload_n hx hb dX2_narrow_39 rfl (lv_at hl 0 rfl) ?_
            refine m_get (ci := 2) (v := .int (iI g1)) (C := RX2) (T := TX2) (N := 3) hx hb hts (by decide +kernel) hown K hG mset_self rfl 2 (by decide) (by decide +kernel) rfl dX2_narrow_40 ?_
            refine lv_aload_n hx hb dX2_narrow_43 rfl (lv_at hl 0 rfl) ?_
            refine m_get (ci := 2) (v := .int (iI f1)) (C := RX2) (T := TX2) (N := 3) hx hb hts (by decide +kernel) hown K hG mset_self rfl 1 (by decide) (by decide +kernel) rfl dX2_narrow_44 ?_
            refine m_icmp_le (tgt := 81) hx hb dX2_narrow_47 (by decide) ⟨by omega, by omega⟩ ⟨by omega, by omega⟩ (fun c47 => ?_) (fun c47 => ?_)
            · exact m_vret hx hb hr hlk hQ hG hS (Nat.le_of_ble_eq_true rfl) (Nat.le_of_ble_eq_true rfl) dX2_narrow_81 ⟨f1, g1, ⟨mset_self, (mset_ne (mne a2 a1 (by intro h; cases h))).trans a2, hlf, (fun k q => (mset_ne (mne (hpk k q) a1 (by intro h; cases h))).trans (hpk k q)), (fun k q => (mset_ne (nta k q).symm).trans (hrk k q)), injr⟩, (fun a q => mset_ne q), hf0, hg0, hg1, hE, hN, hC⟩
            · refine lv_aload_n hx hb dX2_narrow_50 rfl (lv_at hl 0 rfl) ?_
              refine m_get (ci := 2) (v := .ref lv) (C := RX2) (T := TX2) (N := 3) hx hb hts (by decide +kernel) hown K hG mset_self rfl 0 (by decide) (by decide +kernel) rfl dX2_narrow_51 ?_
              refine lv_aload_n hx hb dX2_narrow_54 rfl (lv_at hl 0 rfl) ?_
              refine m_get (ci := 2) (v := .int (iI g1)) (C := RX2) (T := TX2) (N := 3) hx hb hts (by decide +kernel) hown K hG mset_self rfl 2 (by decide) (by decide +kernel) rfl dX2_narrow_55 ?_
              refine lv_iconst (v := iI 1) hx hb dX2_narrow_58 rfl ?_
              refine m_isub hx hb dX2_narrow_59 ?_
              refine m_aald hx hb hG ((mset_ne (mne a2 a1 (by intro h; cases h))).trans a2) ((g1 - 1).toNat) (by omega) (by omega) (by decide) (hlf ((g1 - 1).toNat) (by omega)) dX2_narrow_60 ?_
              refine lv_aload_n hx hb dX2_narrow_61 rfl (lv_at hl 1 rfl) ?_
              refine m_callfi (m_runV (a := pk ((g1 - 1).toNat)) (As := [.ref o]) (rest := []) ⟨hx, hb, hml, hown, hts⟩ (c_X1_covers l D b _ (pk ((g1 - 1).toNat)) (rk ((g1 - 1).toNat)) (S ((g1 - 1).toNat)) ((mset_ne (mne (hpk ((g1 - 1).toNat) (by omega)) a1 (by intro h; cases h))).trans (hpk ((g1 - 1).toNat) (by omega))) ((mset_ne (Ne.symm (nta ((g1 - 1).toNat) (by omega)))).trans (hrk ((g1 - 1).toNat) (by omega))) o w x y z ((mset_ne (mne h3 a1 (by intro h; cases h))).trans h3) (by omega) (by omega) (by omega) (by omega) (by omega) (by omega)) (cwV 1 hts gX2_narrow_X1_covers rfl rfl rfl (by decide +kernel) ⟨Nat.le_of_ble_eq_true rfl, Nat.le_of_ble_eq_true rfl⟩) K hG ((mset_ne (mne (hpk ((g1 - 1).toNat) (by omega)) a1 (by intro h; cases h))).trans (hpk ((g1 - 1).toNat) (by omega))) rfl rfl rfl hl.1 rfl (Nat.le_of_ble_eq_true rfl) dX2_narrow_62 ⟨Nat.le_of_ble_eq_true rfl, Nat.le_of_ble_eq_true rfl⟩) hS (fun H locs hG hS => ?_)
              have hG : mG D b (mset M ta (.inr (2, [.ref lv, .int (iI f1), .int (iI g1)]))) s H := hG
              refine m_ift_eq (tgt := 81) hx hb dX2_narrow_65 (by decide) (fun c65 => ?_) (fun c65 => ?_)
              · exact m_vret hx hb hr hlk hQ hG hS (Nat.le_of_ble_eq_true rfl) (Nat.le_of_ble_eq_true rfl) dX2_narrow_81 ⟨f1, g1, ⟨mset_self, (mset_ne (mne a2 a1 (by intro h; cases h))).trans a2, hlf, (fun k q => (mset_ne (mne (hpk k q) a1 (by intro h; cases h))).trans (hpk k q)), (fun k q => (mset_ne (nta k q).symm).trans (hrk k q)), injr⟩, (fun a q => mset_ne q), hf0, hg0, hg1, hE, hN, hC⟩
              · refine lv_aload_n hx hb dX2_narrow_68 rfl (lv_at hl 0 rfl) ?_
                refine lv_dup hx hb dX2_narrow_69 rfl ?_
                refine m_get (ci := 2) (v := .int (iI g1)) (C := RX2) (T := TX2) (N := 3) hx hb hts (by decide +kernel) hown K hG mset_self rfl 2 (by decide) (by decide +kernel) rfl dX2_narrow_70 ?_
                refine lv_iconst (v := iI 1) hx hb dX2_narrow_73 rfl ?_
                refine m_isub hx hb dX2_narrow_74 ?_
                refine m_put (ci := 2) (v := .int (iI (g1 - 1))) (ty := .int) (fs' := [.ref lv, .int (iI f1), .int (iI (g1 - 1))]) (C := RX2) (T := TX2) (N := 3) hx hb hts (by decide +kernel) tyX2 tyX2_ok nmX2 hown K hG hS mset_self rfl 2 (by decide) (by decide +kernel) rfl (by decide +kernel) rfl rfl (Nat.le_of_ble_eq_true rfl) rfl dX2_narrow_75 (fun H locs hG hS => ?_)
                rw [mset_mset] at hG
                have hG : mG D b (mset M ta (.inr (2, [.ref lv, .int (iI f1), .int (iI (g1 - 1))]))) s H := hG
                refine lv_goto (tgt := 39) hx hb dX2_narrow_78 (by decide) ?_
                exact ih39 (g1 - 1) _ _ _ (by omega) (by omega) (fun k q1 q2 => by rcases Int.lt_or_le (k : Int) g1 with q | q; rw [show k = (g1 - 1).toNat by omega]; exact c65; exact hC k q q2) (by omega) hG hS (lv_sub hl [0, 1] rfl)
        exact loop39 _ g _ _ _ (by omega) (by omega) (fun k h9 h8 => absurd h8 (by omega)) (Nat.lt_succ_self _) hG hS (lv_sub hl [0, 1] rfl)
      · refine lv_aload_n hx hb dX2_narrow_11 rfl (lv_at hl 0 rfl) ?_
        refine m_get (ci := 2) (v := .ref lv) (C := RX2) (T := TX2) (N := 3) hx hb hts (by decide +kernel) hown K hG mset_self rfl 0 (by decide) (by decide +kernel) rfl dX2_narrow_12 ?_
        refine lv_aload_n hx hb dX2_narrow_15 rfl (lv_at hl 0 rfl) ?_
        refine m_get (ci := 2) (v := .int (iI f1)) (C := RX2) (T := TX2) (N := 3) hx hb hts (by decide +kernel) hown K hG mset_self rfl 1 (by decide) (by decide +kernel) rfl dX2_narrow_16 ?_
        refine m_aald hx hb hG ((mset_ne (mne a2 a1 (by intro h; cases h))).trans a2) f1.toNat (by omega) (by omega) (by decide) (hlf f1.toNat (by omega)) dX2_narrow_19 ?_
        refine m_callfi (m_runV (a := pk f1.toNat) (As := []) (rest := []) ⟨hx, hb, hml, hown, hts⟩ (c_X1_isEmpty l D b _ (pk f1.toNat) (rk f1.toNat) (S f1.toNat) ((mset_ne (mne (hpk f1.toNat (by omega)) a1 (by intro h; cases h))).trans (hpk f1.toNat (by omega))) ((mset_ne (Ne.symm (nta f1.toNat (by omega)))).trans (hrk f1.toNat (by omega)))) (cwV 0 hts gX2_narrow_X1_isEmpty rfl rfl rfl (by decide +kernel) ⟨Nat.le_of_ble_eq_true rfl, Nat.le_of_ble_eq_true rfl⟩) K hG ((mset_ne (mne (hpk f1.toNat (by omega)) a1 (by intro h; cases h))).trans (hpk f1.toNat (by omega))) rfl rfl rfl hl.1 rfl (Nat.le_of_ble_eq_true rfl) dX2_narrow_20 ⟨Nat.le_of_ble_eq_true rfl, Nat.le_of_ble_eq_true rfl⟩) hS (fun H locs hG hS => ?_)
        have hG : mG D b (mset M ta (.inr (2, [.ref lv, .int (iI f1), .int (iI g)]))) s H := hG
        refine m_ift_eq (tgt := 39) hx hb dX2_narrow_23 (by decide) (fun c23 => ?_) (fun c23 => ?_)
        · have hN : f1 < g → ∃ a c : Nat, a < 64 ∧ c < 64 ∧ S f1.toNat a c = true := fun _ => by rcases Classical.em (∃ a c : Nat, a < 64 ∧ c < 64 ∧ S f1.toNat a c = true) with q | q; exact q; exact absurd (fun a c g1 g2 => by rcases h9 : S f1.toNat a c with _ | _; rfl; exact absurd ⟨a, c, g1, g2, h9⟩ q) c23
          have loop39 : ∀ (fuel : Nat) (g1 : Int) (H : Heap) (locs : List Loc) (ls : Array Slot), (f1 ≤ g1) → (g1 ≤ g) → (∀ k : Nat, g1 ≤ k → (k : Int) < g → ∀ a c : Nat, w ≤ a → (a : Int) ≤ x → y ≤ c → (c : Int) ≤ z → S k a c = true) → (g1 - f1).toNat < fuel → mG D b (mset M ta (.inr (2, [.ref lv, .int (iI f1), .int (iI g1)]))) s H → va_S (mF b) s.heap H locs → lv_has ls 2 [(0, .ref ta), (1, .ref o)] → W p l e ({ frames := 2, cells := 0, slots := 0, locals := 44 } : Room) s m args below meth c H locs 0 0 Q (F0 m 39 ls []) := by
            intro fuel
            induction fuel with
            | zero => intro g1 H locs ls hg0 hg1 hC hm; exact absurd hm (Nat.not_lt_zero _)
            | succ fuel ih39 =>
              intro g1 H locs ls hg0 hg1 hC hm hG hS hl
              refine lv_aload_n hx hb dX2_narrow_39 rfl (lv_at hl 0 rfl) ?_
              refine m_get (ci := 2) (v := .int (iI g1)) (C := RX2) (T := TX2) (N := 3) hx hb hts (by decide +kernel) hown K hG mset_self rfl 2 (by decide) (by decide +kernel) rfl dX2_narrow_40 ?_
              refine lv_aload_n hx hb dX2_narrow_43 rfl (lv_at hl 0 rfl) ?_
              refine m_get (ci := 2) (v := .int (iI f1)) (C := RX2) (T := TX2) (N := 3) hx hb hts (by decide +kernel) hown K hG mset_self rfl 1 (by decide) (by decide +kernel) rfl dX2_narrow_44 ?_
              refine m_icmp_le (tgt := 81) hx hb dX2_narrow_47 (by decide) ⟨by omega, by omega⟩ ⟨by omega, by omega⟩ (fun c47 => ?_) (fun c47 => ?_)
              · exact m_vret hx hb hr hlk hQ hG hS (Nat.le_of_ble_eq_true rfl) (Nat.le_of_ble_eq_true rfl) dX2_narrow_81 ⟨f1, g1, ⟨mset_self, (mset_ne (mne a2 a1 (by intro h; cases h))).trans a2, hlf, (fun k q => (mset_ne (mne (hpk k q) a1 (by intro h; cases h))).trans (hpk k q)), (fun k q => (mset_ne (nta k q).symm).trans (hrk k q)), injr⟩, (fun a q => mset_ne q), hf0, hg0, hg1, hE, hN, hC⟩
              · refine lv_aload_n hx hb dX2_narrow_50 rfl (lv_at hl 0 rfl) ?_
                refine m_get (ci := 2) (v := .ref lv) (C := RX2) (T := TX2) (N := 3) hx hb hts (by decide +kernel) hown K hG mset_self rfl 0 (by decide) (by decide +kernel) rfl dX2_narrow_51 ?_
                refine lv_aload_n hx hb dX2_narrow_54 rfl (lv_at hl 0 rfl) ?_
                refine m_get (ci := 2) (v := .int (iI g1)) (C := RX2) (T := TX2) (N := 3) hx hb hts (by decide +kernel) hown K hG mset_self rfl 2 (by decide) (by decide +kernel) rfl dX2_narrow_55 ?_
                refine lv_iconst (v := iI 1) hx hb dX2_narrow_58 rfl ?_
                refine m_isub hx hb dX2_narrow_59 ?_
                refine m_aald hx hb hG ((mset_ne (mne a2 a1 (by intro h; cases h))).trans a2) ((g1 - 1).toNat) (by omega) (by omega) (by decide) (hlf ((g1 - 1).toNat) (by omega)) dX2_narrow_60 ?_
                refine lv_aload_n hx hb dX2_narrow_61 rfl (lv_at hl 1 rfl) ?_
                refine m_callfi (m_runV (a := pk ((g1 - 1).toNat)) (As := [.ref o]) (rest := []) ⟨hx, hb, hml, hown, hts⟩ (c_X1_covers l D b _ (pk ((g1 - 1).toNat)) (rk ((g1 - 1).toNat)) (S ((g1 - 1).toNat)) ((mset_ne (mne (hpk ((g1 - 1).toNat) (by omega)) a1 (by intro h; cases h))).trans (hpk ((g1 - 1).toNat) (by omega))) ((mset_ne (Ne.symm (nta ((g1 - 1).toNat) (by omega)))).trans (hrk ((g1 - 1).toNat) (by omega))) o w x y z ((mset_ne (mne h3 a1 (by intro h; cases h))).trans h3) (by omega) (by omega) (by omega) (by omega) (by omega) (by omega)) (cwV 1 hts gX2_narrow_X1_covers rfl rfl rfl (by decide +kernel) ⟨Nat.le_of_ble_eq_true rfl, Nat.le_of_ble_eq_true rfl⟩) K hG ((mset_ne (mne (hpk ((g1 - 1).toNat) (by omega)) a1 (by intro h; cases h))).trans (hpk ((g1 - 1).toNat) (by omega))) rfl rfl rfl hl.1 rfl (Nat.le_of_ble_eq_true rfl) dX2_narrow_62 ⟨Nat.le_of_ble_eq_true rfl, Nat.le_of_ble_eq_true rfl⟩) hS (fun H locs hG hS => ?_)
                have hG : mG D b (mset M ta (.inr (2, [.ref lv, .int (iI f1), .int (iI g1)]))) s H := hG
                refine m_ift_eq (tgt := 81) hx hb dX2_narrow_65 (by decide) (fun c65 => ?_) (fun c65 => ?_)
                · exact m_vret hx hb hr hlk hQ hG hS (Nat.le_of_ble_eq_true rfl) (Nat.le_of_ble_eq_true rfl) dX2_narrow_81 ⟨f1, g1, ⟨mset_self, (mset_ne (mne a2 a1 (by intro h; cases h))).trans a2, hlf, (fun k q => (mset_ne (mne (hpk k q) a1 (by intro h; cases h))).trans (hpk k q)), (fun k q => (mset_ne (nta k q).symm).trans (hrk k q)), injr⟩, (fun a q => mset_ne q), hf0, hg0, hg1, hE, hN, hC⟩
                · refine lv_aload_n hx hb dX2_narrow_68 rfl (lv_at hl 0 rfl) ?_
                  refine lv_dup hx hb dX2_narrow_69 rfl ?_
                  refine m_get (ci := 2) (v := .int (iI g1)) (C := RX2) (T := TX2) (N := 3) hx hb hts (by decide +kernel) hown K hG mset_self rfl 2 (by decide) (by decide +kernel) rfl dX2_narrow_70 ?_
                  refine lv_iconst (v := iI 1) hx hb dX2_narrow_73 rfl ?_
                  refine m_isub hx hb dX2_narrow_74 ?_
                  refine m_put (ci := 2) (v := .int (iI (g1 - 1))) (ty := .int) (fs' := [.ref lv, .int (iI f1), .int (iI (g1 - 1))]) (C := RX2) (T := TX2) (N := 3) hx hb hts (by decide +kernel) tyX2 tyX2_ok nmX2 hown K hG hS mset_self rfl 2 (by decide) (by decide +kernel) rfl (by decide +kernel) rfl rfl (Nat.le_of_ble_eq_true rfl) rfl dX2_narrow_75 (fun H locs hG hS => ?_)
                  rw [mset_mset] at hG
                  have hG : mG D b (mset M ta (.inr (2, [.ref lv, .int (iI f1), .int (iI (g1 - 1))]))) s H := hG
                  refine lv_goto (tgt := 39) hx hb dX2_narrow_78 (by decide) ?_
                  exact ih39 (g1 - 1) _ _ _ (by omega) (by omega) (fun k q1 q2 => by rcases Int.lt_or_le (k : Int) g1 with q | q; rw [show k = (g1 - 1).toNat by omega]; exact c65; exact hC k q q2) (by omega) hG hS (lv_sub hl [0, 1] rfl)
          exact loop39 _ g _ _ _ (by omega) (by omega) (fun k h9 h8 => absurd h8 (by omega)) (Nat.lt_succ_self _) hG hS (lv_sub hl [0, 1] rfl)
        · refine lv_aload_n hx hb dX2_narrow_26 rfl (lv_at hl 0 rfl) ?_
          refine lv_dup hx hb dX2_narrow_27 rfl ?_
          refine m_get (ci := 2) (v := .int (iI f1)) (C := RX2) (T := TX2) (N := 3) hx hb hts (by decide +kernel) hown K hG mset_self rfl 1 (by decide) (by decide +kernel) rfl dX2_narrow_28 ?_
          refine lv_iconst (v := iI 1) hx hb dX2_narrow_31 rfl ?_
          refine m_iadd hx hb dX2_narrow_32 ?_
          refine m_put (ci := 2) (v := .int (iI (f1 + 1))) (ty := .int) (fs' := [.ref lv, .int (iI (f1 + 1)), .int (iI g)]) (C := RX2) (T := TX2) (N := 3) hx hb hts (by decide +kernel) tyX2 tyX2_ok nmX2 hown K hG hS mset_self rfl 1 (by decide) (by decide +kernel) rfl (by decide +kernel) rfl rfl (Nat.le_of_ble_eq_true rfl) rfl dX2_narrow_33 (fun H locs hG hS => ?_)
          rw [mset_mset] at hG
          have hG : mG D b (mset M ta (.inr (2, [.ref lv, .int (iI (f1 + 1)), .int (iI g)]))) s H := hG
          refine lv_goto (tgt := 0) hx hb dX2_narrow_36 (by decide) ?_
          exact ih0 (f1 + 1) _ _ _ (by omega) (by omega) (fun k g1 g2 => by rcases Int.lt_or_le (k : Int) f1 with q | q; exact hE k g1 q; rw [show k = f1.toNat by omega]; exact c23) (by omega) hG hS (lv_sub hl [0, 1] rfl)
  exact loop0 _ f _ _ _ (by omega) (by omega) (fun k h9 h8 => absurd h8 (by omega)) (Nat.lt_succ_self _) (by rw [mset_id a1]; exact hG) hS (lv_sub hl [0, 1] rfl)

set_option maxHeartbeats 4000000 in
set_option maxRecDepth 100000 in
theorem c_X2_countTick (l : Launch) (D : va_G) (b : Nat) (M : mM) (ta lv : Nat) (lf : Nat → Option Nat) (pk rk : Nat → Nat) (f g : Int) (S : Nat → Nat → Nat → Bool) (hA : TaOk M ta lv lf pk rk f g S) (hf : 0 ≤ f) (hfg : f ≤ g) (hg : g ≤ 79) (p2 r2 : Nat) (S2 : Nat → Nat → Bool) (g1 : M p2 = some (Pl r2)) (g2 : M r2 = some (aL 64 S2)) (nr2 : ∀ k, k < 81 → r2 ≠ rk k) : Met l yX2_countTick wsX2_countTick ({ frames := 1, cells := 0, slots := 0, locals := 25 } : Room) (mPc [.ref ta, .ref p2] D b M) (mQv D b (fun M1 => ∃ S1 : Nat → Nat → Nat → Bool, TaOk M1 ta lv lf pk rk f (g + 1) S1 ∧ (∀ a, a ≠ ta → (∀ k, k < 81 → a ≠ rk k) → M1 a = M a) ∧ (∀ k : Nat, f < k → (k : Int) ≤ g → ∀ x y : Nat, x < 64 → S1 k x y = ((S k x y && !S2 x y) || (S (k - 1) x y && S2 x y))) ∧ (∀ x y : Nat, x < 64 → S1 f.toNat x y = (S f.toNat x y && !S2 x y)))) 0 0 (mF b) := by
  refine m_met (cc := cX2_countTick) (maxL := 3) (ret := none) (by decide) rfl (Nat.le_of_ble_eq_true rfl) ?_
  intro p e s m args below meth c Q ls hx hb hml hr hts hown hlk hnm hQ K hG hS hl
  have hown : s.vm.findClass RX2 = some m.cls := hown
  have hl : lv_has ls 3 [(0, .ref ta), (1, .ref p2)] := hl
  obtain ⟨a1, a2, hlf, hpk, hrk, injr⟩ := id hA
  have nta : ∀ k, k < 81 → ta ≠ rk k := fun k q => mne a1 (hrk k q) (by intro h; cases h)
  have nlv : ∀ k, k < 81 → lv ≠ rk k := fun k q => mne a2 (hrk k q) (by intro h; cases h)
  have npk : ∀ j k, j < 81 → k < 81 → pk j ≠ rk k := fun j k q q2 => mne (hpk j q) (hrk k q2) (by intro h; cases h)
  have np2 : ∀ k, k < 81 → p2 ≠ rk k := fun k q => mne g1 (hrk k q) (by intro h; cases h)
  refine lv_aload_n hx hb dX2_countTick_0 rfl (lv_at hl 0 rfl) ?_
  refine m_get (ci := 2) (v := .int (iI g)) (C := RX2) (T := TX2) (N := 3) hx hb hts (by decide +kernel) hown K hG a1 rfl 2 (by decide) (by decide +kernel) rfl dX2_countTick_1 ?_
  refine lv_istore_n (lv' := [(2, .int (iI g)), (0, .ref ta), (1, .ref p2)]) hx hb dX2_countTick_4 rfl hl (by decide) rfl (fun ls hl => ?_)
  have loop5 : ∀ (fuel : Nat) (i : Int) (M1 : mM) (S1 : Nat → Nat → Nat → Bool) (H : Heap) (locs : List Loc) (ls : Array Slot), (f ≤ i) → (i ≤ g) → (∀ k, k < 81 → M1 (rk k) = some (aL 64 (S1 k))) → (∀ a, (∀ k, k < 81 → a ≠ rk k) → M1 a = M a) → (∀ k : Nat, i < k → (k : Int) ≤ g → ∀ x y : Nat, x < 64 → S1 k x y = ((S k x y && !S2 x y) || (S (k - 1) x y && S2 x y))) → (∀ k : Nat, (k : Int) ≤ i → S1 k = S k) → (i - f).toNat < fuel → mG D b M1 s H → va_S (mF b) s.heap H locs → lv_has ls 3 [(2, .int (iI i)), (0, .ref ta), (1, .ref p2)] → W p l e ({ frames := 1, cells := 0, slots := 0, locals := 25 } : Room) s m args below meth c H locs 0 0 Q (F0 m 5 ls []) := by
    intro fuel
    induction fuel with
    | zero => intro i M1 S1 H locs ls hi0 hi1 hr1 hF1 hU hV hm; exact absurd hm (Nat.not_lt_zero _)
    | succ fuel ih5 =>
      intro i M1 S1 H locs ls hi0 hi1 hr1 hF1 hU hV hm hG hS hl
      refine lv_iload_n hx hb dX2_countTick_5 rfl (lv_at hl 0 rfl) ?_
      refine lv_aload_n hx hb dX2_countTick_6 rfl (lv_at hl 1 rfl) ?_
      refine m_get (ci := 2) (v := .int (iI f)) (C := RX2) (T := TX2) (N := 3) hx hb hts (by decide +kernel) hown K hG ((hF1 ta nta).trans a1) rfl 1 (by decide) (by decide +kernel) rfl dX2_countTick_7 ?_
      refine m_icmp_le (tgt := 37) hx hb dX2_countTick_10 (by decide) ⟨by omega, by omega⟩ ⟨by omega, by omega⟩ (fun c10 => ?_) (fun c10 => ?_)
      · refine lv_aload_n hx hb dX2_countTick_37 rfl (lv_at hl 1 rfl) ?_
        refine m_get (ci := 2) (v := .ref lv) (C := RX2) (T := TX2) (N := 3) hx hb hts (by decide +kernel) hown K hG ((hF1 ta nta).trans a1) rfl 0 (by decide) (by decide +kernel) rfl dX2_countTick_38 ?_
        refine lv_aload_n hx hb dX2_countTick_41 rfl (lv_at hl 1 rfl) ?_
        refine m_get (ci := 2) (v := .int (iI f)) (C := RX2) (T := TX2) (N := 3) hx hb hts (by decide +kernel) hown K hG ((hF1 ta nta).trans a1) rfl 1 (by decide) (by decide +kernel) rfl dX2_countTick_42 ?_
        refine m_aald hx hb hG ((hF1 lv nlv).trans a2) f.toNat (by omega) (by omega) (by decide) (hlf f.toNat (by omega)) dX2_countTick_45 ?_
        refine lv_aload_n hx hb dX2_countTick_46 rfl (lv_at hl 2 rfl) ?_
        refine m_callfv (m_runV (a := pk f.toNat) (As := [.ref p2]) (rest := []) ⟨hx, hb, hml, hown, hts⟩ (c_X1_drop l D b _ (pk f.toNat) (rk f.toNat) (S1 f.toNat) ((hF1 (pk f.toNat) (fun k q => npk f.toNat k (by omega) q)).trans (hpk f.toNat (by omega))) (hr1 f.toNat (by omega)) p2 r2 S2 ((hF1 p2 np2).trans g1) ((hF1 r2 nr2).trans g2) (nr2 f.toNat (by omega))) (cwV 1 hts gX2_countTick_X1_drop rfl rfl rfl (by decide +kernel) ⟨Nat.le_of_ble_eq_true rfl, Nat.le_of_ble_eq_true rfl⟩) K hG ((hF1 (pk f.toNat) (fun k q => npk f.toNat k (by omega) q)).trans (hpk f.toNat (by omega))) rfl rfl rfl hl.1 rfl (Nat.le_of_ble_eq_true rfl) dX2_countTick_47 ⟨Nat.le_of_ble_eq_true rfl, Nat.le_of_ble_eq_true rfl⟩) hS (fun H locs hG hS => ?_)
        have hG : mG D b (mset M1 (rk f.toNat) (aL 64 (fun a c => if (a : Int) < 64 then ((S1 f.toNat) a c && !S2 a c) else (S1 f.toNat) a c))) s H := hG
        refine lv_aload_n hx hb dX2_countTick_50 rfl (lv_at hl 1 rfl) ?_
        refine m_get (ci := 2) (v := .int (iI g)) (C := RX2) (T := TX2) (N := 3) hx hb hts (by decide +kernel) hown K hG ((mset_ne (nta f.toNat (by omega))).trans ((hF1 ta nta).trans a1)) rfl 2 (by decide) (by decide +kernel) rfl dX2_countTick_51 ?_
        refine lv_bipush (v := iI 80) hx hb dX2_countTick_54 (by decide) ?_
        refine m_icmp_ge (tgt := 69) hx hb dX2_countTick_56 (by decide) ⟨by omega, by omega⟩ ⟨by omega, by omega⟩ (fun c56 => ?_) (fun c56 => ?_)
        · exact m_vret hx hb hr hlk hQ hG hS (Nat.le_of_ble_eq_true rfl) (Nat.le_of_ble_eq_true rfl) dX2_countTick_69 (absurd c56 (by omega))
        · refine lv_aload_n hx hb dX2_countTick_59 rfl (lv_at hl 1 rfl) ?_
          refine lv_dup hx hb dX2_countTick_60 rfl ?_
          refine m_get (ci := 2) (v := .int (iI g)) (C := RX2) (T := TX2) (N := 3) hx hb hts (by decide +kernel) hown K hG ((mset_ne (nta f.toNat (by omega))).trans ((hF1 ta nta).trans a1)) rfl 2 (by decide) (by decide +kernel) rfl dX2_countTick_61 ?_
          refine lv_iconst (v := iI 1) hx hb dX2_countTick_64 rfl ?_
          refine m_iadd hx hb dX2_countTick_65 ?_
          refine m_put (ci := 2) (v := .int (iI (g + 1))) (ty := .int) (fs' := [.ref lv, .int (iI f), .int (iI (g + 1))]) (C := RX2) (T := TX2) (N := 3) hx hb hts (by decide +kernel) tyX2 tyX2_ok nmX2 hown K hG hS ((mset_ne (nta f.toNat (by omega))).trans ((hF1 ta nta).trans a1)) rfl 2 (by decide) (by decide +kernel) rfl (by decide +kernel) rfl rfl (Nat.le_of_ble_eq_true rfl) rfl dX2_countTick_66 (fun H locs hG hS => ?_)
          have hG : mG D b (mset (mset M1 (rk f.toNat) (aL 64 (fun a c => if (a : Int) < 64 then ((S1 f.toNat) a c && !S2 a c) else (S1 f.toNat) a c))) ta (.inr (2, [.ref lv, .int (iI f), .int (iI (g + 1))]))) s H := hG
          exact m_vret hx hb hr hlk hQ hG hS (Nat.le_of_ble_eq_true rfl) (Nat.le_of_ble_eq_true rfl) dX2_countTick_69 ⟨va_up S1 f.toNat _, ⟨mset_self, ((mset_ne (mne a2 a1 (by intro h; cases h))).trans ((mset_ne (nlv f.toNat (by omega))).trans ((hF1 lv nlv).trans a2))), hlf, (fun k q => (mset_ne (mne (hpk k q) a1 (by intro h; cases h))).trans ((mset_ne (npk k f.toNat q (by omega))).trans ((hF1 (pk k) (fun k2 q2 => npk k k2 q q2)).trans (hpk k q)))), (fun k q => (mset_ne (nta k q).symm).trans (rks_set injr hr1 (by omega) k q)), injr⟩, (fun a q q2 => (mset_ne q).trans ((mset_ne (q2 f.toNat (by omega))).trans (hF1 a q2))), (fun k q1 q2 x y hx9 => by rw [va_up_ne _ _ (by omega)]; exact hU k (by omega) q2 x y hx9), (fun x y hx9 => by rw [va_up_self]; rw [if_pos (by omega), hV _ (by omega)])⟩
      · refine lv_aload_n hx hb dX2_countTick_13 rfl (lv_at hl 1 rfl) ?_
        refine m_get (ci := 2) (v := .ref lv) (C := RX2) (T := TX2) (N := 3) hx hb hts (by decide +kernel) hown K hG ((hF1 ta nta).trans a1) rfl 0 (by decide) (by decide +kernel) rfl dX2_countTick_14 ?_
        refine lv_iload_n hx hb dX2_countTick_17 rfl (lv_at hl 0 rfl) ?_
        refine m_aald hx hb hG ((hF1 lv nlv).trans a2) i.toNat (by omega) (by omega) (by decide) (hlf i.toNat (by omega)) dX2_countTick_18 ?_
        refine lv_aload_n hx hb dX2_countTick_19 rfl (lv_at hl 2 rfl) ?_
        refine lv_aload_n hx hb dX2_countTick_20 rfl (lv_at hl 1 rfl) ?_
        refine m_get (ci := 2) (v := .ref lv) (C := RX2) (T := TX2) (N := 3) hx hb hts (by decide +kernel) hown K hG ((hF1 ta nta).trans a1) rfl 0 (by decide) (by decide +kernel) rfl dX2_countTick_21 ?_
        refine lv_iload_n hx hb dX2_countTick_24 rfl (lv_at hl 0 rfl) ?_
        refine lv_iconst (v := iI 1) hx hb dX2_countTick_25 rfl ?_
        refine m_isub hx hb dX2_countTick_26 ?_
        refine m_aald hx hb hG ((hF1 lv nlv).trans a2) ((i - 1).toNat) (by omega) (by omega) (by decide) (hlf ((i - 1).toNat) (by omega)) dX2_countTick_27 ?_
        refine m_callfv (m_runV (a := pk i.toNat) (As := [.ref p2, .ref (pk ((i - 1).toNat))]) (rest := []) ⟨hx, hb, hml, hown, hts⟩ (c_X1_takeWithin l D b _ (pk i.toNat) (rk i.toNat) (S1 i.toNat) ((hF1 (pk i.toNat) (fun k q => npk i.toNat k (by omega) q)).trans (hpk i.toNat (by omega))) (hr1 i.toNat (by omega)) p2 r2 S2 ((hF1 p2 np2).trans g1) ((hF1 r2 nr2).trans g2) (nr2 i.toNat (by omega)) (pk ((i - 1).toNat)) (rk ((i - 1).toNat)) (S1 ((i - 1).toNat)) ((hF1 (pk ((i - 1).toNat)) (fun k q => npk ((i - 1).toNat) k (by omega) q)).trans (hpk ((i - 1).toNat) (by omega))) (hr1 ((i - 1).toNat) (by omega)) (fun z => absurd (injr ((i - 1).toNat) i.toNat (by omega) (by omega) z) (by omega))) (cwV 2 hts gX2_countTick_X1_takeWithin rfl rfl rfl (by decide +kernel) ⟨Nat.le_of_ble_eq_true rfl, Nat.le_of_ble_eq_true rfl⟩) K hG ((hF1 (pk i.toNat) (fun k q => npk i.toNat k (by omega) q)).trans (hpk i.toNat (by omega))) rfl rfl rfl hl.1 rfl (Nat.le_of_ble_eq_true rfl) dX2_countTick_28 ⟨Nat.le_of_ble_eq_true rfl, Nat.le_of_ble_eq_true rfl⟩) hS (fun H locs hG hS => ?_)
        have hG : mG D b (mset M1 (rk i.toNat) (aL 64 (fun a c => if (a : Int) < 64 then (((S1 i.toNat) a c && !S2 a c) || ((S1 ((i - 1).toNat)) a c && S2 a c)) else (S1 i.toNat) a c))) s H := hG
        refine m_iinc (lv' := [(2, .int (iI (i + (-1)))), (0, .ref ta), (1, .ref p2)]) (k := 0) hx hb dX2_countTick_31 hl rfl (by decide) rfl (fun ls hl => ?_)
        refine lv_goto (tgt := 5) hx hb dX2_countTick_34 (by decide) ?_
        exact ih5 (i + (-1)) (mset M1 (rk i.toNat) (aL 64 (fun a c => if (a : Int) < 64 then (((S1 i.toNat) a c && !S2 a c) || ((S1 ((i - 1).toNat)) a c && S2 a c)) else (S1 i.toNat) a c))) (va_up S1 i.toNat (fun a c => if (a : Int) < 64 then (((S1 i.toNat) a c && !S2 a c) || ((S1 ((i - 1).toNat)) a c && S2 a c)) else (S1 i.toNat) a c)) _ _ _ (by omega) (by omega) (rks_set injr hr1 (by omega)) (rks_fr hF1 (by omega)) (fun k q1 q2 x y hx9 => by by_cases g9 : k = i.toNat; rw [g9, va_up_self]; rw [if_pos (by omega), hV _ (by omega), hV _ (by omega), show (i - 1).toNat = i.toNat - 1 by omega]; rw [va_up_ne _ _ g9]; exact hU k (by omega) q2 x y hx9) (fun k q => by rw [va_up_ne _ _ (by omega)]; exact hV k (by omega)) (by omega) hG hS (lv_sub hl [0, 1, 2] rfl)
  exact loop5 _ g M S _ _ _ (by omega) (by omega) hrk (fun a _ => rfl) (fun k q1 q2 => absurd q1 (by omega)) (fun k _ => rfl) (Nat.lt_succ_self _) hG hS (lv_sub hl [0, 1, 2] rfl)
end
section
theorem mdown {i d : Int} {n : Nat} (h : (d + 1 - i).toNat < n + 1) (h2 : ¬ d < i) : (d + 1 - (i + 1)).toNat < n := by omega
def wideP (d : Nat) (P : Nat → Nat → Prop) (a c : Nat) : Prop := ∃ a2 c2 : Nat, (a2 < 64 ∧ c2 < 64) ∧ (a ≤ a2 + d ∧ a2 ≤ a + d) ∧ (c ≤ c2 + d ∧ c2 ≤ c + d) ∧ P a2 c2
theorem wide_P {d : Nat} {S : Nat → Nat → Bool} {P : Nat → Nat → Prop} (h : ∀ x y, x < 64 → y < 64 → (S x y = true ↔ P x y)) (a c : Nat) : wide d S a c ↔ wideP d P a c := by
  constructor
  · rintro ⟨a2, c2, h1, h2, h3, h4⟩; exact ⟨a2, c2, h1, h2, h3, (h a2 c2 h1.1 h1.2).mp h4⟩
  · rintro ⟨a2, c2, h1, h2, h3, h4⟩; exact ⟨a2, c2, h1, h2, h3, (h a2 c2 h1.1 h1.2).mpr h4⟩
/-- where a thing can be d ticks behind a, if it was in counted places at k ticks at most -/
def lev (F : Nat → Nat → Int) (s : Nat) (C : Nat → Nat → Bool) (a : Nat) : Nat → Nat → Nat → Nat → Prop
  | 0, k, x, y => inB F a x y ∧ (C x y = true → 1 ≤ k)
  | d + 1, k, x, y => inB F (a + d + 1) x y ∧ ((C x y = false ∧ wideP s (lev F s C a d k) x y) ∨ (C x y = true ∧ 1 ≤ k ∧ wideP s (lev F s C a d (k - 1)) x y))
/-- every place of a tick has one of the tick before within reach -/
abbrev lnk (F : Nat → Nat → Int) (s : Nat) : Prop := ∀ t x y : Nat, t < 79 → x < 64 → y < 64 → inB F (t + 1) x y → wideP s (inB F t) x y
def Jv (F : Nat → Nat → Int) (s : Nat) (C : Nat → Nat → Bool) (a d : Nat) (f g : Int) (S : Nat → Nat → Nat → Bool) : Prop :=
  (0 ≤ f ∧ f ≤ g ∧ g ≤ (d : Int) + 1) ∧ (∀ k : Nat, f ≤ k → (k : Int) < g → ∀ x y, x < 64 → y < 64 → (S k x y = true ↔ lev F s C a d k x y)) ∧ (∀ k : Nat, (k : Int) < f → ∀ x y, x < 64 → y < 64 → ¬ lev F s C a d k x y) ∧ (∀ k : Nat, g ≤ k → ∀ x y, x < 64 → y < 64 → (lev F s C a d k x y ↔ inB F (a + d) x y)) ∧ (f < g → ∃ x y, x < 64 ∧ y < 64 ∧ S f.toNat x y = true)
theorem Jnar {F : Nat → Nat → Int} {s : Nat} {C : Nat → Nat → Bool} {a d : Nat} {f g f1 g1 : Int} {S : Nat → Nat → Nat → Bool} (h0 : 0 ≤ f ∧ f ≤ g ∧ g ≤ (d : Int) + 1) (h1 : ∀ k : Nat, f ≤ k → (k : Int) < g → ∀ x y, x < 64 → y < 64 → (S k x y = true ↔ lev F s C a d k x y)) (h2 : ∀ k : Nat, (k : Int) < f → ∀ x y, x < 64 → y < 64 → ¬ lev F s C a d k x y) (h3 : ∀ k : Nat, g ≤ k → ∀ x y, x < 64 → y < 64 → (lev F s C a d k x y ↔ inB F (a + d) x y))
    (e1 : f ≤ f1) (e2 : f1 ≤ g1) (e3 : g1 ≤ g) (e4 : ∀ k : Nat, f ≤ k → (k : Int) < f1 → ∀ x y : Nat, x < 64 → y < 64 → S k x y = false) (e5 : f1 < g → ∃ x y : Nat, x < 64 ∧ y < 64 ∧ S f1.toNat x y = true) (e6 : ∀ k : Nat, g1 ≤ k → (k : Int) < g → ∀ x y : Nat, F (a + d) 0 ≤ x → (x : Int) ≤ F (a + d) 1 → F (a + d) 2 ≤ y → (y : Int) ≤ F (a + d) 3 → S k x y = true)
    (hin : ∀ k x y, lev F s C a d k x y → inB F (a + d) x y) : Jv F s C a d f1 g1 S := by
  refine ⟨⟨by omega, e2, by omega⟩, fun k q1 q2 => h1 k (by omega) (by omega), fun k q x y hx hy z => ?_, fun k q x y hx hy => ?_, fun q => e5 (by omega)⟩
  · rcases Int.lt_or_le (k : Int) f with w | w
    · exact h2 k w x y hx hy z
    · have := (h1 k w (by omega) x y hx hy).mpr z
      rw [e4 k w q x y hx hy] at this
      cases this
  · rcases Int.lt_or_le (k : Int) g with w | w
    · exact ⟨hin k x y, fun z => (h1 k (by omega) w x y hx hy).mp (e6 k q w x y z.1.1 z.1.2 z.2.1 z.2.2)⟩
    · exact h3 k w x y hx hy
theorem lev_in {F : Nat → Nat → Int} {s : Nat} {C : Nat → Nat → Bool} {a : Nat} : ∀ d k x y, lev F s C a d k x y → inB F (a + d) x y
  | 0, _, _, _, h => h.1
  | _ + 1, _, _, _, h => h.1
theorem J0 {F : Nat → Nat → Int} {s : Nat} {C : Nat → Nat → Bool} {a : Nat} {f1 g1 : Int} {S2 S3 : Nat → Nat → Nat → Bool} (hS2 : ∀ x y : Nat, x < 64 → y < 64 → (S2 0 x y = true ↔ inB F a x y)) (hS3 : ∀ x y : Nat, x < 64 → S3 0 x y = (S2 0 x y && !C x y))
    (e1 : 0 ≤ f1) (e2 : f1 ≤ g1) (e3 : g1 ≤ 1) (e4 : ∀ k : Nat, (0 : Int) ≤ k → (k : Int) < f1 → ∀ x y : Nat, x < 64 → y < 64 → S3 k x y = false) (e5 : f1 < 1 → ∃ x y : Nat, x < 64 ∧ y < 64 ∧ S3 f1.toNat x y = true) (e6 : ∀ k : Nat, g1 ≤ k → (k : Int) < 1 → ∀ x y : Nat, F a 0 ≤ x → (x : Int) ≤ F a 1 → F a 2 ≤ y → (y : Int) ≤ F a 3 → S3 k x y = true) : Jv F s C a 0 f1 g1 S3 := by
  refine Jnar (f := 0) (g := 1) ⟨by omega, by omega, by omega⟩ (fun k q1 q2 x y hx hy => ?_) (fun k q => absurd q (by omega)) (fun k q x y hx hy => ?_) e1 e2 e3 e4 e5 e6 (lev_in 0)
  · rw [show k = 0 by omega, hS3 x y hx, Bool.and_eq_true, hS2 x y hx hy]
    show _ ↔ inB F a x y ∧ (C x y = true → 1 ≤ 0)
    constructor
    · rintro ⟨g1, g2⟩; exact ⟨g1, fun z => by rw [z] at g2; cases g2⟩
    · rintro ⟨g1, g2⟩
      refine ⟨g1, ?_⟩
      rcases h : C x y with _ | _
      · rfl
      · exact absurd (g2 h) (by omega)
  · show inB F a x y ∧ (C x y = true → 1 ≤ k) ↔ inB F (a + 0) x y
    exact ⟨fun z => z.1, fun z => ⟨z, fun _ => by omega⟩⟩
theorem J1 {F : Nat → Nat → Int} {s : Nat} {C : Nat → Nat → Bool} {a d : Nat} {f g f1 g1 : Int} {S S2 S3 : Nat → Nat → Nat → Bool} (hJ : Jv F s C a d f g S) (hl : lnk F s) (had : a + d < 79)
    (hS2 : ∀ k : Nat, f ≤ k → (k : Int) < g → ∀ x y : Nat, x < 64 → y < 64 → (S2 k x y = true ↔ inB F (a + d + 1) x y ∧ wide s (S k) x y)) (hS2g : ∀ x y : Nat, x < 64 → y < 64 → (S2 g.toNat x y = true ↔ inB F (a + d + 1) x y))
    (hS3 : ∀ k : Nat, f < k → (k : Int) ≤ g → ∀ x y : Nat, x < 64 → S3 k x y = ((S2 k x y && !C x y) || (S2 (k - 1) x y && C x y))) (hS3f : ∀ x y : Nat, x < 64 → S3 f.toNat x y = (S2 f.toNat x y && !C x y))
    (e1 : f ≤ f1) (e2 : f1 ≤ g1) (e3 : g1 ≤ g + 1) (e4 : ∀ k : Nat, f ≤ k → (k : Int) < f1 → ∀ x y : Nat, x < 64 → y < 64 → S3 k x y = false) (e5 : f1 < g + 1 → ∃ x y : Nat, x < 64 ∧ y < 64 ∧ S3 f1.toNat x y = true) (e6 : ∀ k : Nat, g1 ≤ k → (k : Int) < g + 1 → ∀ x y : Nat, F (a + d + 1) 0 ≤ x → (x : Int) ≤ F (a + d + 1) 1 → F (a + d + 1) 2 ≤ y → (y : Int) ≤ F (a + d + 1) 3 → S3 k x y = true) : Jv F s C a (d + 1) f1 g1 S3 := by
  obtain ⟨⟨j1, j2, j3⟩, j4, j5, j6, -⟩ := hJ
  have full : ∀ k : Nat, g ≤ k → ∀ x y, x < 64 → y < 64 → inB F (a + d + 1) x y → wideP s (lev F s C a d k) x y := by
    intro k hk x y hx hy hb
    obtain ⟨x2, y2, q1, q2, q3, q4⟩ := hl (a + d) x y had hx hy hb
    exact ⟨x2, y2, q1, q2, q3, (j6 k hk x2 y2 q1.1 q1.2).mpr q4⟩
  have none : ∀ k : Nat, (k : Int) < f → ∀ x y, ¬ wideP s (lev F s C a d k) x y := by
    rintro k hk x y ⟨x2, y2, q1, q2, q3, q4⟩
    exact j5 k hk x2 y2 q1.1 q1.2 q4
  have A : ∀ k : Nat, f ≤ k → (k : Int) ≤ g → ∀ x y, x < 64 → y < 64 → (S2 k x y = true ↔ inB F (a + d + 1) x y ∧ wideP s (lev F s C a d k) x y) := by
    intro k q1 q2 x y hx hy
    rcases Int.lt_or_le (k : Int) g with w | w
    · rw [hS2 k q1 w x y hx hy, wide_P (j4 k q1 w)]
    · rw [show k = g.toNat by omega, hS2g x y hx hy]
      exact ⟨fun z => ⟨z, full _ (by omega) x y hx hy z⟩, fun z => z.1⟩
  refine Jnar (f := f) (g := g + 1) ⟨j1, by omega, by omega⟩ (fun k q1 q2 x y hx hy => ?_) (fun k q x y hx hy => ?_) (fun k q x y hx hy => ?_) e1 e2 e3 e4 e5 e6 (lev_in (d + 1))
  · show _ ↔ inB F (a + d + 1) x y ∧ ((C x y = false ∧ wideP s (lev F s C a d k) x y) ∨ (C x y = true ∧ 1 ≤ k ∧ wideP s (lev F s C a d (k - 1)) x y))
    rcases Int.lt_or_le f (k : Int) with w | w
    · rw [hS3 k w (by omega) x y hx, Bool.or_eq_true, Bool.and_eq_true, Bool.and_eq_true, A k q1 (by omega) x y hx hy, A (k - 1) (by omega) (by omega) x y hx hy]
      rcases h : C x y with _ | _
      · simp
      · simp; intro _ _; omega
    · have hk : k = f.toNat := by omega
      rw [hk, hS3f x y hx, Bool.and_eq_true, A f.toNat (by omega) (by omega) x y hx hy]
      rcases h : C x y with _ | _
      · simp
      · constructor
        · rintro ⟨_, z⟩; cases z
        · rintro ⟨_, ⟨z, _⟩ | ⟨_, z1, z2⟩⟩
          · cases z
          · exact absurd z2 (none (f.toNat - 1) (by omega) x y)
  · rintro ⟨-, ⟨-, z⟩ | ⟨-, -, z⟩⟩
    · exact none k q x y z
    · exact none (k - 1) (by omega) x y z
  · show inB F (a + d + 1) x y ∧ ((C x y = false ∧ wideP s (lev F s C a d k) x y) ∨ (C x y = true ∧ 1 ≤ k ∧ wideP s (lev F s C a d (k - 1)) x y)) ↔ inB F (a + (d + 1)) x y
    constructor
    · exact fun z => z.1
    · intro z
      refine ⟨z, ?_⟩
      rcases h : C x y with _ | _
      · exact Or.inl ⟨rfl, full k (by omega) x y hx hy z⟩
      · exact Or.inr ⟨rfl, by omega, full (k - 1) (by omega) x y hx hy z⟩
/-- the fewest ticks -/
def isMin (F : Nat → Nat → Int) (s : Nat) (C : Nat → Nat → Bool) (a d n : Nat) : Prop := (∃ x y, x < 64 ∧ y < 64 ∧ lev F s C a d n x y) ∧ ∀ k, k < n → ∀ x y, x < 64 → y < 64 → ¬ lev F s C a d k x y
theorem Jmin {F : Nat → Nat → Int} {s : Nat} {C : Nat → Nat → Bool} {a d : Nat} {f g : Int} {S : Nat → Nat → Nat → Bool} (hJ : Jv F s C a d f g S) (hne : neB F (a + d)) (hR : in63 F) : isMin F s C a d f.toNat := by
  obtain ⟨⟨j1, j2, j3⟩, j4, j5, j6, j7⟩ := hJ
  refine ⟨?_, fun k hk => j5 k (by omega)⟩
  rcases Int.lt_or_le f g with w | w
  · obtain ⟨x, y, hx, hy, h⟩ := j7 w
    exact ⟨x, y, hx, hy, (j4 f.toNat (by omega) (by omega) x y hx hy).mp h⟩
  · have r0 := hR (a + d) 0
    have r1 := hR (a + d) 1
    have r2 := hR (a + d) 2
    have r3 := hR (a + d) 3
    have n1 := hne.1
    have n2 := hne.2
    refine ⟨(F (a + d) 0).toNat, (F (a + d) 2).toNat, by omega, by omega, (j6 f.toNat (by omega) _ _ (by omega) (by omega)).mpr ⟨⟨by omega, by omega⟩, ⟨by omega, by omega⟩⟩⟩

set_option maxHeartbeats 4000000 in
set_option maxRecDepth 100000 in
theorem c_X2_advance (l : Launch) (D : va_G) (b : Nat) (M : mM) (ta lv : Nat) (lf : Nat → Option Nat) (pk rk : Nat → Nat) (f g : Int) (S : Nat → Nat → Nat → Bool) (hA : TaOk M ta lv lf pk rk f g S) (hf : 0 ≤ f) (hfg : f ≤ g) (hg : g ≤ 80) (th tk wh ra rc : Nat) (rf : Nat → Option Nat) (bx : Nat → Nat) (sp n j : Int) (vt vw vr : Nat → Int) (F : Nat → Nat → Int) (hT : ThOk M th tk wh ra rc rf bx sp n j vt vw vr F) (hsp0 : 0 ≤ sp) (hsp1 : sp ≤ 7) (t0 : Int) (ht0 : 0 ≤ t0) (ht1 : t0 < 80) (hR : in63 F) (hne : neB F t0.toNat) : Met l yX2_advance wsX2_advance ({ frames := 3, cells := 0, slots := 0, locals := 67 } : Room) (mPc [.ref ta, .ref th, .int (iI t0)] D b M) (mQv D b (fun M1 => ∃ S1 : Nat → Nat → Nat → Bool, TaOk M1 ta lv lf pk rk f g S1 ∧ (∀ a, (∀ k, k < 81 → a ≠ rk k) → M1 a = M a) ∧ (∀ k : Nat, f ≤ k → (k : Int) < g → ∀ x y : Nat, x < 64 → y < 64 → (S1 k x y = true ↔ inB F t0.toNat x y ∧ wide sp.toNat (S k) x y)) ∧ (∀ x y : Nat, x < 64 → y < 64 → (S1 g.toNat x y = true ↔ inB F t0.toNat x y)))) 0 0 (mF b) := by
  refine m_met (cc := cX2_advance) (maxL := 4) (ret := none) (by decide) rfl (Nat.le_of_ble_eq_true rfl) ?_
  intro p e s m args below meth c Q ls hx hb hml hr hts hown hlk hnm hQ K hG hS hl
  have hown : s.vm.findClass RX2 = some m.cls := hown
  have hl : lv_has ls 4 [(0, .ref ta), (1, .ref th), (2, .int (iI t0))] := hl
  obtain ⟨a1, a2, hlf, hpk, hrk, injr⟩ := id hA
  have nta : ∀ k, k < 81 → ta ≠ rk k := fun k q => mne a1 (hrk k q) (by intro h; cases h)
  have nlv : ∀ k, k < 81 → lv ≠ rk k := fun k q => mne a2 (hrk k q) (by intro h; cases h)
  have npk : ∀ j k, j < 81 → k < 81 → pk j ≠ rk k := fun j k q q2 => mne (hpk j q) (hrk k q2) (by intro h; cases h)
  obtain ⟨h1, ht, hw, hra, hrc, hrf, hB, ⟨n1, n2, n3⟩, inj⟩ := id hT
  have nbth : ∀ t, t < 80 → th ≠ bx t := fun t q => mne h1 (hB t q) (by intro h; cases h)
  have nbtk : ∀ t, t < 80 → tk ≠ bx t := fun t q => mne ht (hB t q) (by intro h; cases h)
  have nbwh : ∀ t, t < 80 → wh ≠ bx t := fun t q => mne hw (hB t q) (by intro h; cases h)
  have nbra : ∀ t, t < 80 → ra ≠ bx t := fun t q => mne hra (hB t q) (by intro h; cases h)
  have nbrc : ∀ t, t < 80 → rc ≠ bx t := fun t q => mne hrc (hB t q) (by intro h; cases h)
  have nth : ∀ k, k < 81 → th ≠ rk k := fun k q => mne h1 (hrk k q) (by intro h; cases h)
  refine lv_aload_n hx hb dX2_advance_0 rfl (lv_at hl 0 rfl) ?_
  refine m_get (ci := 2) (v := .int (iI f)) (C := RX2) (T := TX2) (N := 3) hx hb hts (by decide +kernel) hown K hG a1 rfl 1 (by decide) (by decide +kernel) rfl dX2_advance_1 ?_
  refine lv_istore_n (lv' := [(3, .int (iI f)), (0, .ref ta), (1, .ref th), (2, .int (iI t0))]) hx hb dX2_advance_4 rfl hl (by decide) rfl (fun ls hl => ?_)
  have loop5 : ∀ (fuel : Nat) (i : Int) (M1 : mM) (S1 : Nat → Nat → Nat → Bool) (H : Heap) (locs : List Loc) (ls : Array Slot), (f ≤ i) → (i ≤ g) → (∀ k, k < 81 → M1 (rk k) = some (aL 64 (S1 k))) → (∀ a, (∀ k, k < 81 → a ≠ rk k) → M1 a = M a) → (∀ k : Nat, f ≤ k → (k : Int) < i → ∀ x y : Nat, x < 64 → y < 64 → (S1 k x y = true ↔ inB F t0.toNat x y ∧ wide sp.toNat (S k) x y)) → (∀ k : Nat, i ≤ (k : Int) → S1 k = S k) → (g - i).toNat < fuel → mG D b M1 s H → va_S (mF b) s.heap H locs → lv_has ls 4 [(3, .int (iI i)), (0, .ref ta), (1, .ref th), (2, .int (iI t0))] → W p l e ({ frames := 3, cells := 0, slots := 0, locals := 67 } : Room) s m args below meth c H locs 0 0 Q (F0 m 5 ls []) := by
    intro fuel
    induction fuel with
    | zero => intro i M1 S1 H locs ls hi0 hi1 hr1 hF1 hU hV hm; exact absurd hm (Nat.not_lt_zero _)
    | succ fuel ih5 =>
      intro i M1 S1 H locs ls hi0 hi1 hr1 hF1 hU hV hm hG hS hl
      refine lv_iload_n hx hb dX2_advance_5 rfl (lv_at hl 0 rfl) ?_
      refine lv_aload_n hx hb dX2_advance_6 rfl (lv_at hl 1 rfl) ?_
      refine m_get (ci := 2) (v := .int (iI g)) (C := RX2) (T := TX2) (N := 3) hx hb hts (by decide +kernel) hown K hG ((hF1 ta nta).trans a1) rfl 2 (by decide) (by decide +kernel) rfl dX2_advance_7 ?_
      refine m_icmp_ge (tgt := 30) hx hb dX2_advance_10 (by decide) ⟨by omega, by omega⟩ ⟨by omega, by omega⟩ (fun c10 => ?_) (fun c10 => ?_)
      · have hv1 := (hR t0.toNat 0).1
        have hv2 := hne.1
        have hv3 := (hR t0.toNat 1).2
        have hv4 := (hR t0.toNat 2).1
        have hv5 := hne.2
        have hv6 := (hR t0.toNat 3).2
        refine lv_aload_n hx hb dX2_advance_30 rfl (lv_at hl 1 rfl) ?_
        refine m_get (ci := 2) (v := .ref lv) (C := RX2) (T := TX2) (N := 3) hx hb hts (by decide +kernel) hown K hG ((hF1 ta nta).trans a1) rfl 0 (by decide) (by decide +kernel) rfl dX2_advance_31 ?_
        refine lv_aload_n hx hb dX2_advance_34 rfl (lv_at hl 1 rfl) ?_
        refine m_get (ci := 2) (v := .int (iI g)) (C := RX2) (T := TX2) (N := 3) hx hb hts (by decide +kernel) hown K hG ((hF1 ta nta).trans a1) rfl 2 (by decide) (by decide +kernel) rfl dX2_advance_35 ?_
        refine m_aald hx hb hG ((hF1 lv nlv).trans a2) g.toNat (by omega) (by omega) (by decide) (hlf g.toNat (by omega)) dX2_advance_38 ?_
        refine lv_aload_n hx hb dX2_advance_39 rfl (lv_at hl 2 rfl) ?_
        refine lv_iload_n hx hb dX2_advance_40 rfl (lv_at hl 3 rfl) ?_
        refine m_callfq (m_runV (a := th) (As := [.int (iI t0)]) (rest := [.ref (pk g.toNat)]) ⟨hx, hb, hml, hown, hts⟩ (c_X3_reachAt l D b _ th tk wh ra rc rf bx sp n j vt vw vr F (ThOk_fr hT (fun a v h8 h9 _ => hF1 a (fun k q => mne h8 (hrk k q) (h9 (S k))))) t0 ht0 ht1) (cwV 1 hts gX2_advance_X3_reachAt rfl rfl rfl (by decide +kernel) ⟨Nat.le_of_ble_eq_true rfl, Nat.le_of_ble_eq_true rfl⟩) K hG ((hF1 th nth).trans h1) rfl rfl rfl hl.1 rfl (Nat.le_of_ble_eq_true rfl) dX2_advance_41 ⟨Nat.le_of_ble_eq_true rfl, Nat.le_of_ble_eq_true rfl⟩) hS (fun H locs hG hS => ?_)
        refine W.eq (g2 := F0 m 44 ls [.ref (bx t0.toNat), .ref (pk g.toNat)]) rfl ?_
        have hG : mG D b M1 s H := hG
        refine m_callfv (m_runV (a := pk g.toNat) (As := [.ref (bx t0.toNat)]) (rest := []) ⟨hx, hb, hml, hown, hts⟩ (c_X1_setTo l D b _ (pk g.toNat) (rk g.toNat) (S1 g.toNat) ((hF1 (pk g.toNat) (fun k q => npk g.toNat k (by omega) q)).trans (hpk g.toNat (by omega))) (hr1 g.toNat (by omega)) (bx t0.toNat) (F t0.toNat 0) (F t0.toNat 1) (F t0.toNat 2) (F t0.toNat 3) ((hF1 (bx t0.toNat) (fun k q => mne (hB t0.toNat (by omega)) (hrk k q) (by intro h; cases h))).trans (hB t0.toNat (by omega))) hv1 hv2 hv3 hv4 hv5 hv6) (cwV 1 hts gX2_advance_X1_setTo rfl rfl rfl (by decide +kernel) ⟨Nat.le_of_ble_eq_true rfl, Nat.le_of_ble_eq_true rfl⟩) K hG ((hF1 (pk g.toNat) (fun k q => npk g.toNat k (by omega) q)).trans (hpk g.toNat (by omega))) rfl rfl rfl hl.1 rfl (Nat.le_of_ble_eq_true rfl) dX2_advance_44 ⟨Nat.le_of_ble_eq_true rfl, Nat.le_of_ble_eq_true rfl⟩) hS (fun H locs hG hS => ?_)
        have hG : mG D b (mset M1 (rk g.toNat) (aL 64 (fun a c => if (a : Int) < 64 then (decide (F t0.toNat 0 ≤ (a : Int) ∧ (a : Int) ≤ F t0.toNat 1) && decide (F t0.toNat 2 ≤ (c : Int) ∧ (c : Int) ≤ F t0.toNat 3)) else (S1 g.toNat) a c))) s H := hG
        exact m_vret hx hb hr hlk hQ hG hS (Nat.le_of_ble_eq_true rfl) (Nat.le_of_ble_eq_true rfl) dX2_advance_47 ⟨va_up S1 g.toNat _, ⟨(mset_ne (nta g.toNat (by omega))).trans ((hF1 ta nta).trans a1), (mset_ne (nlv g.toNat (by omega))).trans ((hF1 lv nlv).trans a2), hlf, (fun k q => (mset_ne (npk k g.toNat q (by omega))).trans ((hF1 (pk k) (fun k2 q2 => npk k k2 q q2)).trans (hpk k q))), (fun k q => rks_set injr hr1 (by omega) k q), injr⟩, (fun a q => (mset_ne (q g.toNat (by omega))).trans (hF1 a q)), (fun k q1 q2 x y hx9 hy9 => by rw [va_up_ne _ _ (by omega)]; exact hU k q1 (by omega) x y hx9 hy9), (fun x y hx9 hy9 => by rw [va_up_self, if_pos (by omega), Bool.and_eq_true, decide_eq_true_eq, decide_eq_true_eq])⟩
      · refine lv_aload_n hx hb dX2_advance_13 rfl (lv_at hl 2 rfl) ?_
        refine lv_aload_n hx hb dX2_advance_14 rfl (lv_at hl 1 rfl) ?_
        refine m_get (ci := 2) (v := .ref lv) (C := RX2) (T := TX2) (N := 3) hx hb hts (by decide +kernel) hown K hG ((hF1 ta nta).trans a1) rfl 0 (by decide) (by decide +kernel) rfl dX2_advance_15 ?_
        refine lv_iload_n hx hb dX2_advance_18 rfl (lv_at hl 0 rfl) ?_
        refine m_aald hx hb hG ((hF1 lv nlv).trans a2) i.toNat (by omega) (by omega) (by decide) (hlf i.toNat (by omega)) dX2_advance_19 ?_
        refine lv_iload_n hx hb dX2_advance_20 rfl (lv_at hl 3 rfl) ?_
        refine m_callv (m_runV (a := th) (As := [.ref (pk i.toNat), .int (iI t0)]) (rest := []) ⟨hx, hb, hml, hown, hts⟩ (c_X3_advance l D b _ th tk wh ra rc rf bx sp n j vt vw vr F (ThOk_fr hT (fun a v h8 h9 _ => hF1 a (fun k q => mne h8 (hrk k q) (h9 (S k))))) hsp0 hsp1 (pk i.toNat) (rk i.toNat) (S1 i.toNat) ((hF1 (pk i.toNat) (fun k q => npk i.toNat k (by omega) q)).trans (hpk i.toNat (by omega))) (hr1 i.toNat (by omega)) t0 ht0 ht1 hR hne) (cwV 2 hts gX2_advance_X3_advance rfl rfl rfl (by decide +kernel) ⟨Nat.le_of_ble_eq_true rfl, Nat.le_of_ble_eq_true rfl⟩) K hG ((hF1 th nth).trans h1) rfl rfl rfl hl.1 rfl (Nat.le_of_ble_eq_true rfl) dX2_advance_21 ⟨Nat.le_of_ble_eq_true rfl, Nat.le_of_ble_eq_true rfl⟩) hS (fun M2 H locs hw3 hG hS => ?_)
        obtain ⟨T2, hwM2, hT2⟩ := hw3
        rw [hwM2] at hG
        refine m_iinc (lv' := [(3, .int (iI (i + 1))), (0, .ref ta), (1, .ref th), (2, .int (iI t0))]) (k := 0) hx hb dX2_advance_24 hl rfl (by decide) rfl (fun ls hl => ?_)
        refine lv_goto (tgt := 5) hx hb dX2_advance_27 (by decide) ?_
        exact ih5 (i + 1) (mset M1 (rk i.toNat) (aL 64 T2)) (va_up S1 i.toNat T2) _ _ _ (by omega) (by omega) (rks_set injr hr1 (by omega)) (rks_fr hF1 (by omega)) (fun k q1 q2 x y hx9 hy9 => by by_cases g9 : k = i.toNat; rw [g9, va_up_self, hT2 x y hx9 hy9, hV _ (by omega)]; rw [va_up_ne _ _ g9]; exact hU k q1 (by omega) x y hx9 hy9) (fun k q => by rw [va_up_ne _ _ (by omega)]; exact hV k (by omega)) (by omega) hG hS (lv_sub hl [0, 1, 2, 3] rfl)
  exact loop5 _ f M S _ _ _ (by omega) (by omega) hrk (fun a _ => rfl) (fun k q1 q2 => absurd q2 (by omega)) (fun k _ => rfl) (Nat.lt_succ_self _) hG hS (lv_sub hl [0, 1, 2, 3] rfl)

set_option maxHeartbeats 4000000 in
set_option maxRecDepth 100000 in
theorem c_X2_fewest (l : Launch) (D : va_G) (b : Nat) (M : mM) (ta lv : Nat) (lf : Nat → Option Nat) (pk rk : Nat → Nat) (f g : Int) (S : Nat → Nat → Nat → Bool) (hA : TaOk M ta lv lf pk rk f g S) (th tk wh ra rc : Nat) (rf : Nat → Option Nat) (bx : Nat → Nat) (sp n j : Int) (vt vw vr : Nat → Int) (F : Nat → Nat → Int) (hT : ThOk M th tk wh ra rc rf bx sp n j vt vw vr F) (hsp0 : 0 ≤ sp) (hsp1 : sp ≤ 7) (p2 r2 : Nat) (S2 : Nat → Nat → Bool) (gp : M p2 = some (Pl r2)) (gr : M r2 = some (aL 64 S2)) (nr2 : ∀ k, k < 81 → r2 ≠ rk k) (a0 b0 : Int) (ha0 : 0 ≤ a0) (hab : a0 ≤ b0) (hb0 : b0 < 80) (hR : in63 F) (hne : ∀ t, t < 80 → neB F t) (hl9 : lnk F sp.toNat) : Met l yX2_fewest wsX2_fewest ({ frames := 4, cells := 0, slots := 0, locals := 90 } : Room) (mPc [.ref ta, .ref th, .ref p2, .int (iI a0), .int (iI b0)] D b M) (mQi D b (fun r M1 => ∃ (z : Nat) (f1 g1 : Int) (S1 : Nat → Nat → Nat → Bool), r = iI z ∧ z ≤ 80 ∧ isMin F sp.toNat S2 a0.toNat (b0 - a0).toNat z ∧ TaOk M1 ta lv lf pk rk f1 g1 S1 ∧ (∀ a, a ≠ ta → (∀ k, k < 81 → a ≠ rk k) → M1 a = M a))) 0 0 (mF b) := by
  refine m_met (cc := cX2_fewest) (maxL := 6) (ret := (some .int)) (by decide) rfl (Nat.le_of_ble_eq_true rfl) ?_
  intro p e s m args below meth c Q ls hx hb hml hr hts hown hlk hnm hQ K hG hS hl
  have hown : s.vm.findClass RX2 = some m.cls := hown
  have hl : lv_has ls 6 [(0, .ref ta), (1, .ref th), (2, .ref p2), (3, .int (iI a0)), (4, .int (iI b0))] := hl
  obtain ⟨a1, a2, hlf, hpk, hrk, injr⟩ := id hA
  have nta : ∀ k, k < 81 → ta ≠ rk k := fun k q => mne a1 (hrk k q) (by intro h; cases h)
  have nlv : ∀ k, k < 81 → lv ≠ rk k := fun k q => mne a2 (hrk k q) (by intro h; cases h)
  have npk : ∀ j k, j < 81 → k < 81 → pk j ≠ rk k := fun j k q q2 => mne (hpk j q) (hrk k q2) (by intro h; cases h)
  obtain ⟨h1, ht, hw, hra, hrc, hrf, hB, ⟨n1, n2, n3⟩, inj⟩ := id hT
  have nbth : ∀ t, t < 80 → th ≠ bx t := fun t q => mne h1 (hB t q) (by intro h; cases h)
  have nbtk : ∀ t, t < 80 → tk ≠ bx t := fun t q => mne ht (hB t q) (by intro h; cases h)
  have nbwh : ∀ t, t < 80 → wh ≠ bx t := fun t q => mne hw (hB t q) (by intro h; cases h)
  have nbra : ∀ t, t < 80 → ra ≠ bx t := fun t q => mne hra (hB t q) (by intro h; cases h)
  have nbrc : ∀ t, t < 80 → rc ≠ bx t := fun t q => mne hrc (hB t q) (by intro h; cases h)
  have nth : ∀ k, k < 81 → th ≠ rk k := fun k q => mne h1 (hrk k q) (by intro h; cases h)
  have nthta : th ≠ ta := mne h1 a1 (by intro h; cases h)
  have np2ta : p2 ≠ ta := mne gp a1 (by intro h; cases h)
  have nr2ta : r2 ≠ ta := mne gr a1 (by intro h; cases h)
  have np2 : ∀ k, k < 81 → p2 ≠ rk k := fun k q => mne gp (hrk k q) (by intro h; cases h)
  refine lv_aload_n hx hb dX2_fewest_0 rfl (lv_at hl 0 rfl) ?_
  refine lv_iconst (v := iI 0) hx hb dX2_fewest_1 rfl ?_
  refine m_put (ci := 2) (v := .int (iI 0)) (ty := .int) (fs' := [.ref lv, .int (iI 0), .int (iI g)]) (C := RX2) (T := TX2) (N := 3) hx hb hts (by decide +kernel) tyX2 tyX2_ok nmX2 hown K hG hS a1 rfl 1 (by decide) (by decide +kernel) rfl (by decide +kernel) rfl rfl (Nat.le_of_ble_eq_true rfl) rfl dX2_fewest_2 (fun H locs hG hS => ?_)
  have hG : mG D b (mset M ta (.inr (2, [.ref lv, .int (iI 0), .int (iI g)]))) s H := hG
  refine lv_aload_n hx hb dX2_fewest_5 rfl (lv_at hl 0 rfl) ?_
  refine lv_iconst (v := iI 0) hx hb dX2_fewest_6 rfl ?_
  refine m_put (ci := 2) (v := .int (iI 0)) (ty := .int) (fs' := [.ref lv, .int (iI 0), .int (iI 0)]) (C := RX2) (T := TX2) (N := 3) hx hb hts (by decide +kernel) tyX2 tyX2_ok nmX2 hown K hG hS mset_self rfl 2 (by decide) (by decide +kernel) rfl (by decide +kernel) rfl rfl (Nat.le_of_ble_eq_true rfl) rfl dX2_fewest_7 (fun H locs hG hS => ?_)
  rw [mset_mset] at hG
  have hG : mG D b (mset M ta (.inr (2, [.ref lv, .int (iI 0), .int (iI 0)]))) s H := hG
  refine lv_iload_n hx hb dX2_fewest_10 rfl (lv_at hl 3 rfl) ?_
  refine lv_istore (lv' := [(5, .int (iI a0)), (0, .ref ta), (1, .ref th), (2, .ref p2), (3, .int (iI a0)), (4, .int (iI b0))]) hx hb dX2_fewest_11 hl (by decide) rfl (fun ls hl => ?_)
  have loop13 : ∀ (fuel : Nat) (i : Int) (M1 : mM) (f1 : Int) (g1 : Int) (S1 : Nat → Nat → Nat → Bool) (H : Heap) (locs : List Loc) (ls : Array Slot), (a0 ≤ i) → (i ≤ b0 + 1) → (TaOk M1 ta lv lf pk rk f1 g1 S1) → (∀ a, a ≠ ta → (∀ k, k < 81 → a ≠ rk k) → M1 a = M a) → (0 ≤ f1 ∧ f1 ≤ g1 ∧ g1 ≤ i - a0) → ((i = a0 ∧ f1 = 0 ∧ g1 = 0) ∨ (a0 < i ∧ Jv F sp.toNat S2 a0.toNat (i - 1 - a0).toNat f1 g1 S1)) → (b0 + 1 - i).toNat < fuel → mG D b M1 s H → va_S (mF b) s.heap H locs → lv_has ls 6 [(5, .int (iI i)), (0, .ref ta), (1, .ref th), (2, .ref p2), (3, .int (iI a0)), (4, .int (iI b0))] → W p l e ({ frames := 4, cells := 0, slots := 0, locals := 90 } : Room) s m args below meth c H locs 0 0 Q (F0 m 13 ls []) := by
    intro fuel
    induction fuel with
    | zero => intro i M1 f1 g1 S1 H locs ls hi0 hi1 hA1 hF1 hfg1 hJ hm; exact absurd hm (Nat.not_lt_zero _)
    | succ fuel ih13 =>
      intro i M1 f1 g1 S1 H locs ls hi0 hi1 hA1 hF1 hfg1 hJ hm hG hS hl
      refine lv_iload hx hb dX2_fewest_13 (lv_at hl 0 rfl) ?_
      refine lv_iload hx hb dX2_fewest_15 (lv_at hl 5 rfl) ?_
      refine m_icmp_gt (tgt := 48) hx hb dX2_fewest_17 (by decide) ⟨by omega, by omega⟩ ⟨by omega, by omega⟩ (fun c17 => ?_) (fun c17 => ?_)
      · refine lv_aload_n hx hb dX2_fewest_48 rfl (lv_at hl 1 rfl) ?_
        refine m_get (ci := 2) (v := .int (iI f1)) (C := RX2) (T := TX2) (N := 3) hx hb hts (by decide +kernel) hown K hG hA1.1 rfl 1 (by decide) (by decide +kernel) rfl dX2_fewest_49 ?_
        exact m_iret hx hb hr hlk hQ hG hS (Nat.le_of_ble_eq_true rfl) (Nat.le_of_ble_eq_true rfl) dX2_fewest_52 (by rcases hJ with ⟨q1, q2, q3⟩ | ⟨q1, q2⟩; exact absurd q1 (by omega); exact ⟨f1.toNat, f1, g1, S1, (congrArg iI (by omega)), (by omega), (by have h9 := Jmin q2 (hne _ (by omega)) hR; rw [show (i - 1 - a0).toNat = (b0 - a0).toNat by omega] at h9; exact h9), hA1, hF1⟩)
      · refine lv_aload_n hx hb dX2_fewest_20 rfl (lv_at hl 1 rfl) ?_
        refine lv_aload_n hx hb dX2_fewest_21 rfl (lv_at hl 2 rfl) ?_
        refine lv_iload hx hb dX2_fewest_22 (lv_at hl 0 rfl) ?_
        refine m_callv (m_runV (a := ta) (As := [.ref th, .int (iI i)]) (rest := []) ⟨hx, hb, hml, hown, hts⟩ (c_X2_advance l D b _ ta lv lf pk rk f1 g1 S1 hA1 (by omega) (by omega) (by omega) th tk wh ra rc rf bx sp n j vt vw vr F (ThOk_fr hT (fun a v h8 h9 h10 => hF1 a (mne h8 a1 (h10 f g lv)) (fun k q => mne h8 (hrk k q) (h9 (S k))))) hsp0 hsp1 i (by omega) (by omega) hR (hne i.toNat (by omega))) (cwV 2 hts gX2_fewest_X2_advance rfl rfl rfl (by decide +kernel) ⟨Nat.le_of_ble_eq_true rfl, Nat.le_of_ble_eq_true rfl⟩) K hG hA1.1 rfl rfl rfl hl.1 rfl (Nat.le_of_ble_eq_true rfl) dX2_fewest_24 ⟨Nat.le_of_ble_eq_true rfl, Nat.le_of_ble_eq_true rfl⟩) hS (fun M2 H locs hw3 hG hS => ?_)
        obtain ⟨Sx2, hA2, hF2, hU2, hV2⟩ := hw3
        have hK2 : ∀ a, a ≠ ta → (∀ k, k < 81 → a ≠ rk k) → M2 a = M a := fun a q1 q2 => (hF2 a q2).trans (hF1 a q1 q2)
        refine lv_aload_n hx hb dX2_fewest_27 rfl (lv_at hl 1 rfl) ?_
        refine lv_aload_n hx hb dX2_fewest_28 rfl (lv_at hl 3 rfl) ?_
        refine m_callv (m_runV (a := ta) (As := [.ref p2]) (rest := []) ⟨hx, hb, hml, hown, hts⟩ (c_X2_countTick l D b _ ta lv lf pk rk f1 g1 Sx2 hA2 (by omega) (by omega) (by omega) p2 r2 S2 ((hK2 p2 np2ta np2).trans gp) ((hK2 r2 nr2ta nr2).trans gr) nr2) (cwV 1 hts gX2_fewest_X2_countTick rfl rfl rfl (by decide +kernel) ⟨Nat.le_of_ble_eq_true rfl, Nat.le_of_ble_eq_true rfl⟩) K hG hA2.1 rfl rfl rfl hl.1 rfl (Nat.le_of_ble_eq_true rfl) dX2_fewest_29 ⟨Nat.le_of_ble_eq_true rfl, Nat.le_of_ble_eq_true rfl⟩) hS (fun M5 H locs hw6 hG hS => ?_)
        obtain ⟨Sx5, hA5, hF5, hU5, hV5⟩ := hw6
        have hK5 : ∀ a, a ≠ ta → (∀ k, k < 81 → a ≠ rk k) → M5 a = M a := fun a q1 q2 => (hF5 a q1 q2).trans (hK2 a q1 q2)
        refine lv_aload_n hx hb dX2_fewest_32 rfl (lv_at hl 1 rfl) ?_
        refine lv_aload_n hx hb dX2_fewest_33 rfl (lv_at hl 2 rfl) ?_
        refine lv_iload hx hb dX2_fewest_34 (lv_at hl 0 rfl) ?_
        refine m_callfq (m_runV (a := th) (As := [.int (iI i)]) (rest := [.ref ta]) ⟨hx, hb, hml, hown, hts⟩ (c_X3_reachAt l D b _ th tk wh ra rc rf bx sp n j vt vw vr F (ThOk_fr hT (fun a v h8 h9 h10 => hK5 a (mne h8 a1 (h10 f g lv)) (fun k q => mne h8 (hrk k q) (h9 (S k))))) i (by omega) (by omega)) (cwV 1 hts gX2_fewest_X3_reachAt rfl rfl rfl (by decide +kernel) ⟨Nat.le_of_ble_eq_true rfl, Nat.le_of_ble_eq_true rfl⟩) K hG ((hK5 th nthta nth).trans h1) rfl rfl rfl hl.1 rfl (Nat.le_of_ble_eq_true rfl) dX2_fewest_36 ⟨Nat.le_of_ble_eq_true rfl, Nat.le_of_ble_eq_true rfl⟩) hS (fun H locs hG hS => ?_)
        refine W.eq (g2 := F0 m 39 ls [.ref (bx i.toNat), .ref ta]) rfl ?_
        have hG : mG D b M5 s H := hG
        refine m_callv (m_runV (a := ta) (As := [.ref (bx i.toNat)]) (rest := []) ⟨hx, hb, hml, hown, hts⟩ (c_X2_narrow l D b _ ta lv lf pk rk f1 (g1 + 1) Sx5 hA5 (by omega) (by omega) (by omega) (bx i.toNat) (F i.toNat 0) (F i.toNat 1) (F i.toNat 2) (F i.toNat 3) ((hK5 (bx i.toNat) (mne (hB i.toNat (by omega)) a1 (by intro h; cases h)) (fun k q => mne (hB i.toNat (by omega)) (hrk k q) (by intro h; cases h))).trans (hB i.toNat (by omega))) (hR i.toNat 0).1 (hne i.toNat (by omega)).1 (hR i.toNat 1).2 (hR i.toNat 2).1 (hne i.toNat (by omega)).2 (hR i.toNat 3).2) (cwV 1 hts gX2_fewest_X2_narrow rfl rfl rfl (by decide +kernel) ⟨Nat.le_of_ble_eq_true rfl, Nat.le_of_ble_eq_true rfl⟩) K hG hA5.1 rfl rfl rfl hl.1 rfl (Nat.le_of_ble_eq_true rfl) dX2_fewest_39 ⟨Nat.le_of_ble_eq_true rfl, Nat.le_of_ble_eq_true rfl⟩) hS (fun M8 H locs hw9 hG hS => ?_)
        obtain ⟨f8, g8, hA8, hF8, e1_8, e2_8, e3_8, e4_8, e5_8, e6_8⟩ := hw9
        have hK8 : ∀ a, a ≠ ta → (∀ k, k < 81 → a ≠ rk k) → M8 a = M a := fun a q1 q2 => (hF8 a q1).trans (hK5 a q1 q2)
        refine m_iinc (lv' := [(5, .int (iI (i + 1))), (0, .ref ta), (1, .ref th), (2, .ref p2), (3, .int (iI a0)), (4, .int (iI b0))]) (k := 0) hx hb dX2_fewest_42 hl rfl (by decide) rfl (fun ls hl => ?_)
        refine lv_goto (tgt := 13) hx hb dX2_fewest_45 (by decide) ?_
        exact ih13 (i + 1) M8 f8 g8 Sx5 _ _ _ (by omega) (by omega) hA8 hK8 ⟨by omega, by omega, by omega⟩ (by
                  refine Or.inr ⟨by omega, ?_⟩
                  rcases hJ with ⟨q1, q2, q3⟩ | ⟨q1, q2⟩
                  · rw [show (i + 1 - 1 - a0).toNat = 0 by omega]
                    have hz : i.toNat = a0.toNat := by omega
                    rw [hz] at e6_8 hV2
                    rw [q3] at hV2 e3_8 e5_8 e6_8
                    rw [q2] at hV5 e1_8 e4_8
                    exact J0 hV2 hV5 e1_8 e2_8 e3_8 e4_8 e5_8 e6_8
                  · rw [show (i + 1 - 1 - a0).toNat = (i - 1 - a0).toNat + 1 by omega]
                    have hz : i.toNat = a0.toNat + (i - 1 - a0).toNat + 1 := by omega
                    rw [hz] at e6_8 hV2 hU2
                    exact J1 q2 hl9 (by omega) hU2 hV2 hU5 hV5 e1_8 e2_8 e3_8 e4_8 e5_8 e6_8) (mdown hm c17) hG hS (lv_sub hl [0, 1, 2, 3, 4, 5] rfl)
  exact loop13 _ a0 (mset M ta (.inr (2, [.ref lv, .int (iI 0), .int (iI 0)]))) 0 0 S _ _ _ (by omega) (by omega) ⟨mset_self, (mset_ne (mne a2 a1 (by intro h; cases h))).trans a2, hlf, (fun k q => (mset_ne (mne (hpk k q) a1 (by intro h; cases h))).trans (hpk k q)), (fun k q => (mset_ne (nta k q).symm).trans (hrk k q)), injr⟩ (fun a q _ => mset_ne q) ⟨by omega, by omega, by omega⟩ (Or.inl ⟨rfl, rfl, rfl⟩) (Nat.lt_succ_self _) hG hS (lv_sub hl [0, 1, 2, 3, 4, 5] rfl)
end
section
/-- one bound of one axis: the passes of settle, and their closed form -/
def si1 (β : Int) (v tk : Nat → Int) : Nat → Nat → Int
  | 0 => fun _ => β
  | n + 1 => va_up (si1 β v tk n) (tk n).toNat (max (si1 β v tk n (tk n).toNat) (v n))
def fw1 (s : Int) (f : Nat → Int) : Nat → Nat → Int
  | 0 => f
  | i + 1 => va_up (fw1 s f i) (i + 1) (max (fw1 s f i (i + 1)) (fw1 s f i i - s))
def bw1 (s : Int) (f : Nat → Int) : Nat → Nat → Int
  | 0 => f
  | i + 1 => va_up (bw1 s f i) (78 - i) (max (bw1 s f i (78 - i)) (bw1 s f i (78 - i + 1) - s))
def dst (t u : Int) : Int := if t < u then u - t else t - u
def mxF (β : Int) (v tk : Nat → Int) (s : Int) : Nat → Int → Int
  | 0, _ => β
  | n + 1, t => max (mxF β v tk s n t) (v n - s * dst t (tk n))
theorem mxF_le (β : Int) (v tk : Nat → Int) (s t c : Int) : ∀ n, mxF β v tk s n t ≤ c ↔ β ≤ c ∧ ∀ k, k < n → v k - s * dst t (tk k) ≤ c
  | 0 => ⟨fun h => ⟨h, fun k hk => absurd hk (Nat.not_lt_zero k)⟩, fun h => h.1⟩
  | n + 1 => by
    rw [mxF]
    have ih := mxF_le β v tk s t c n
    constructor
    · intro h
      have h1 := ih.mp (by omega)
      refine ⟨h1.1, fun k hk => ?_⟩
      rcases Nat.lt_or_ge k n with q | q
      · exact h1.2 k q
      · rw [show k = n by omega]; omega
    · rintro ⟨h1, h2⟩
      have h3 := ih.mpr ⟨h1, fun k hk => h2 k (by omega)⟩
      have h4 := h2 n (by omega)
      omega
theorem si1_le (β : Int) (v tk : Nat → Int) (t : Nat) (c : Int) : ∀ n, si1 β v tk n t ≤ c ↔ β ≤ c ∧ ∀ k, k < n → (tk k).toNat = t → v k ≤ c
  | 0 => ⟨fun h => ⟨h, fun k hk => absurd hk (Nat.not_lt_zero k)⟩, fun h => h.1⟩
  | n + 1 => by
    rw [si1]
    have ih := si1_le β v tk t c n
    by_cases g : t = (tk n).toNat
    · rw [← g, va_up_self]
      constructor
      · intro h
        have h1 := ih.mp (by omega)
        refine ⟨h1.1, fun k hk hkt => ?_⟩
        rcases Nat.lt_or_ge k n with q | q
        · exact h1.2 k q hkt
        · rw [show k = n by omega]; omega
      · rintro ⟨h1, h2⟩
        have h3 := ih.mpr ⟨h1, fun k hk => h2 k (by omega)⟩
        have h4 := h2 n (by omega) g.symm
        omega
    · rw [va_up_ne _ _ g, ih]
      constructor
      · rintro ⟨h1, h2⟩
        refine ⟨h1, fun k hk hkt => ?_⟩
        rcases Nat.lt_or_ge k n with q | q
        · exact h2 k q hkt
        · rw [show k = n by omega] at hkt; exact absurd hkt.symm g
      · rintro ⟨h1, h2⟩
        exact ⟨h1, fun k hk => h2 k (by omega)⟩
theorem fw1_ge {s : Int} {f : Nat → Int} : ∀ i t, i < t → fw1 s f i t = f t
  | 0, _, _ => rfl
  | i + 1, t, h => by rw [fw1, va_up_ne _ _ (by omega)]; exact fw1_ge i t (by omega)
theorem fw1_le {s : Int} {f : Nat → Int} : ∀ i t c, t ≤ i → (fw1 s f i t ≤ c ↔ ∀ u : Nat, u ≤ t → f u - s * ((t : Int) - u) ≤ c)
  | 0, t, c, h => by
    have ht : t = 0 := by omega
    subst ht
    constructor
    · intro h1 u hu
      have : u = 0 := by omega
      subst this
      show f 0 - s * (0 - 0) ≤ c
      rw [Int.sub_self, Int.mul_zero]
      have : fw1 s f 0 0 = f 0 := rfl
      omega
    · intro h1
      have := h1 0 (by omega)
      rw [Int.sub_self, Int.mul_zero] at this
      have e : fw1 s f 0 0 = f 0 := rfl
      omega
  | i + 1, t, c, h => by
    rcases Nat.lt_or_ge i t with q | q
    · have ht : t = i + 1 := by omega
      subst ht
      rw [fw1, va_up_self, fw1_ge i (i + 1) (by omega)]
      have ih := fw1_le (s := s) (f := f) i i (c + s) (Nat.le_refl i)
      have e : ∀ u : Nat, s * (((i + 1 : Nat) : Int) - u) = s * ((i : Int) - u) + s := fun u => by
        rw [show ((i + 1 : Nat) : Int) - u = ((i : Int) - u) + 1 by omega, Int.mul_add, Int.mul_one]
      constructor
      · intro h1 u hu
        rcases Nat.lt_or_ge i u with w | w
        · rw [show u = i + 1 by omega, Int.sub_self, Int.mul_zero]; omega
        · have := ih.mp (by omega) u w
          rw [e u]; omega
      · intro h1
        have h2 := h1 (i + 1) (by omega)
        rw [Int.sub_self, Int.mul_zero] at h2
        have h3 := ih.mpr (fun u hu => by have := h1 u (by omega); rw [e u] at this; omega)
        omega
    · rw [fw1, va_up_ne _ _ (by omega)]
      exact fw1_le i t c q
theorem bw1_lt {s : Int} {f : Nat → Int} : ∀ i t, i ≤ 79 → t < 79 - i → bw1 s f i t = f t
  | 0, _, _, _ => rfl
  | i + 1, t, h0, h => by rw [bw1, va_up_ne _ _ (by omega)]; exact bw1_lt i t (by omega) (by omega)
theorem bw1_le {s : Int} {f : Nat → Int} : ∀ i t c, i ≤ 79 → 79 - i ≤ t → t ≤ 79 → (bw1 s f i t ≤ c ↔ ∀ u : Nat, t ≤ u → u ≤ 79 → f u - s * ((u : Int) - t) ≤ c)
  | 0, t, c, _, h, h2 => by
    have ht : t = 79 := by omega
    subst ht
    have e : bw1 s f 0 79 = f 79 := rfl
    constructor
    · intro h1 u hu hu2
      rw [show u = 79 by omega, Int.sub_self, Int.mul_zero]; omega
    · intro h1
      have := h1 79 (by omega) (by omega)
      rw [Int.sub_self, Int.mul_zero] at this
      omega
  | i + 1, t, c, h0, h, h2 => by
    by_cases q : t = 78 - i
    · have ih := bw1_le (s := s) (f := f) i (t + 1) (c + s) (by omega) (by omega) (by omega)
      rw [bw1, ← q, va_up_self, bw1_lt i t (by omega) (by omega)]
      have e : ∀ u : Nat, s * ((u : Int) - t) = s * ((u : Int) - (t + 1 : Nat)) + s := fun u => by
        rw [show (u : Int) - t = ((u : Int) - (t + 1 : Nat)) + 1 by omega, Int.mul_add, Int.mul_one]
      constructor
      · intro h1 u hu hu2
        rcases Nat.lt_or_ge t u with w | w
        · have := ih.mp (by omega) u (by omega) hu2
          rw [e u]; omega
        · rw [show u = t by omega, Int.sub_self, Int.mul_zero]; omega
      · intro h1
        have h3 := h1 t (by omega) (by omega)
        rw [Int.sub_self, Int.mul_zero] at h3
        have h4 := ih.mpr (fun u hu hu2 => by have := h1 u (by omega) hu2; rw [e u] at this; omega)
        omega
    · rw [bw1, va_up_ne _ _ q]
      exact bw1_le i t c (by omega) (by omega) h2
theorem st1_eq {β s : Int} {v tk : Nat → Int} {n : Nat} (hs : 0 ≤ s) (hk : ∀ k, k < n → 0 ≤ tk k ∧ tk k < 80) {t : Nat} (ht : t < 80) : bw1 s (fw1 s (si1 β v tk n) 79) 79 t = mxF β v tk s n t := by
  have key : ∀ c, bw1 s (fw1 s (si1 β v tk n) 79) 79 t ≤ c ↔ mxF β v tk s n t ≤ c := by
    intro c
    rw [bw1_le 79 t c (by omega) (by omega) (by omega), mxF_le]
    constructor
    · intro h
      have h0 := h t (by omega) (by omega)
      rw [Int.sub_self, Int.mul_zero] at h0
      have h1 := (fw1_le (s := s) (f := si1 β v tk n) 79 t c (by omega)).mp (by omega)
      have h2 := h1 t (by omega)
      rw [Int.sub_self, Int.mul_zero] at h2
      have h3 := (si1_le β v tk t c n).mp (by omega)
      refine ⟨h3.1, fun k hkn => ?_⟩
      obtain ⟨k0, k1⟩ := hk k hkn
      unfold dst
      by_cases g : (t : Int) < tk k
      · rw [if_pos g]
        have h4 := h (tk k).toNat (by omega) (by omega)
        have h5 := (fw1_le (s := s) (f := si1 β v tk n) 79 (tk k).toNat (c + s * (((tk k).toNat : Int) - t)) (by omega)).mp (by omega) (tk k).toNat (by omega)
        rw [Int.sub_self, Int.mul_zero] at h5
        have h6 := ((si1_le β v tk (tk k).toNat (c + s * (((tk k).toNat : Int) - t)) n).mp (by omega)).2 k hkn rfl
        rw [show ((tk k).toNat : Int) = tk k by omega] at h6
        omega
      · rw [if_neg g]
        have h4 := h1 (tk k).toNat (by omega)
        have h6 := ((si1_le β v tk (tk k).toNat (c + s * ((t : Int) - ((tk k).toNat : Int))) n).mp (by omega)).2 k hkn rfl
        rw [show ((tk k).toNat : Int) = tk k by omega] at h6
        omega
    · rintro ⟨h1, h2⟩ u hu hu2
      have hz : 0 ≤ s * ((u : Int) - t) := Int.mul_nonneg hs (by omega)
      have : fw1 s (si1 β v tk n) 79 u ≤ c + s * ((u : Int) - t) := by
        refine (fw1_le 79 u _ (by omega)).mpr (fun w hw => ?_)
        have hz2 : 0 ≤ s * ((u : Int) - w) := Int.mul_nonneg hs (by omega)
        have : si1 β v tk n w ≤ c + s * ((u : Int) - t) + s * ((u : Int) - w) := by
          refine (si1_le β v tk w _ n).mpr ⟨by omega, fun k hkn hkw => ?_⟩
          have h3 := h2 k hkn
          obtain ⟨k0, k1⟩ := hk k hkn
          have hw2 : tk k = (w : Int) := by omega
          rw [hw2] at h3
          have h4 : s * dst t w ≤ s * ((u : Int) - t) + s * ((u : Int) - w) := by
            rw [← Int.mul_add]
            refine Int.mul_le_mul_of_nonneg_left ?_ hs
            unfold dst
            split <;> omega
          omega
        omega
      omega
  have a1 := (key _).mp (Int.le_refl _)
  have a2 := (key _).mpr (Int.le_refl _)
  omega

theorem q4_0 (a b c d : Int) : q4 a b c d 0 = a := rfl
theorem q4_1 (a b c d : Int) : q4 a b c d 1 = b := rfl
theorem q4_2 (a b c d : Int) : q4 a b c d 2 = c := rfl
theorem q4_3 (a b c d : Int) : q4 a b c d 3 = d := rfl
theorem siF_1 (vt vw vr : Nat → Int) (t : Nat) : ∀ n, siF vt vw vr n t 0 = si1 0 (fun k => vw k / 64 - vr k) vt n t ∧ siF vt vw vr n t 1 = - si1 (-63) (fun k => -(vw k / 64 + vr k)) vt n t ∧ siF vt vw vr n t 2 = si1 0 (fun k => vw k % 64 - vr k) vt n t ∧ siF vt vw vr n t 3 = - si1 (-63) (fun k => -(vw k % 64 + vr k)) vt n t
  | 0 => ⟨rfl, rfl, rfl, rfl⟩
  | n + 1 => by
    have ih := siF_1 vt vw vr t n
    rw [siF, si1, si1, si1, si1]
    by_cases g : t = (vt n).toNat
    · rw [← g, va_up_self, va_up_self, va_up_self, va_up_self, va_up_self, arF, q4_0, q4_1, q4_2, q4_3]
      omega
    · rw [va_up_ne _ _ g, va_up_ne _ _ g, va_up_ne _ _ g, va_up_ne _ _ g, va_up_ne _ _ g]
      exact ih
theorem fwF_1 (s : Int) (F : Nat → Nat → Int) : ∀ i t, fwF s F i t 0 = fw1 s (fun t => F t 0) i t ∧ fwF s F i t 1 = - fw1 s (fun t => - F t 1) i t ∧ fwF s F i t 2 = fw1 s (fun t => F t 2) i t ∧ fwF s F i t 3 = - fw1 s (fun t => - F t 3) i t
  | 0, t => ⟨rfl, (Int.neg_neg _).symm, rfl, (Int.neg_neg _).symm⟩
  | i + 1, t => by
    have ih := fwF_1 s F i t
    have ih2 := fwF_1 s F i i
    rw [fwF, fw1, fw1, fw1, fw1]
    by_cases g : t = i + 1
    · subst g
      rw [va_up_self, va_up_self, va_up_self, va_up_self, va_up_self, neF, q4_0, q4_1, q4_2, q4_3]
      omega
    · rw [va_up_ne _ _ g, va_up_ne _ _ g, va_up_ne _ _ g, va_up_ne _ _ g, va_up_ne _ _ g]
      exact ih
theorem bwF_1 (s : Int) (F : Nat → Nat → Int) : ∀ i t, bwF s F i t 0 = bw1 s (fun t => F t 0) i t ∧ bwF s F i t 1 = - bw1 s (fun t => - F t 1) i t ∧ bwF s F i t 2 = bw1 s (fun t => F t 2) i t ∧ bwF s F i t 3 = - bw1 s (fun t => - F t 3) i t
  | 0, t => ⟨rfl, (Int.neg_neg _).symm, rfl, (Int.neg_neg _).symm⟩
  | i + 1, t => by
    have ih := bwF_1 s F i t
    have ih2 := bwF_1 s F i (78 - i + 1)
    rw [bwF, bw1, bw1, bw1, bw1]
    by_cases g : t = 78 - i
    · subst g
      rw [va_up_self, va_up_self, va_up_self, va_up_self, va_up_self, neF, q4_0, q4_1, q4_2, q4_3]
      omega
    · rw [va_up_ne _ _ g, va_up_ne _ _ g, va_up_ne _ _ g, va_up_ne _ _ g, va_up_ne _ _ g]
      exact ih
/-- WHERE A THING CAN BE, closed: what the reference computes -/
theorem stF_eq {s : Int} {vt vw vr : Nat → Int} {n : Nat} (hs : 0 ≤ s) (hk : ∀ k, k < n → 0 ≤ vt k ∧ vt k < 80) {t : Nat} (ht : t < 80) : stF s vt vw vr n t 0 = mxF 0 (fun k => vw k / 64 - vr k) vt s n t ∧ stF s vt vw vr n t 1 = - mxF (-63) (fun k => -(vw k / 64 + vr k)) vt s n t ∧ stF s vt vw vr n t 2 = mxF 0 (fun k => vw k % 64 - vr k) vt s n t ∧ stF s vt vw vr n t 3 = - mxF (-63) (fun k => -(vw k % 64 + vr k)) vt s n t := by
  have a := fun t => siF_1 vt vw vr t n
  have b := fun t => fwF_1 s (siF vt vw vr n) 79 t
  have c := bwF_1 s (fwF s (siF vt vw vr n) 79) 79 t
  have e0 : (fun t => siF vt vw vr n t 0) = si1 0 (fun k => vw k / 64 - vr k) vt n := funext fun t => (a t).1
  have e1 : (fun t => - siF vt vw vr n t 1) = si1 (-63) (fun k => -(vw k / 64 + vr k)) vt n := funext fun t => by rw [(a t).2.1, Int.neg_neg]
  have e2 : (fun t => siF vt vw vr n t 2) = si1 0 (fun k => vw k % 64 - vr k) vt n := funext fun t => (a t).2.2.1
  have e3 : (fun t => - siF vt vw vr n t 3) = si1 (-63) (fun k => -(vw k % 64 + vr k)) vt n := funext fun t => by rw [(a t).2.2.2, Int.neg_neg]
  rw [e0, e1, e2, e3] at b
  have f0 : (fun t => fwF s (siF vt vw vr n) 79 t 0) = fw1 s (si1 0 (fun k => vw k / 64 - vr k) vt n) 79 := funext fun t => (b t).1
  have f1 : (fun t => - fwF s (siF vt vw vr n) 79 t 1) = fw1 s (si1 (-63) (fun k => -(vw k / 64 + vr k)) vt n) 79 := funext fun t => by rw [(b t).2.1, Int.neg_neg]
  have f2 : (fun t => fwF s (siF vt vw vr n) 79 t 2) = fw1 s (si1 0 (fun k => vw k % 64 - vr k) vt n) 79 := funext fun t => (b t).2.2.1
  have f3 : (fun t => - fwF s (siF vt vw vr n) 79 t 3) = fw1 s (si1 (-63) (fun k => -(vw k % 64 + vr k)) vt n) 79 := funext fun t => by rw [(b t).2.2.2, Int.neg_neg]
  rw [f0, f1, f2, f3] at c
  unfold stF
  rw [c.1, c.2.1, c.2.2.1, c.2.2.2, st1_eq hs hk ht, st1_eq hs hk ht, st1_eq hs hk ht, st1_eq hs hk ht]
  exact ⟨rfl, rfl, rfl, rfl⟩
theorem mxF_mono {β s t : Int} {v tk : Nat → Int} {n : Nat} : mxF β v tk s n t ≤ mxF β v tk s (n + 1) t := by rw [mxF]; omega
theorem neDrop {s n : Int} {vt vw vr : Nat → Int} (hs : 0 ≤ s) (so : sOk n vt vw vr) (hn : 0 ≤ n) (hn1 : 0 < n) (h : ∀ t, t < 80 → neB (stF s vt vw vr n.toNat) t) : ∀ t, t < 80 → neB (stF s vt vw vr (n - 1).toNat) t := by
  intro t ht
  have h1 := h t ht
  have e := stF_eq (s := s) (vt := vt) (vw := vw) (vr := vr) (n := n.toNat) hs (fun k hk => (so k (by omega)).1) ht
  have e2 := stF_eq (s := s) (vt := vt) (vw := vw) (vr := vr) (n := (n - 1).toNat) hs (fun k hk => (so k (by omega)).1) ht
  have hz : n.toNat = (n - 1).toNat + 1 := by omega
  obtain ⟨g1, g2⟩ := h1
  rw [e.1, e.2.1] at g1
  rw [e.2.2.1, e.2.2.2] at g2
  rw [hz] at g1 g2
  have m1 := mxF_mono (β := 0) (s := s) (t := t) (v := fun k => vw k / 64 - vr k) (tk := vt) (n := (n - 1).toNat)
  have m2 := mxF_mono (β := -63) (s := s) (t := t) (v := fun k => -(vw k / 64 + vr k)) (tk := vt) (n := (n - 1).toNat)
  have m3 := mxF_mono (β := 0) (s := s) (t := t) (v := fun k => vw k % 64 - vr k) (tk := vt) (n := (n - 1).toNat)
  have m4 := mxF_mono (β := -63) (s := s) (t := t) (v := fun k => -(vw k % 64 + vr k)) (tk := vt) (n := (n - 1).toNat)
  refine ⟨?_, ?_⟩
  · rw [e2.1, e2.2.1]; omega
  · rw [e2.2.2.1, e2.2.2.2]; omega
end
section
/-- the watch: all its cells by one address function; keys: 0 things, 1 their rows of ints, 2 their reach rows, 3 boxes, 4 places, 5 rows of places (0 to 3 grounds, 4 outside, 5 and on levels), 6 tally, 7 levels, 8 the object, 9 things' row, 10 grounds' row -/
abbrev Ov (ad : Nat → Nat → Nat → Nat) (nt ng : Int) : mE := .inr (4, [.ref (ad 9 0 0), .ref (ad 10 0 0), .ref (ad 4 4 0), .ref (ad 6 0 0), .int (iI nt), .int (iI ng)])
abbrev thGood (sp n : Int) (vt vw vr : Nat → Int) : Prop := (0 ≤ sp ∧ sp ≤ 7) ∧ (0 ≤ n ∧ n ≤ 12) ∧ sOk n vt vw vr ∧ ∀ t, t < 80 → neB (stF sp vt vw vr n.toNat) t
def OvOk (M : mM) (ad : Nat → Nat → Nat → Nat) (nt ng : Int) (sp nn jj : Nat → Int) (vt vw vr : Nat → Nat → Int) (G : Nat → Nat → Nat → Bool) : Prop :=
  M (ad 8 0 0) = some (Ov ad nt ng) ∧ (∃ tf, M (ad 9 0 0) = some (aQ RX3 6 tf) ∧ ∀ i : Nat, (i : Int) < nt → tf i = some (ad 0 i 0)) ∧ (∃ gf, M (ad 10 0 0) = some (aQ RX1 4 gf) ∧ ∀ i : Nat, (i : Int) < ng → gf i = some (ad 4 i 0)) ∧
  (∀ i : Nat, (i : Int) < nt → (∃ rf, ThOk M (ad 0 i 0) (ad 1 i 0) (ad 1 i 1) (ad 1 i 2) (ad 2 i 0) rf (ad 3 i) (sp i) (nn i) (jj i) (vt i) (vw i) (vr i) (stF (sp i) (vt i) (vw i) (vr i) (nn i).toNat)) ∧ thGood (sp i) (nn i) (vt i) (vw i) (vr i)) ∧
  (∀ i : Nat, (i : Int) < ng → M (ad 4 i 0) = some (Pl (ad 5 i 0)) ∧ M (ad 5 i 0) = some (aL 64 (G i))) ∧
  (∃ SO, M (ad 4 4 0) = some (Pl (ad 5 4 0)) ∧ M (ad 5 4 0) = some (aL 64 SO)) ∧
  (∃ lf f g S, TaOk M (ad 6 0 0) (ad 7 0 0) lf (fun k => ad 4 (5 + k) 0) (fun k => ad 5 (5 + k) 0) f g S) ∧ (0 ≤ nt ∧ nt ≤ 6 ∧ 0 ≤ ng ∧ ng ≤ 4)
/-- STATE as a number -/
noncomputable def stN (S : Nat → Nat → Bool) (F : Nat → Nat → Int) (t : Nat) : Int := tf (∃ a c : Nat, F t 0 ≤ a ∧ (a : Int) ≤ F t 1 ∧ F t 2 ≤ c ∧ (c : Int) ≤ F t 3 ∧ S a c = true) * (1 + tf (∀ a c : Nat, F t 0 ≤ a → (a : Int) ≤ F t 1 → F t 2 ≤ c → (c : Int) ≤ F t 3 → S a c = true))
theorem stN_rg (S : Nat → Nat → Bool) (F : Nat → Nat → Int) (t : Nat) : 0 ≤ stN S F t ∧ stN S F t ≤ 2 := by
  unfold stN
  generalize (∃ a c : Nat, F t 0 ≤ a ∧ (a : Int) ≤ F t 1 ∧ F t 2 ≤ c ∧ (c : Int) ≤ F t 3 ∧ S a c = true) = P
  generalize (∀ a c : Nat, F t 0 ≤ a → (a : Int) ≤ F t 1 → F t 2 ≤ c → (c : Int) ≤ F t 3 → S a c = true) = R
  rcases Classical.em P with h | h <;> rcases Classical.em R with g | g <;> simp [tf_t, tf_f, h, g]

set_option maxHeartbeats 4000000 in
set_option maxRecDepth 100000 in
theorem c_X4_thingOf_y (l : Launch) (D : va_G) (b : Nat) (M : mM) (ad : Nat → Nat → Nat → Nat) (nt ng : Int) (sp nn jj : Nat → Int) (vt vw vr : Nat → Nat → Int) (G : Nat → Nat → Nat → Bool) (hO : OvOk M ad nt ng sp nn jj vt vw vr G) (t : Int) (hr0 : rg t) (hq : 0 ≤ t ∧ t < nt) : Met l yX4_thingOf wsX4_thingOf ({ frames := 0, cells := 0, slots := 0, locals := 0 } : Room) (mPc [.ref (ad 8 0 0), .int (iI t)] D b M) (mQq D b (fQ (some (ad 0 t.toNat 0)) M)) 0 0 (mF b) := by
  refine m_met (cc := cX4_thingOf) (maxL := 2) (ret := (some (.object "OverLine$Thing"))) (by decide) rfl (Nat.le_of_ble_eq_true rfl) ?_
  intro p e s m args below meth c Q ls hx hb hml hr hts hown hlk hnm hQ K hG hS hl
  have hown : s.vm.findClass RX4 = some m.cls := hown
  have hl : lv_has ls 2 [(0, .ref (ad 8 0 0)), (1, .int (iI t))] := hl
  obtain ⟨o1, ⟨tf0, o2, o3⟩, ⟨gf0, o4, o5⟩, oT, oG, ⟨SO, o6, o7⟩, oA, ⟨b1, b2, b3, b4⟩⟩ := id hO
  refine lv_iload_n hx hb dX4_thingOf_0 rfl (lv_at hl 1 rfl) ?_
  refine m_if_lt (tgt := 21) hx hb dX4_thingOf_1 (by decide) hr0 (fun c1 => ?_) (fun c1 => ?_)
  · refine lv_null hx hb dX4_thingOf_21 ?_
    exact m_aret none rfl hx hb hr hlk hQ hG hS (Nat.le_of_ble_eq_true rfl) (Nat.le_of_ble_eq_true rfl) dX4_thingOf_22 (absurd hq (by omega))
  · refine lv_iload_n hx hb dX4_thingOf_4 rfl (lv_at hl 1 rfl) ?_
    refine lv_aload_n hx hb dX4_thingOf_5 rfl (lv_at hl 0 rfl) ?_
    refine m_get (ci := 4) (v := .int (iI nt)) (C := RX4) (T := TX4) (N := 6) hx hb hts (by decide +kernel) hown K hG o1 rfl 4 (by decide) (by decide +kernel) rfl dX4_thingOf_6 ?_
    refine m_icmp_ge (tgt := 21) hx hb dX4_thingOf_9 (by decide) hr0 ⟨by omega, by omega⟩ (fun c9 => ?_) (fun c9 => ?_)
    · refine lv_null hx hb dX4_thingOf_21 ?_
      exact m_aret none rfl hx hb hr hlk hQ hG hS (Nat.le_of_ble_eq_true rfl) (Nat.le_of_ble_eq_true rfl) dX4_thingOf_22 (absurd hq (by omega))
    · refine lv_aload_n hx hb dX4_thingOf_12 rfl (lv_at hl 0 rfl) ?_
      refine m_get (ci := 4) (v := .ref (ad 9 0 0)) (C := RX4) (T := TX4) (N := 6) hx hb hts (by decide +kernel) hown K hG o1 rfl 0 (by decide) (by decide +kernel) rfl dX4_thingOf_13 ?_
      refine lv_iload_n hx hb dX4_thingOf_16 rfl (lv_at hl 1 rfl) ?_
      refine m_aald hx hb hG o2 t.toNat (by omega) (by omega) (by decide) (o3 t.toNat (by omega)) dX4_thingOf_17 ?_
      refine lv_goto (tgt := 22) hx hb dX4_thingOf_18 (by decide) ?_
      exact m_aret (some (ad 0 t.toNat 0)) rfl hx hb hr hlk hQ hG hS (Nat.le_of_ble_eq_true rfl) (Nat.le_of_ble_eq_true rfl) dX4_thingOf_22 ⟨rfl, rfl⟩

set_option maxHeartbeats 4000000 in
set_option maxRecDepth 100000 in
theorem c_X4_thingOf_n (l : Launch) (D : va_G) (b : Nat) (M : mM) (ad : Nat → Nat → Nat → Nat) (nt ng : Int) (sp nn jj : Nat → Int) (vt vw vr : Nat → Nat → Int) (G : Nat → Nat → Nat → Bool) (hO : OvOk M ad nt ng sp nn jj vt vw vr G) (t : Int) (hr0 : rg t) (hq : ¬ (0 ≤ t ∧ t < nt)) : Met l yX4_thingOf wsX4_thingOf ({ frames := 0, cells := 0, slots := 0, locals := 0 } : Room) (mPc [.ref (ad 8 0 0), .int (iI t)] D b M) (mQq D b (fQ none M)) 0 0 (mF b) := by
  refine m_met (cc := cX4_thingOf) (maxL := 2) (ret := (some (.object "OverLine$Thing"))) (by decide) rfl (Nat.le_of_ble_eq_true rfl) ?_
  intro p e s m args below meth c Q ls hx hb hml hr hts hown hlk hnm hQ K hG hS hl
  have hown : s.vm.findClass RX4 = some m.cls := hown
  have hl : lv_has ls 2 [(0, .ref (ad 8 0 0)), (1, .int (iI t))] := hl
  obtain ⟨o1, ⟨tf0, o2, o3⟩, ⟨gf0, o4, o5⟩, oT, oG, ⟨SO, o6, o7⟩, oA, ⟨b1, b2, b3, b4⟩⟩ := id hO
  refine lv_iload_n hx hb dX4_thingOf_0 rfl (lv_at hl 1 rfl) ?_
  refine m_if_lt (tgt := 21) hx hb dX4_thingOf_1 (by decide) hr0 (fun c1 => ?_) (fun c1 => ?_)
  · refine lv_null hx hb dX4_thingOf_21 ?_
    exact m_aret none rfl hx hb hr hlk hQ hG hS (Nat.le_of_ble_eq_true rfl) (Nat.le_of_ble_eq_true rfl) dX4_thingOf_22 ⟨rfl, rfl⟩
  · refine lv_iload_n hx hb dX4_thingOf_4 rfl (lv_at hl 1 rfl) ?_
    refine lv_aload_n hx hb dX4_thingOf_5 rfl (lv_at hl 0 rfl) ?_
    refine m_get (ci := 4) (v := .int (iI nt)) (C := RX4) (T := TX4) (N := 6) hx hb hts (by decide +kernel) hown K hG o1 rfl 4 (by decide) (by decide +kernel) rfl dX4_thingOf_6 ?_
    refine m_icmp_ge (tgt := 21) hx hb dX4_thingOf_9 (by decide) hr0 ⟨by omega, by omega⟩ (fun c9 => ?_) (fun c9 => ?_)
    · refine lv_null hx hb dX4_thingOf_21 ?_
      exact m_aret none rfl hx hb hr hlk hQ hG hS (Nat.le_of_ble_eq_true rfl) (Nat.le_of_ble_eq_true rfl) dX4_thingOf_22 ⟨rfl, rfl⟩
    · refine lv_aload_n hx hb dX4_thingOf_12 rfl (lv_at hl 0 rfl) ?_
      refine m_get (ci := 4) (v := .ref (ad 9 0 0)) (C := RX4) (T := TX4) (N := 6) hx hb hts (by decide +kernel) hown K hG o1 rfl 0 (by decide) (by decide +kernel) rfl dX4_thingOf_13 ?_
      refine lv_iload_n hx hb dX4_thingOf_16 rfl (lv_at hl 1 rfl) ?_
      refine m_aald hx hb hG o2 t.toNat (by omega) (by omega) (by decide) (o3 t.toNat (by omega)) dX4_thingOf_17 ?_
      refine lv_goto (tgt := 22) hx hb dX4_thingOf_18 (by decide) ?_
      exact m_aret (some (ad 0 t.toNat 0)) rfl hx hb hr hlk hQ hG hS (Nat.le_of_ble_eq_true rfl) (Nat.le_of_ble_eq_true rfl) dX4_thingOf_22 (absurd (show 0 ≤ t ∧ t < nt by omega) hq)

set_option maxHeartbeats 4000000 in
set_option maxRecDepth 100000 in
theorem c_X4_groundOf_y (l : Launch) (D : va_G) (b : Nat) (M : mM) (ad : Nat → Nat → Nat → Nat) (nt ng : Int) (sp nn jj : Nat → Int) (vt vw vr : Nat → Nat → Int) (G : Nat → Nat → Nat → Bool) (hO : OvOk M ad nt ng sp nn jj vt vw vr G) (t : Int) (hr0 : rg t) (hq : 0 ≤ t ∧ t < ng) : Met l yX4_groundOf wsX4_groundOf ({ frames := 0, cells := 0, slots := 0, locals := 0 } : Room) (mPc [.ref (ad 8 0 0), .int (iI t)] D b M) (mQq D b (fQ (some (ad 4 t.toNat 0)) M)) 0 0 (mF b) := by
  refine m_met (cc := cX4_groundOf) (maxL := 2) (ret := (some (.object "OverLine$Places"))) (by decide) rfl (Nat.le_of_ble_eq_true rfl) ?_
  intro p e s m args below meth c Q ls hx hb hml hr hts hown hlk hnm hQ K hG hS hl
  have hown : s.vm.findClass RX4 = some m.cls := hown
  have hl : lv_has ls 2 [(0, .ref (ad 8 0 0)), (1, .int (iI t))] := hl
  obtain ⟨o1, ⟨tf0, o2, o3⟩, ⟨gf0, o4, o5⟩, oT, oG, ⟨SO, o6, o7⟩, oA, ⟨b1, b2, b3, b4⟩⟩ := id hO
  refine lv_iload_n hx hb dX4_groundOf_0 rfl (lv_at hl 1 rfl) ?_
  refine m_if_lt (tgt := 21) hx hb dX4_groundOf_1 (by decide) hr0 (fun c1 => ?_) (fun c1 => ?_)
  · refine lv_null hx hb dX4_groundOf_21 ?_
    exact m_aret none rfl hx hb hr hlk hQ hG hS (Nat.le_of_ble_eq_true rfl) (Nat.le_of_ble_eq_true rfl) dX4_groundOf_22 (absurd hq (by omega))
  · refine lv_iload_n hx hb dX4_groundOf_4 rfl (lv_at hl 1 rfl) ?_
    refine lv_aload_n hx hb dX4_groundOf_5 rfl (lv_at hl 0 rfl) ?_
    refine m_get (ci := 4) (v := .int (iI ng)) (C := RX4) (T := TX4) (N := 6) hx hb hts (by decide +kernel) hown K hG o1 rfl 5 (by decide) (by decide +kernel) rfl dX4_groundOf_6 ?_
    refine m_icmp_ge (tgt := 21) hx hb dX4_groundOf_9 (by decide) hr0 ⟨by omega, by omega⟩ (fun c9 => ?_) (fun c9 => ?_)
    · refine lv_null hx hb dX4_groundOf_21 ?_
      exact m_aret none rfl hx hb hr hlk hQ hG hS (Nat.le_of_ble_eq_true rfl) (Nat.le_of_ble_eq_true rfl) dX4_groundOf_22 (absurd hq (by omega))
    · refine lv_aload_n hx hb dX4_groundOf_12 rfl (lv_at hl 0 rfl) ?_
      refine m_get (ci := 4) (v := .ref (ad 10 0 0)) (C := RX4) (T := TX4) (N := 6) hx hb hts (by decide +kernel) hown K hG o1 rfl 1 (by decide) (by decide +kernel) rfl dX4_groundOf_13 ?_
      refine lv_iload_n hx hb dX4_groundOf_16 rfl (lv_at hl 1 rfl) ?_
      refine m_aald hx hb hG o4 t.toNat (by omega) (by omega) (by decide) (o5 t.toNat (by omega)) dX4_groundOf_17 ?_
      refine lv_goto (tgt := 22) hx hb dX4_groundOf_18 (by decide) ?_
      exact m_aret (some (ad 4 t.toNat 0)) rfl hx hb hr hlk hQ hG hS (Nat.le_of_ble_eq_true rfl) (Nat.le_of_ble_eq_true rfl) dX4_groundOf_22 ⟨rfl, rfl⟩

set_option maxHeartbeats 4000000 in
set_option maxRecDepth 100000 in
theorem c_X4_groundOf_n (l : Launch) (D : va_G) (b : Nat) (M : mM) (ad : Nat → Nat → Nat → Nat) (nt ng : Int) (sp nn jj : Nat → Int) (vt vw vr : Nat → Nat → Int) (G : Nat → Nat → Nat → Bool) (hO : OvOk M ad nt ng sp nn jj vt vw vr G) (t : Int) (hr0 : rg t) (hq : ¬ (0 ≤ t ∧ t < ng)) : Met l yX4_groundOf wsX4_groundOf ({ frames := 0, cells := 0, slots := 0, locals := 0 } : Room) (mPc [.ref (ad 8 0 0), .int (iI t)] D b M) (mQq D b (fQ none M)) 0 0 (mF b) := by
  refine m_met (cc := cX4_groundOf) (maxL := 2) (ret := (some (.object "OverLine$Places"))) (by decide) rfl (Nat.le_of_ble_eq_true rfl) ?_
  intro p e s m args below meth c Q ls hx hb hml hr hts hown hlk hnm hQ K hG hS hl
  have hown : s.vm.findClass RX4 = some m.cls := hown
  have hl : lv_has ls 2 [(0, .ref (ad 8 0 0)), (1, .int (iI t))] := hl
  obtain ⟨o1, ⟨tf0, o2, o3⟩, ⟨gf0, o4, o5⟩, oT, oG, ⟨SO, o6, o7⟩, oA, ⟨b1, b2, b3, b4⟩⟩ := id hO
  refine lv_iload_n hx hb dX4_groundOf_0 rfl (lv_at hl 1 rfl) ?_
  refine m_if_lt (tgt := 21) hx hb dX4_groundOf_1 (by decide) hr0 (fun c1 => ?_) (fun c1 => ?_)
  · refine lv_null hx hb dX4_groundOf_21 ?_
    exact m_aret none rfl hx hb hr hlk hQ hG hS (Nat.le_of_ble_eq_true rfl) (Nat.le_of_ble_eq_true rfl) dX4_groundOf_22 ⟨rfl, rfl⟩
  · refine lv_iload_n hx hb dX4_groundOf_4 rfl (lv_at hl 1 rfl) ?_
    refine lv_aload_n hx hb dX4_groundOf_5 rfl (lv_at hl 0 rfl) ?_
    refine m_get (ci := 4) (v := .int (iI ng)) (C := RX4) (T := TX4) (N := 6) hx hb hts (by decide +kernel) hown K hG o1 rfl 5 (by decide) (by decide +kernel) rfl dX4_groundOf_6 ?_
    refine m_icmp_ge (tgt := 21) hx hb dX4_groundOf_9 (by decide) hr0 ⟨by omega, by omega⟩ (fun c9 => ?_) (fun c9 => ?_)
    · refine lv_null hx hb dX4_groundOf_21 ?_
      exact m_aret none rfl hx hb hr hlk hQ hG hS (Nat.le_of_ble_eq_true rfl) (Nat.le_of_ble_eq_true rfl) dX4_groundOf_22 ⟨rfl, rfl⟩
    · refine lv_aload_n hx hb dX4_groundOf_12 rfl (lv_at hl 0 rfl) ?_
      refine m_get (ci := 4) (v := .ref (ad 10 0 0)) (C := RX4) (T := TX4) (N := 6) hx hb hts (by decide +kernel) hown K hG o1 rfl 1 (by decide) (by decide +kernel) rfl dX4_groundOf_13 ?_
      refine lv_iload_n hx hb dX4_groundOf_16 rfl (lv_at hl 1 rfl) ?_
      refine m_aald hx hb hG o4 t.toNat (by omega) (by omega) (by decide) (o5 t.toNat (by omega)) dX4_groundOf_17 ?_
      refine lv_goto (tgt := 22) hx hb dX4_groundOf_18 (by decide) ?_
      exact m_aret (some (ad 4 t.toNat 0)) rfl hx hb hr hlk hQ hG hS (Nat.le_of_ble_eq_true rfl) (Nat.le_of_ble_eq_true rfl) dX4_groundOf_22 (absurd (show 0 ≤ t ∧ t < ng by omega) hq)

set_option maxHeartbeats 4000000 in
set_option maxRecDepth 100000 in
theorem c_X4_stateOf (l : Launch) (D : va_G) (b : Nat) (M : mM) (th tk wh ra rc : Nat) (rf : Nat → Option Nat) (bx : Nat → Nat) (sp n j : Int) (vt vw vr : Nat → Int) (F : Nat → Nat → Int) (hT : ThOk M th tk wh ra rc rf bx sp n j vt vw vr F) (h r : Nat) (S : Nat → Nat → Bool) (hp : M h = some (Pl r)) (h2 : M r = some (aL 64 S)) (t0 : Int) (ht0 : 0 ≤ t0) (ht1 : t0 < 80) (hR : in63 F) (hne : neB F t0.toNat) : Met l yX4_stateOf wsX4_stateOf ({ frames := 2, cells := 0, slots := 0, locals := 44 } : Room) (mPc [.ref th, .ref h, .int (iI t0)] D b M) (mQi D b (fI (stN S F t0.toNat) M)) 0 0 (mF b) := by
  refine m_met (cc := cX4_stateOf) (maxL := 4) (ret := (some .int)) (by decide) rfl (Nat.le_of_ble_eq_true rfl) ?_
  intro p e s m args below meth c Q ls hx hb hml hr hts hown hlk hnm hQ K hG hS hl
  have hown : s.vm.findClass RX4 = some m.cls := hown
  have hl : lv_has ls 4 [(0, .ref th), (1, .ref h), (2, .int (iI t0))] := hl
  obtain ⟨h1, ht, hw, hra, hrc, hrf, hB, ⟨n1, n2, n3⟩, inj⟩ := id hT
  have nth : ∀ t, t < 80 → th ≠ bx t := fun t q => mne h1 (hB t q) (by intro h; cases h)
  have ntk : ∀ t, t < 80 → tk ≠ bx t := fun t q => mne ht (hB t q) (by intro h; cases h)
  have nwh : ∀ t, t < 80 → wh ≠ bx t := fun t q => mne hw (hB t q) (by intro h; cases h)
  have nra : ∀ t, t < 80 → ra ≠ bx t := fun t q => mne hra (hB t q) (by intro h; cases h)
  have nrc : ∀ t, t < 80 → rc ≠ bx t := fun t q => mne hrc (hB t q) (by intro h; cases h)
  refine lv_aload_n hx hb dX4_stateOf_0 rfl (lv_at hl 0 rfl) ?_
  refine lv_iload_n hx hb dX4_stateOf_1 rfl (lv_at hl 2 rfl) ?_
  refine m_callfq (m_runV (a := th) (As := [.int (iI t0)]) (rest := []) ⟨hx, hb, hml, hown, hts⟩ (c_X3_reachAt l D b _ th tk wh ra rc rf bx sp n j vt vw vr F hT t0 ht0 ht1) (cwV 1 hts gX4_stateOf_X3_reachAt rfl rfl rfl (by decide +kernel) ⟨Nat.le_of_ble_eq_true rfl, Nat.le_of_ble_eq_true rfl⟩) K hG h1 rfl rfl rfl hl.1 rfl (Nat.le_of_ble_eq_true rfl) dX4_stateOf_2 ⟨Nat.le_of_ble_eq_true rfl, Nat.le_of_ble_eq_true rfl⟩) hS (fun H locs hG hS => ?_)
  refine W.eq (g2 := F0 m 5 ls [.ref (bx t0.toNat)]) rfl ?_
  have hG : mG D b M s H := hG
  refine lv_astore_n (lv' := [(3, .ref (bx t0.toNat)), (0, .ref th), (1, .ref h), (2, .int (iI t0))]) hx hb dX4_stateOf_5 rfl hl (by decide) rfl (fun ls hl => ?_)
  refine lv_aload_n hx hb dX4_stateOf_6 rfl (lv_at hl 2 rfl) ?_
  refine lv_aload_n hx hb dX4_stateOf_7 rfl (lv_at hl 0 rfl) ?_
  refine m_callfi (m_runV (a := h) (As := [.ref (bx t0.toNat)]) (rest := []) ⟨hx, hb, hml, hown, hts⟩ (c_X1_meets l D b _ h r S hp h2 (bx t0.toNat) (F t0.toNat 0) (F t0.toNat 1) (F t0.toNat 2) (F t0.toNat 3) (hB t0.toNat (by omega)) (hR t0.toNat 0).1 hne.1 (hR t0.toNat 1).2 (hR t0.toNat 2).1 hne.2 (hR t0.toNat 3).2) (cwV 1 hts gX4_stateOf_X1_meets rfl rfl rfl (by decide +kernel) ⟨Nat.le_of_ble_eq_true rfl, Nat.le_of_ble_eq_true rfl⟩) K hG hp rfl rfl rfl hl.1 rfl (Nat.le_of_ble_eq_true rfl) dX4_stateOf_8 ⟨Nat.le_of_ble_eq_true rfl, Nat.le_of_ble_eq_true rfl⟩) hS (fun H locs hG hS => ?_)
  have hG : mG D b M s H := hG
  refine m_ift_ne (tgt := 16) hx hb dX4_stateOf_11 (by decide) (fun c11 => ?_) (fun c11 => ?_)
  · refine lv_aload_n hx hb dX4_stateOf_16 rfl (lv_at hl 2 rfl) ?_
    refine lv_aload_n hx hb dX4_stateOf_17 rfl (lv_at hl 0 rfl) ?_
    refine m_callfi (m_runV (a := h) (As := [.ref (bx t0.toNat)]) (rest := []) ⟨hx, hb, hml, hown, hts⟩ (c_X1_covers l D b _ h r S hp h2 (bx t0.toNat) (F t0.toNat 0) (F t0.toNat 1) (F t0.toNat 2) (F t0.toNat 3) (hB t0.toNat (by omega)) (hR t0.toNat 0).1 hne.1 (hR t0.toNat 1).2 (hR t0.toNat 2).1 hne.2 (hR t0.toNat 3).2) (cwV 1 hts gX4_stateOf_X1_covers rfl rfl rfl (by decide +kernel) ⟨Nat.le_of_ble_eq_true rfl, Nat.le_of_ble_eq_true rfl⟩) K hG hp rfl rfl rfl hl.1 rfl (Nat.le_of_ble_eq_true rfl) dX4_stateOf_18 ⟨Nat.le_of_ble_eq_true rfl, Nat.le_of_ble_eq_true rfl⟩) hS (fun H locs hG hS => ?_)
    have hG : mG D b M s H := hG
    refine m_ift_eq (tgt := 28) hx hb dX4_stateOf_21 (by decide) (fun c21 => ?_) (fun c21 => ?_)
    · refine lv_iconst (v := iI 1) hx hb dX4_stateOf_28 rfl ?_
      exact m_iret hx hb hr hlk hQ hG hS (Nat.le_of_ble_eq_true rfl) (Nat.le_of_ble_eq_true rfl) dX4_stateOf_29 ⟨congrArg iI (by unfold stN; rw [tf_t c11, tf_f c21]; rfl), rfl⟩
    · refine lv_iconst (v := iI 2) hx hb dX4_stateOf_24 rfl ?_
      refine lv_goto (tgt := 29) hx hb dX4_stateOf_25 (by decide) ?_
      exact m_iret hx hb hr hlk hQ hG hS (Nat.le_of_ble_eq_true rfl) (Nat.le_of_ble_eq_true rfl) dX4_stateOf_29 ⟨congrArg iI (by unfold stN; rw [tf_t c11, tf_t c21]; rfl), rfl⟩
  · refine lv_iconst (v := iI 0) hx hb dX4_stateOf_14 rfl ?_
    exact m_iret hx hb hr hlk hQ hG hS (Nat.le_of_ble_eq_true rfl) (Nat.le_of_ble_eq_true rfl) dX4_stateOf_15 ⟨congrArg iI (by unfold stN; rw [tf_f c11, Int.zero_mul]), rfl⟩

set_option maxHeartbeats 4000000 in
set_option maxRecDepth 100000 in
theorem c_X4_jumps (l : Launch) (D : va_G) (b : Nat) (M : mM) (ad : Nat → Nat → Nat → Nat) (nt ng : Int) (sp nn jj : Nat → Int) (vt vw vr : Nat → Nat → Int) (G : Nat → Nat → Nat → Bool) (hO : OvOk M ad nt ng sp nn jj vt vw vr G) (t : Int) (hrt : rg t) : Met l yX4_jumps wsX4_jumps ({ frames := 1, cells := 0, slots := 0, locals := 21 } : Room) (mPc [.ref (ad 8 0 0), .int (iI t)] D b M) (mQi D b (fI (if 0 ≤ t ∧ t < nt then jj t.toNat else -1) M)) 0 0 (mF b) := by
  refine m_met (cc := cX4_jumps) (maxL := 3) (ret := (some .int)) (by decide) rfl (Nat.le_of_ble_eq_true rfl) ?_
  intro p e s m args below meth c Q ls hx hb hml hr hts hown hlk hnm hQ K hG hS hl
  have hown : s.vm.findClass RX4 = some m.cls := hown
  have hl : lv_has ls 3 [(0, .ref (ad 8 0 0)), (1, .int (iI t))] := hl
  obtain ⟨o1, ⟨tf0, o2, o3⟩, ⟨gf0, o4, o5⟩, oT, oG, ⟨SO, o6, o7⟩, oA, ⟨b1, b2, b3, b4⟩⟩ := id hO
  refine lv_aload_n hx hb dX4_jumps_0 rfl (lv_at hl 0 rfl) ?_
  refine lv_iload_n hx hb dX4_jumps_1 rfl (lv_at hl 1 rfl) ?_
  rcases Classical.em (0 ≤ t ∧ t < nt) with hqk1 | hqk1
  · obtain ⟨⟨rfk1, hTk1⟩, ⟨hs0k1, hs1k1⟩, ⟨hn0k1, hn1k1⟩, sok1, nek1⟩ := oT t.toNat (by omega)
    have hRk1 : in63 (stF (sp t.toNat) (vt t.toNat) (vw t.toNat) (vr t.toNat) (nn t.toNat).toNat) := stF_rg hs0k1 (fun k hk => (sok1 k (by omega)).2)
    obtain ⟨t1k1, t2k1, t3k1, t4k1, t5k1, t6k1, hBk1, -, -⟩ := id hTk1
    refine m_callfq (m_runV (a := ad 8 0 0) (As := [.int (iI t)]) (rest := []) ⟨hx, hb, hml, hown, hts⟩ (c_X4_thingOf_y l D b _ ad nt ng sp nn jj vt vw vr G hO t hrt hqk1) (cwV 1 hts gX4_jumps_X4_thingOf rfl rfl rfl (by decide +kernel) ⟨Nat.le_of_ble_eq_true rfl, Nat.le_of_ble_eq_true rfl⟩) K hG o1 rfl rfl rfl hl.1 rfl (Nat.le_of_ble_eq_true rfl) dX4_jumps_2 ⟨Nat.le_of_ble_eq_true rfl, Nat.le_of_ble_eq_true rfl⟩) hS (fun H locs hG hS => ?_)
    refine W.eq (g2 := F0 m 5 ls [.ref (ad 0 t.toNat 0)]) rfl ?_
    have hG : mG D b M s H := hG
    refine lv_astore_n (lv' := [(2, .ref (ad 0 t.toNat 0)), (0, .ref (ad 8 0 0)), (1, .int (iI t))]) hx hb dX4_jumps_5 rfl hl (by decide) rfl (fun ls hl => ?_)
    refine lv_aload_n hx hb dX4_jumps_6 rfl (lv_at hl 0 rfl) ?_
    refine lv_ifnonnull (tgt := 14) hx hb dX4_jumps_7 (by decide) ?_
    refine lv_aload_n hx hb dX4_jumps_14 rfl (lv_at hl 0 rfl) ?_
    refine m_callfi (m_runV (a := ad 0 t.toNat 0) (As := []) (rest := []) ⟨hx, hb, hml, hown, hts⟩ (c_X3_leftOut l D b _ (ad 0 t.toNat 0) (ad 1 t.toNat 0) (ad 1 t.toNat 1) (ad 1 t.toNat 2) (ad 2 t.toNat 0) rfk1 (ad 3 t.toNat) (sp t.toNat) (nn t.toNat) (jj t.toNat) (vt t.toNat) (vw t.toNat) (vr t.toNat) (stF (sp t.toNat) (vt t.toNat) (vw t.toNat) (vr t.toNat) (nn t.toNat).toNat) hTk1) (cwV 0 hts gX4_jumps_X3_leftOut rfl rfl rfl (by decide +kernel) ⟨Nat.le_of_ble_eq_true rfl, Nat.le_of_ble_eq_true rfl⟩) K hG t1k1 rfl rfl rfl hl.1 rfl (Nat.le_of_ble_eq_true rfl) dX4_jumps_15 ⟨Nat.le_of_ble_eq_true rfl, Nat.le_of_ble_eq_true rfl⟩) hS (fun H locs hG hS => ?_)
    have hG : mG D b M s H := hG
    exact m_iret hx hb hr hlk hQ hG hS (Nat.le_of_ble_eq_true rfl) (Nat.le_of_ble_eq_true rfl) dX4_jumps_18 ⟨congrArg iI (by rw [if_pos hqk1]), rfl⟩
  · refine m_callfq (m_runV (a := ad 8 0 0) (As := [.int (iI t)]) (rest := []) ⟨hx, hb, hml, hown, hts⟩ (c_X4_thingOf_n l D b _ ad nt ng sp nn jj vt vw vr G hO t hrt hqk1) (cwV 1 hts gX4_jumps_X4_thingOf rfl rfl rfl (by decide +kernel) ⟨Nat.le_of_ble_eq_true rfl, Nat.le_of_ble_eq_true rfl⟩) K hG o1 rfl rfl rfl hl.1 rfl (Nat.le_of_ble_eq_true rfl) dX4_jumps_2 ⟨Nat.le_of_ble_eq_true rfl, Nat.le_of_ble_eq_true rfl⟩) hS (fun H locs hG hS => ?_)
    refine W.eq (g2 := F0 m 5 ls [.null]) rfl ?_
    have hG : mG D b M s H := hG
    refine lv_astore_nN (lv' := [(2, .null), (0, .ref (ad 8 0 0)), (1, .int (iI t))]) hx hb dX4_jumps_5 rfl hl (by decide) rfl (fun ls hl => ?_)
    refine lv_aload_nN hx hb dX4_jumps_6 rfl (lv_at hl 0 rfl) ?_
    refine lv_ifnonnullN hx hb dX4_jumps_7 ?_
    refine lv_iconst (v := iI (-1)) hx hb dX4_jumps_10 rfl ?_
    refine lv_goto (tgt := 18) hx hb dX4_jumps_11 (by decide) ?_
    exact m_iret hx hb hr hlk hQ hG hS (Nat.le_of_ble_eq_true rfl) (Nat.le_of_ble_eq_true rfl) dX4_jumps_18 ⟨congrArg iI (by rw [if_neg hqk1]), rfl⟩

theorem lk_out {x a b e : Int} (h : x < 0 ∨ 1 < x) : Op.lookupswitch.offset [(0, a), (1, b)] e x = e := by
  have h0 : ¬ ((0 : Int) = x) := by omega
  have h1 : ¬ ((1 : Int) = x) := by omega
  have h0' : ¬ (x = (0 : Int)) := by omega
  have h1' : ¬ (x = (1 : Int)) := by omega
  simp [Op.lookupswitch.offset, h0, h1, h0', h1']
/-- WHERE, as a number -/
def whN (F : Nat → Nat → Int) (t : Nat) (w : Int) : Int := if w = 0 then F t 0 else if w = 1 then F t 1 else if w = 2 then F t 2 else if w = 3 then F t 3 else if w = 4 then (F t 1 - F t 0 + 1) * (F t 3 - F t 2 + 1) else -1
set_option maxHeartbeats 4000000 in
set_option maxRecDepth 100000 in
theorem c_X4_where (l : Launch) (D : va_G) (b : Nat) (M : mM) (ad : Nat → Nat → Nat → Nat) (nt ng : Int) (sp nn jj : Nat → Int) (vt vw vr : Nat → Nat → Int) (G : Nat → Nat → Nat → Bool) (hO : OvOk M ad nt ng sp nn jj vt vw vr G) (t u w : Int) (hrt : rg t) (hru : rg u) (hrw : rg w) : Met l yX4_where wsX4_where ({ frames := 1, cells := 0, slots := 0, locals := 21 } : Room) (mPc [.ref (ad 8 0 0), .int (iI t), .int (iI u), .int (iI w)] D b M) (mQi D b (fI (if (0 ≤ t ∧ t < nt) ∧ (0 ≤ u ∧ u < 80) then whN (stF (sp t.toNat) (vt t.toNat) (vw t.toNat) (vr t.toNat) (nn t.toNat).toNat) u.toNat w else -1) M)) 0 0 (mF b) := by
  refine m_met (cc := cX4_where) (maxL := 6) (ret := (some .int)) (by decide) rfl (Nat.le_of_ble_eq_true rfl) ?_
  intro p e s m args below meth c Q ls hx hb hml hr hts hown hlk hnm hQ K hG hS hl
  have hown : s.vm.findClass RX4 = some m.cls := hown
  have hl : lv_has ls 6 [(0, .ref (ad 8 0 0)), (1, .int (iI t)), (2, .int (iI u)), (3, .int (iI w))] := hl
  obtain ⟨o1, ⟨tf0, o2, o3⟩, ⟨gf0, o4, o5⟩, oT, oG, ⟨SO, o6, o7⟩, oA, ⟨b1, b2, b3, b4⟩⟩ := id hO
  refine lv_aload_n hx hb dX4_where_0 rfl (lv_at hl 0 rfl) ?_
  refine lv_iload_n hx hb dX4_where_1 rfl (lv_at hl 1 rfl) ?_
  rcases Classical.em (0 ≤ t ∧ t < nt) with hqk1 | hqk1
  · obtain ⟨⟨rfk1, hTk1⟩, ⟨hs0k1, hs1k1⟩, ⟨hn0k1, hn1k1⟩, sok1, nek1⟩ := oT t.toNat (by omega)
    have hRk1 : in63 (stF (sp t.toNat) (vt t.toNat) (vw t.toNat) (vr t.toNat) (nn t.toNat).toNat) := stF_rg hs0k1 (fun k hk => (sok1 k (by omega)).2)
    obtain ⟨t1k1, t2k1, t3k1, t4k1, t5k1, t6k1, hBk1, -, -⟩ := id hTk1
    refine m_callfq (m_runV (a := ad 8 0 0) (As := [.int (iI t)]) (rest := []) ⟨hx, hb, hml, hown, hts⟩ (c_X4_thingOf_y l D b _ ad nt ng sp nn jj vt vw vr G hO t hrt hqk1) (cwV 1 hts gX4_where_X4_thingOf rfl rfl rfl (by decide +kernel) ⟨Nat.le_of_ble_eq_true rfl, Nat.le_of_ble_eq_true rfl⟩) K hG o1 rfl rfl rfl hl.1 rfl (Nat.le_of_ble_eq_true rfl) dX4_where_2 ⟨Nat.le_of_ble_eq_true rfl, Nat.le_of_ble_eq_true rfl⟩) hS (fun H locs hG hS => ?_)
    refine W.eq (g2 := F0 m 5 ls [.ref (ad 0 t.toNat 0)]) rfl ?_
    have hG : mG D b M s H := hG
    refine lv_astore (lv' := [(4, .ref (ad 0 t.toNat 0)), (0, .ref (ad 8 0 0)), (1, .int (iI t)), (2, .int (iI u)), (3, .int (iI w))]) hx hb dX4_where_5 hl (by decide) rfl (fun ls hl => ?_)
    refine lv_aload hx hb dX4_where_7 (lv_at hl 0 rfl) ?_
    refine lv_ifnull hx hb dX4_where_9 ?_
    refine lv_iload_n hx hb dX4_where_12 rfl (lv_at hl 3 rfl) ?_
    refine m_callfi (m_runS (As := [.int (iI u)]) (rest := []) ⟨hx, hb, hml, hown, hts⟩ (c_X4_isTick l D b _ u hru) (va_cwS 1 hts gX4_where_X4_isTick rfl rfl rfl (by decide +kernel) ⟨Nat.le_of_ble_eq_true rfl, Nat.le_of_ble_eq_true rfl⟩) K hG rfl hl.1 rfl (Nat.le_of_ble_eq_true rfl) dX4_where_13 ⟨Nat.le_of_ble_eq_true rfl, Nat.le_of_ble_eq_true rfl⟩) hS (fun H locs hG hS => ?_)
    have hG : mG D b M s H := hG
    refine m_ifb_ne (tgt := 21) hx hb dX4_where_16 (by decide) (fun c16 => ?_) (fun c16 => ?_)
    · refine lv_aload hx hb dX4_where_21 (lv_at hl 0 rfl) ?_
      refine lv_iload_n hx hb dX4_where_23 rfl (lv_at hl 3 rfl) ?_
      refine m_callfq (m_runV (a := ad 0 t.toNat 0) (As := [.int (iI u)]) (rest := []) ⟨hx, hb, hml, hown, hts⟩ (c_X3_reachAt l D b _ (ad 0 t.toNat 0) (ad 1 t.toNat 0) (ad 1 t.toNat 1) (ad 1 t.toNat 2) (ad 2 t.toNat 0) rfk1 (ad 3 t.toNat) (sp t.toNat) (nn t.toNat) (jj t.toNat) (vt t.toNat) (vw t.toNat) (vr t.toNat) (stF (sp t.toNat) (vt t.toNat) (vw t.toNat) (vr t.toNat) (nn t.toNat).toNat) hTk1 u (by omega) (by omega)) (cwV 1 hts gX4_where_X3_reachAt rfl rfl rfl (by decide +kernel) ⟨Nat.le_of_ble_eq_true rfl, Nat.le_of_ble_eq_true rfl⟩) K hG t1k1 rfl rfl rfl hl.1 rfl (Nat.le_of_ble_eq_true rfl) dX4_where_24 ⟨Nat.le_of_ble_eq_true rfl, Nat.le_of_ble_eq_true rfl⟩) hS (fun H locs hG hS => ?_)
      refine W.eq (g2 := F0 m 27 ls [.ref (ad 3 t.toNat u.toNat)]) rfl ?_
      have hG : mG D b M s H := hG
      refine lv_astore (lv' := [(5, .ref (ad 3 t.toNat u.toNat)), (4, .ref (ad 0 t.toNat 0)), (0, .ref (ad 8 0 0)), (1, .int (iI t)), (2, .int (iI u)), (3, .int (iI w))]) hx hb dX4_where_27 hl (by decide) rfl (fun ls hl => ?_)
      refine lv_iload_n hx hb dX4_where_29 rfl (lv_at hl 5 rfl) ?_
      rcases (show (w < 0 ∨ 4 < w) ∨ w = 0 ∨ w = 1 ∨ w = 2 ∨ w = 3 ∨ w = 4 by omega) with hc30 | hc30 | hc30 | hc30 | hc30 | hc30
      · refine m_tabOut (tgt := 94) hx hb dX4_where_30 hrw (by omega) (by decide) ?_
        refine lv_iconst (v := iI (-1)) hx hb dX4_where_94 rfl ?_
        exact m_iret hx hb hr hlk hQ hG hS (Nat.le_of_ble_eq_true rfl) (Nat.le_of_ble_eq_true rfl) dX4_where_95 ⟨congrArg iI (by rw [if_pos (by omega)]; unfold whN; rw [if_neg (by omega), if_neg (by omega), if_neg (by omega), if_neg (by omega), if_neg (by omega)]), rfl⟩
      · refine m_tabIn (tgt := 64) (off := 34) hx hb dX4_where_30 hrw (by omega) (by omega) (by rw [hc30]; rfl) (by decide) ?_
        refine lv_aload hx hb dX4_where_64 (lv_at hl 0 rfl) ?_
        refine m_getN (ci := 0) (v := .int (iI ((stF (sp t.toNat) (vt t.toNat) (vw t.toNat) (vr t.toNat) (nn t.toNat).toNat) u.toNat 0))) (C := RX0) (T := TX0) (N := 4) hx hb hts (by decide +kernel) hown K hG (hBk1 u.toNat (by omega)) rfl 0 (by decide) K.2.2.1.1 rfl dX4_where_66 ?_
        exact m_iret hx hb hr hlk hQ hG hS (Nat.le_of_ble_eq_true rfl) (Nat.le_of_ble_eq_true rfl) dX4_where_69 ⟨congrArg iI (by rw [if_pos (by omega)]; unfold whN; rw [if_pos (by omega)]), rfl⟩
      · refine m_tabIn (tgt := 70) (off := 40) hx hb dX4_where_30 hrw (by omega) (by omega) (by rw [hc30]; rfl) (by decide) ?_
        refine lv_aload hx hb dX4_where_70 (lv_at hl 0 rfl) ?_
        refine m_getN (ci := 0) (v := .int (iI ((stF (sp t.toNat) (vt t.toNat) (vw t.toNat) (vr t.toNat) (nn t.toNat).toNat) u.toNat 1))) (C := RX0) (T := TX0) (N := 4) hx hb hts (by decide +kernel) hown K hG (hBk1 u.toNat (by omega)) rfl 1 (by decide) K.2.2.1.2.1 rfl dX4_where_72 ?_
        exact m_iret hx hb hr hlk hQ hG hS (Nat.le_of_ble_eq_true rfl) (Nat.le_of_ble_eq_true rfl) dX4_where_75 ⟨congrArg iI (by rw [if_pos (by omega)]; unfold whN; rw [if_neg (by omega), if_pos (by omega)]), rfl⟩
      · refine m_tabIn (tgt := 76) (off := 46) hx hb dX4_where_30 hrw (by omega) (by omega) (by rw [hc30]; rfl) (by decide) ?_
        refine lv_aload hx hb dX4_where_76 (lv_at hl 0 rfl) ?_
        refine m_getN (ci := 0) (v := .int (iI ((stF (sp t.toNat) (vt t.toNat) (vw t.toNat) (vr t.toNat) (nn t.toNat).toNat) u.toNat 2))) (C := RX0) (T := TX0) (N := 4) hx hb hts (by decide +kernel) hown K hG (hBk1 u.toNat (by omega)) rfl 2 (by decide) K.2.2.1.2.2.1 rfl dX4_where_78 ?_
        exact m_iret hx hb hr hlk hQ hG hS (Nat.le_of_ble_eq_true rfl) (Nat.le_of_ble_eq_true rfl) dX4_where_81 ⟨congrArg iI (by rw [if_pos (by omega)]; unfold whN; rw [if_neg (by omega), if_neg (by omega), if_pos (by omega)]), rfl⟩
      · refine m_tabIn (tgt := 82) (off := 52) hx hb dX4_where_30 hrw (by omega) (by omega) (by rw [hc30]; rfl) (by decide) ?_
        refine lv_aload hx hb dX4_where_82 (lv_at hl 0 rfl) ?_
        refine m_getN (ci := 0) (v := .int (iI ((stF (sp t.toNat) (vt t.toNat) (vw t.toNat) (vr t.toNat) (nn t.toNat).toNat) u.toNat 3))) (C := RX0) (T := TX0) (N := 4) hx hb hts (by decide +kernel) hown K hG (hBk1 u.toNat (by omega)) rfl 3 (by decide) K.2.2.1.2.2.2 rfl dX4_where_84 ?_
        exact m_iret hx hb hr hlk hQ hG hS (Nat.le_of_ble_eq_true rfl) (Nat.le_of_ble_eq_true rfl) dX4_where_87 ⟨congrArg iI (by rw [if_pos (by omega)]; unfold whN; rw [if_neg (by omega), if_neg (by omega), if_neg (by omega), if_pos (by omega)]), rfl⟩
      · refine m_tabIn (tgt := 88) (off := 58) hx hb dX4_where_30 hrw (by omega) (by omega) (by rw [hc30]; rfl) (by decide) ?_
        refine lv_aload hx hb dX4_where_88 (lv_at hl 0 rfl) ?_
        refine m_callfi (m_runV (a := ad 3 t.toNat u.toNat) (As := []) (rest := []) ⟨hx, hb, hml, hown, hts⟩ (c_X0_size l D b _ (ad 3 t.toNat u.toNat) ((stF (sp t.toNat) (vt t.toNat) (vw t.toNat) (vr t.toNat) (nn t.toNat).toNat) u.toNat 0) ((stF (sp t.toNat) (vt t.toNat) (vw t.toNat) (vr t.toNat) (nn t.toNat).toNat) u.toNat 1) ((stF (sp t.toNat) (vt t.toNat) (vw t.toNat) (vr t.toNat) (nn t.toNat).toNat) u.toNat 2) ((stF (sp t.toNat) (vt t.toNat) (vw t.toNat) (vr t.toNat) (nn t.toNat).toNat) u.toNat 3) (hBk1 u.toNat (by omega))) (cwV 0 hts gX4_where_X0_size rfl rfl rfl (by decide +kernel) ⟨Nat.le_of_ble_eq_true rfl, Nat.le_of_ble_eq_true rfl⟩) K hG (hBk1 u.toNat (by omega)) rfl rfl rfl hl.1 rfl (Nat.le_of_ble_eq_true rfl) dX4_where_90 ⟨Nat.le_of_ble_eq_true rfl, Nat.le_of_ble_eq_true rfl⟩) hS (fun H locs hG hS => ?_)
        have hG : mG D b M s H := hG
        exact m_iret hx hb hr hlk hQ hG hS (Nat.le_of_ble_eq_true rfl) (Nat.le_of_ble_eq_true rfl) dX4_where_93 ⟨congrArg iI (by rw [if_pos (by omega)]; unfold whN; rw [if_neg (by omega), if_neg (by omega), if_neg (by omega), if_neg (by omega), if_pos (by omega)]), rfl⟩
    · refine lv_iconst (v := iI (-1)) hx hb dX4_where_19 rfl ?_
      exact m_iret hx hb hr hlk hQ hG hS (Nat.le_of_ble_eq_true rfl) (Nat.le_of_ble_eq_true rfl) dX4_where_20 ⟨congrArg iI (by rw [if_neg (by omega)]), rfl⟩
  · refine m_callfq (m_runV (a := ad 8 0 0) (As := [.int (iI t)]) (rest := []) ⟨hx, hb, hml, hown, hts⟩ (c_X4_thingOf_n l D b _ ad nt ng sp nn jj vt vw vr G hO t hrt hqk1) (cwV 1 hts gX4_where_X4_thingOf rfl rfl rfl (by decide +kernel) ⟨Nat.le_of_ble_eq_true rfl, Nat.le_of_ble_eq_true rfl⟩) K hG o1 rfl rfl rfl hl.1 rfl (Nat.le_of_ble_eq_true rfl) dX4_where_2 ⟨Nat.le_of_ble_eq_true rfl, Nat.le_of_ble_eq_true rfl⟩) hS (fun H locs hG hS => ?_)
    refine W.eq (g2 := F0 m 5 ls [.null]) rfl ?_
    have hG : mG D b M s H := hG
    refine lv_astoreN (lv' := [(4, .null), (0, .ref (ad 8 0 0)), (1, .int (iI t)), (2, .int (iI u)), (3, .int (iI w))]) hx hb dX4_where_5 hl (by decide) rfl (fun ls hl => ?_)
    refine lv_aloadN hx hb dX4_where_7 (lv_at hl 0 rfl) ?_
    refine lv_ifnullN (tgt := 19) hx hb dX4_where_9 (by decide) ?_
    refine lv_iconst (v := iI (-1)) hx hb dX4_where_19 rfl ?_
    exact m_iret hx hb hr hlk hQ hG hS (Nat.le_of_ble_eq_true rfl) (Nat.le_of_ble_eq_true rfl) dX4_where_20 ⟨congrArg iI (by rw [if_neg (by omega)]), rfl⟩

set_option maxHeartbeats 4000000 in
set_option maxRecDepth 100000 in
theorem c_X4_has (l : Launch) (D : va_G) (b : Nat) (M : mM) (ad : Nat → Nat → Nat → Nat) (nt ng : Int) (sp nn jj : Nat → Int) (vt vw vr : Nat → Nat → Int) (G : Nat → Nat → Nat → Bool) (hO : OvOk M ad nt ng sp nn jj vt vw vr G) (t u : Int) (hrt : rg t) (hru : rg u) : Met l yX4_has wsX4_has ({ frames := 1, cells := 0, slots := 0, locals := 22 } : Room) (mPc [.ref (ad 8 0 0), .int (iI t), .int (iI u)] D b M) (mQi D b (fI (if (0 ≤ t ∧ t < ng) ∧ (0 ≤ u ∧ u < 4096) ∧ G t.toNat (u / 64).toNat (u % 64).toNat = true then 1 else 0) M)) 0 0 (mF b) := by
  refine m_met (cc := cX4_has) (maxL := 4) (ret := (some .boolean)) (by decide) rfl (Nat.le_of_ble_eq_true rfl) ?_
  intro p e s m args below meth c Q ls hx hb hml hr hts hown hlk hnm hQ K hG hS hl
  have hown : s.vm.findClass RX4 = some m.cls := hown
  have hl : lv_has ls 4 [(0, .ref (ad 8 0 0)), (1, .int (iI t)), (2, .int (iI u))] := hl
  obtain ⟨o1, ⟨tf0, o2, o3⟩, ⟨gf0, o4, o5⟩, oT, oG, ⟨SO, o6, o7⟩, oA, ⟨b1, b2, b3, b4⟩⟩ := id hO
  refine lv_aload_n hx hb dX4_has_0 rfl (lv_at hl 0 rfl) ?_
  refine lv_iload_n hx hb dX4_has_1 rfl (lv_at hl 1 rfl) ?_
  rcases Classical.em (0 ≤ t ∧ t < ng) with hqk1 | hqk1
  · obtain ⟨p1k1, p2k1⟩ := oG t.toNat (by omega)
    refine m_callfq (m_runV (a := ad 8 0 0) (As := [.int (iI t)]) (rest := []) ⟨hx, hb, hml, hown, hts⟩ (c_X4_groundOf_y l D b _ ad nt ng sp nn jj vt vw vr G hO t hrt hqk1) (cwV 1 hts gX4_has_X4_groundOf rfl rfl rfl (by decide +kernel) ⟨Nat.le_of_ble_eq_true rfl, Nat.le_of_ble_eq_true rfl⟩) K hG o1 rfl rfl rfl hl.1 rfl (Nat.le_of_ble_eq_true rfl) dX4_has_2 ⟨Nat.le_of_ble_eq_true rfl, Nat.le_of_ble_eq_true rfl⟩) hS (fun H locs hG hS => ?_)
    refine W.eq (g2 := F0 m 5 ls [.ref (ad 4 t.toNat 0)]) rfl ?_
    have hG : mG D b M s H := hG
    refine lv_astore_n (lv' := [(3, .ref (ad 4 t.toNat 0)), (0, .ref (ad 8 0 0)), (1, .int (iI t)), (2, .int (iI u))]) hx hb dX4_has_5 rfl hl (by decide) rfl (fun ls hl => ?_)
    refine lv_aload_n hx hb dX4_has_6 rfl (lv_at hl 0 rfl) ?_
    refine lv_ifnull hx hb dX4_has_7 ?_
    refine lv_iload_n hx hb dX4_has_10 rfl (lv_at hl 3 rfl) ?_
    refine m_callfi (m_runS (As := [.int (iI u)]) (rest := []) ⟨hx, hb, hml, hown, hts⟩ (c_X4_isPlace l D b _ u hru) (va_cwS 1 hts gX4_has_X4_isPlace rfl rfl rfl (by decide +kernel) ⟨Nat.le_of_ble_eq_true rfl, Nat.le_of_ble_eq_true rfl⟩) K hG rfl hl.1 rfl (Nat.le_of_ble_eq_true rfl) dX4_has_11 ⟨Nat.le_of_ble_eq_true rfl, Nat.le_of_ble_eq_true rfl⟩) hS (fun H locs hG hS => ?_)
    have hG : mG D b M s H := hG
    refine m_ifb_eq (tgt := 36) hx hb dX4_has_14 (by decide) (fun c14 => ?_) (fun c14 => ?_)
    · refine lv_iconst (v := iI 0) hx hb dX4_has_36 rfl ?_
      exact m_zret hx hb hr hlk hQ hG hS (Nat.le_of_ble_eq_true rfl) (Nat.le_of_ble_eq_true rfl) dX4_has_37 (Or.inl rfl) ⟨congrArg iI (by first | rw [if_neg (fun z => by omega)] | rw [if_neg (fun z => c29 z.2.2)] | rw [if_pos ⟨by omega, by omega, c29⟩]), rfl⟩
    · refine lv_aload_n hx hb dX4_has_17 rfl (lv_at hl 0 rfl) ?_
      refine lv_iload_n hx hb dX4_has_18 rfl (lv_at hl 3 rfl) ?_
      refine m_callfi (m_runS (As := [.int (iI u)]) (rest := [.ref (ad 4 t.toNat 0)]) ⟨hx, hb, hml, hown, hts⟩ (c_X4_xOf l D b _ u (by omega) (by omega)) (va_cwS 1 hts gX4_has_X4_xOf rfl rfl rfl (by decide +kernel) ⟨Nat.le_of_ble_eq_true rfl, Nat.le_of_ble_eq_true rfl⟩) K hG rfl hl.1 rfl (Nat.le_of_ble_eq_true rfl) dX4_has_19 ⟨Nat.le_of_ble_eq_true rfl, Nat.le_of_ble_eq_true rfl⟩) hS (fun H locs hG hS => ?_)
      have hG : mG D b M s H := hG
      refine lv_iload_n hx hb dX4_has_22 rfl (lv_at hl 3 rfl) ?_
      refine m_callfi (m_runS (As := [.int (iI u)]) (rest := [.int (iI (u / 64)), .ref (ad 4 t.toNat 0)]) ⟨hx, hb, hml, hown, hts⟩ (c_X4_yOf l D b _ u (by omega) (by omega)) (va_cwS 1 hts gX4_has_X4_yOf rfl rfl rfl (by decide +kernel) ⟨Nat.le_of_ble_eq_true rfl, Nat.le_of_ble_eq_true rfl⟩) K hG rfl hl.1 rfl (Nat.le_of_ble_eq_true rfl) dX4_has_23 ⟨Nat.le_of_ble_eq_true rfl, Nat.le_of_ble_eq_true rfl⟩) hS (fun H locs hG hS => ?_)
      have hG : mG D b M s H := hG
      refine m_callfi (m_runV (a := ad 4 t.toNat 0) (As := [.int (iI (u / 64)), .int (iI (u % 64))]) (rest := []) ⟨hx, hb, hml, hown, hts⟩ (c_X1_holds l D b _ (ad 4 t.toNat 0) (ad 5 t.toNat 0) (G t.toNat) p1k1 p2k1 (u / 64) (u % 64) (by omega) (by omega) (by omega) (by omega)) (cwV 2 hts gX4_has_X1_holds rfl rfl rfl (by decide +kernel) ⟨Nat.le_of_ble_eq_true rfl, Nat.le_of_ble_eq_true rfl⟩) K hG p1k1 rfl rfl rfl hl.1 rfl (Nat.le_of_ble_eq_true rfl) dX4_has_26 ⟨Nat.le_of_ble_eq_true rfl, Nat.le_of_ble_eq_true rfl⟩) hS (fun H locs hG hS => ?_)
      have hG : mG D b M s H := hG
      refine m_ifb_eq (tgt := 36) hx hb dX4_has_29 (by decide) (fun c29 => ?_) (fun c29 => ?_)
      · refine lv_iconst (v := iI 0) hx hb dX4_has_36 rfl ?_
        exact m_zret hx hb hr hlk hQ hG hS (Nat.le_of_ble_eq_true rfl) (Nat.le_of_ble_eq_true rfl) dX4_has_37 (Or.inl rfl) ⟨congrArg iI (by first | rw [if_neg (fun z => by omega)] | rw [if_neg (fun z => c29 z.2.2)] | rw [if_pos ⟨by omega, by omega, c29⟩]), rfl⟩
      · refine lv_iconst (v := iI 1) hx hb dX4_has_32 rfl ?_
        refine lv_goto (tgt := 37) hx hb dX4_has_33 (by decide) ?_
        exact m_zret hx hb hr hlk hQ hG hS (Nat.le_of_ble_eq_true rfl) (Nat.le_of_ble_eq_true rfl) dX4_has_37 (Or.inr rfl) ⟨congrArg iI (by first | rw [if_neg (fun z => by omega)] | rw [if_neg (fun z => c29 z.2.2)] | rw [if_pos ⟨by omega, by omega, c29⟩]), rfl⟩
  · refine m_callfq (m_runV (a := ad 8 0 0) (As := [.int (iI t)]) (rest := []) ⟨hx, hb, hml, hown, hts⟩ (c_X4_groundOf_n l D b _ ad nt ng sp nn jj vt vw vr G hO t hrt hqk1) (cwV 1 hts gX4_has_X4_groundOf rfl rfl rfl (by decide +kernel) ⟨Nat.le_of_ble_eq_true rfl, Nat.le_of_ble_eq_true rfl⟩) K hG o1 rfl rfl rfl hl.1 rfl (Nat.le_of_ble_eq_true rfl) dX4_has_2 ⟨Nat.le_of_ble_eq_true rfl, Nat.le_of_ble_eq_true rfl⟩) hS (fun H locs hG hS => ?_)
    refine W.eq (g2 := F0 m 5 ls [.null]) rfl ?_
    have hG : mG D b M s H := hG
    refine lv_astore_nN (lv' := [(3, .null), (0, .ref (ad 8 0 0)), (1, .int (iI t)), (2, .int (iI u))]) hx hb dX4_has_5 rfl hl (by decide) rfl (fun ls hl => ?_)
    refine lv_aload_nN hx hb dX4_has_6 rfl (lv_at hl 0 rfl) ?_
    refine lv_ifnullN (tgt := 36) hx hb dX4_has_7 (by decide) ?_
    refine lv_iconst (v := iI 0) hx hb dX4_has_36 rfl ?_
    exact m_zret hx hb hr hlk hQ hG hS (Nat.le_of_ble_eq_true rfl) (Nat.le_of_ble_eq_true rfl) dX4_has_37 (Or.inl rfl) ⟨congrArg iI (by first | rw [if_neg (fun z => by omega)] | rw [if_neg (fun z => c29 z.2.2)] | rw [if_pos ⟨by omega, by omega, c29⟩]), rfl⟩

set_option maxHeartbeats 4000000 in
set_option maxRecDepth 100000 in
theorem c_X4_state (l : Launch) (D : va_G) (b : Nat) (M : mM) (ad : Nat → Nat → Nat → Nat) (nt ng : Int) (sp nn jj : Nat → Int) (vt vw vr : Nat → Nat → Int) (G : Nat → Nat → Nat → Bool) (hO : OvOk M ad nt ng sp nn jj vt vw vr G) (t v u : Int) (hrt : rg t) (hrv : rg v) (hru : rg u) : Met l yX4_state wsX4_state ({ frames := 3, cells := 0, slots := 0, locals := 67 } : Room) (mPc [.ref (ad 8 0 0), .int (iI t), .int (iI v), .int (iI u)] D b M) (mQi D b (fI (if (0 ≤ t ∧ t < nt) ∧ (0 ≤ v ∧ v < ng) ∧ (0 ≤ u ∧ u < 80) then stN (G v.toNat) (stF (sp t.toNat) (vt t.toNat) (vw t.toNat) (vr t.toNat) (nn t.toNat).toNat) u.toNat else -1) M)) 0 0 (mF b) := by
  refine m_met (cc := cX4_state) (maxL := 6) (ret := (some .int)) (by decide) rfl (Nat.le_of_ble_eq_true rfl) ?_
  intro p e s m args below meth c Q ls hx hb hml hr hts hown hlk hnm hQ K hG hS hl
  have hown : s.vm.findClass RX4 = some m.cls := hown
  have hl : lv_has ls 6 [(0, .ref (ad 8 0 0)), (1, .int (iI t)), (2, .int (iI v)), (3, .int (iI u))] := hl
  obtain ⟨o1, ⟨tf0, o2, o3⟩, ⟨gf0, o4, o5⟩, oT, oG, ⟨SO, o6, o7⟩, oA, ⟨b1, b2, b3, b4⟩⟩ := id hO
  refine lv_aload_n hx hb dX4_state_0 rfl (lv_at hl 0 rfl) ?_
  refine lv_iload_n hx hb dX4_state_1 rfl (lv_at hl 1 rfl) ?_
  rcases Classical.em (0 ≤ t ∧ t < nt) with hqk1 | hqk1
  · obtain ⟨⟨rfk1, hTk1⟩, ⟨hs0k1, hs1k1⟩, ⟨hn0k1, hn1k1⟩, sok1, nek1⟩ := oT t.toNat (by omega)
    have hRk1 : in63 (stF (sp t.toNat) (vt t.toNat) (vw t.toNat) (vr t.toNat) (nn t.toNat).toNat) := stF_rg hs0k1 (fun k hk => (sok1 k (by omega)).2)
    obtain ⟨t1k1, t2k1, t3k1, t4k1, t5k1, t6k1, hBk1, -, -⟩ := id hTk1
    refine m_callfq (m_runV (a := ad 8 0 0) (As := [.int (iI t)]) (rest := []) ⟨hx, hb, hml, hown, hts⟩ (c_X4_thingOf_y l D b _ ad nt ng sp nn jj vt vw vr G hO t hrt hqk1) (cwV 1 hts gX4_state_X4_thingOf rfl rfl rfl (by decide +kernel) ⟨Nat.le_of_ble_eq_true rfl, Nat.le_of_ble_eq_true rfl⟩) K hG o1 rfl rfl rfl hl.1 rfl (Nat.le_of_ble_eq_true rfl) dX4_state_2 ⟨Nat.le_of_ble_eq_true rfl, Nat.le_of_ble_eq_true rfl⟩) hS (fun H locs hG hS => ?_)
    refine W.eq (g2 := F0 m 5 ls [.ref (ad 0 t.toNat 0)]) rfl ?_
    have hG : mG D b M s H := hG
    refine lv_astore (lv' := [(4, .ref (ad 0 t.toNat 0)), (0, .ref (ad 8 0 0)), (1, .int (iI t)), (2, .int (iI v)), (3, .int (iI u))]) hx hb dX4_state_5 hl (by decide) rfl (fun ls hl => ?_)
    refine lv_aload_n hx hb dX4_state_7 rfl (lv_at hl 1 rfl) ?_
    refine lv_iload_n hx hb dX4_state_8 rfl (lv_at hl 3 rfl) ?_
    rcases Classical.em (0 ≤ v ∧ v < ng) with hqk2 | hqk2
    · obtain ⟨p1k2, p2k2⟩ := oG v.toNat (by omega)
      refine m_callfq (m_runV (a := ad 8 0 0) (As := [.int (iI v)]) (rest := []) ⟨hx, hb, hml, hown, hts⟩ (c_X4_groundOf_y l D b _ ad nt ng sp nn jj vt vw vr G hO v hrv hqk2) (cwV 1 hts gX4_state_X4_groundOf rfl rfl rfl (by decide +kernel) ⟨Nat.le_of_ble_eq_true rfl, Nat.le_of_ble_eq_true rfl⟩) K hG o1 rfl rfl rfl hl.1 rfl (Nat.le_of_ble_eq_true rfl) dX4_state_9 ⟨Nat.le_of_ble_eq_true rfl, Nat.le_of_ble_eq_true rfl⟩) hS (fun H locs hG hS => ?_)
      refine W.eq (g2 := F0 m 12 ls [.ref (ad 4 v.toNat 0)]) rfl ?_
      have hG : mG D b M s H := hG
      refine lv_astore (lv' := [(5, .ref (ad 4 v.toNat 0)), (4, .ref (ad 0 t.toNat 0)), (0, .ref (ad 8 0 0)), (1, .int (iI t)), (2, .int (iI v)), (3, .int (iI u))]) hx hb dX4_state_12 hl (by decide) rfl (fun ls hl => ?_)
      refine lv_aload hx hb dX4_state_14 (lv_at hl 1 rfl) ?_
      refine lv_ifnull hx hb dX4_state_16 ?_
      refine lv_aload hx hb dX4_state_19 (lv_at hl 0 rfl) ?_
      refine lv_ifnull hx hb dX4_state_21 ?_
      refine lv_iload_n hx hb dX4_state_24 rfl (lv_at hl 5 rfl) ?_
      refine m_callfi (m_runS (As := [.int (iI u)]) (rest := []) ⟨hx, hb, hml, hown, hts⟩ (c_X4_isTick l D b _ u hru) (va_cwS 1 hts gX4_state_X4_isTick rfl rfl rfl (by decide +kernel) ⟨Nat.le_of_ble_eq_true rfl, Nat.le_of_ble_eq_true rfl⟩) K hG rfl hl.1 rfl (Nat.le_of_ble_eq_true rfl) dX4_state_25 ⟨Nat.le_of_ble_eq_true rfl, Nat.le_of_ble_eq_true rfl⟩) hS (fun H locs hG hS => ?_)
      have hG : mG D b M s H := hG
      refine m_ifb_ne (tgt := 33) hx hb dX4_state_28 (by decide) (fun c28 => ?_) (fun c28 => ?_)
      · refine lv_aload hx hb dX4_state_33 (lv_at hl 1 rfl) ?_
        refine lv_aload hx hb dX4_state_35 (lv_at hl 0 rfl) ?_
        refine lv_iload_n hx hb dX4_state_37 rfl (lv_at hl 5 rfl) ?_
        refine m_callfi (m_runS (As := [.ref (ad 0 t.toNat 0), .ref (ad 4 v.toNat 0), .int (iI u)]) (rest := []) ⟨hx, hb, hml, hown, hts⟩ (c_X4_stateOf l D b _ (ad 0 t.toNat 0) (ad 1 t.toNat 0) (ad 1 t.toNat 1) (ad 1 t.toNat 2) (ad 2 t.toNat 0) rfk1 (ad 3 t.toNat) (sp t.toNat) (nn t.toNat) (jj t.toNat) (vt t.toNat) (vw t.toNat) (vr t.toNat) (stF (sp t.toNat) (vt t.toNat) (vw t.toNat) (vr t.toNat) (nn t.toNat).toNat) hTk1 (ad 4 v.toNat 0) (ad 5 v.toNat 0) (G v.toNat) p1k2 p2k2 u (by omega) (by omega) hRk1 (nek1 _ (by omega))) (va_cwS 3 hts gX4_state_X4_stateOf rfl rfl rfl (by decide +kernel) ⟨Nat.le_of_ble_eq_true rfl, Nat.le_of_ble_eq_true rfl⟩) K hG rfl hl.1 rfl (Nat.le_of_ble_eq_true rfl) dX4_state_38 ⟨Nat.le_of_ble_eq_true rfl, Nat.le_of_ble_eq_true rfl⟩) hS (fun H locs hG hS => ?_)
        have hG : mG D b M s H := hG
        exact m_iret hx hb hr hlk hQ hG hS (Nat.le_of_ble_eq_true rfl) (Nat.le_of_ble_eq_true rfl) dX4_state_41 ⟨congrArg iI (by rw [if_pos (by omega)]), rfl⟩
      · refine lv_iconst (v := iI (-1)) hx hb dX4_state_31 rfl ?_
        exact m_iret hx hb hr hlk hQ hG hS (Nat.le_of_ble_eq_true rfl) (Nat.le_of_ble_eq_true rfl) dX4_state_32 ⟨congrArg iI (by rw [if_neg (by omega)]), rfl⟩
    · refine m_callfq (m_runV (a := ad 8 0 0) (As := [.int (iI v)]) (rest := []) ⟨hx, hb, hml, hown, hts⟩ (c_X4_groundOf_n l D b _ ad nt ng sp nn jj vt vw vr G hO v hrv hqk2) (cwV 1 hts gX4_state_X4_groundOf rfl rfl rfl (by decide +kernel) ⟨Nat.le_of_ble_eq_true rfl, Nat.le_of_ble_eq_true rfl⟩) K hG o1 rfl rfl rfl hl.1 rfl (Nat.le_of_ble_eq_true rfl) dX4_state_9 ⟨Nat.le_of_ble_eq_true rfl, Nat.le_of_ble_eq_true rfl⟩) hS (fun H locs hG hS => ?_)
      refine W.eq (g2 := F0 m 12 ls [.null]) rfl ?_
      have hG : mG D b M s H := hG
      refine lv_astoreN (lv' := [(5, .null), (4, .ref (ad 0 t.toNat 0)), (0, .ref (ad 8 0 0)), (1, .int (iI t)), (2, .int (iI v)), (3, .int (iI u))]) hx hb dX4_state_12 hl (by decide) rfl (fun ls hl => ?_)
      refine lv_aload hx hb dX4_state_14 (lv_at hl 1 rfl) ?_
      refine lv_ifnull hx hb dX4_state_16 ?_
      refine lv_aloadN hx hb dX4_state_19 (lv_at hl 0 rfl) ?_
      refine lv_ifnullN (tgt := 31) hx hb dX4_state_21 (by decide) ?_
      refine lv_iconst (v := iI (-1)) hx hb dX4_state_31 rfl ?_
      exact m_iret hx hb hr hlk hQ hG hS (Nat.le_of_ble_eq_true rfl) (Nat.le_of_ble_eq_true rfl) dX4_state_32 ⟨congrArg iI (by rw [if_neg (by omega)]), rfl⟩
  · refine m_callfq (m_runV (a := ad 8 0 0) (As := [.int (iI t)]) (rest := []) ⟨hx, hb, hml, hown, hts⟩ (c_X4_thingOf_n l D b _ ad nt ng sp nn jj vt vw vr G hO t hrt hqk1) (cwV 1 hts gX4_state_X4_thingOf rfl rfl rfl (by decide +kernel) ⟨Nat.le_of_ble_eq_true rfl, Nat.le_of_ble_eq_true rfl⟩) K hG o1 rfl rfl rfl hl.1 rfl (Nat.le_of_ble_eq_true rfl) dX4_state_2 ⟨Nat.le_of_ble_eq_true rfl, Nat.le_of_ble_eq_true rfl⟩) hS (fun H locs hG hS => ?_)
    refine W.eq (g2 := F0 m 5 ls [.null]) rfl ?_
    have hG : mG D b M s H := hG
    refine lv_astoreN (lv' := [(4, .null), (0, .ref (ad 8 0 0)), (1, .int (iI t)), (2, .int (iI v)), (3, .int (iI u))]) hx hb dX4_state_5 hl (by decide) rfl (fun ls hl => ?_)
    refine lv_aload_n hx hb dX4_state_7 rfl (lv_at hl 1 rfl) ?_
    refine lv_iload_n hx hb dX4_state_8 rfl (lv_at hl 3 rfl) ?_
    rcases Classical.em (0 ≤ v ∧ v < ng) with hqk3 | hqk3
    · obtain ⟨p1k3, p2k3⟩ := oG v.toNat (by omega)
      refine m_callfq (m_runV (a := ad 8 0 0) (As := [.int (iI v)]) (rest := []) ⟨hx, hb, hml, hown, hts⟩ (c_X4_groundOf_y l D b _ ad nt ng sp nn jj vt vw vr G hO v hrv hqk3) (cwV 1 hts gX4_state_X4_groundOf rfl rfl rfl (by decide +kernel) ⟨Nat.le_of_ble_eq_true rfl, Nat.le_of_ble_eq_true rfl⟩) K hG o1 rfl rfl rfl hl.1 rfl (Nat.le_of_ble_eq_true rfl) dX4_state_9 ⟨Nat.le_of_ble_eq_true rfl, Nat.le_of_ble_eq_true rfl⟩) hS (fun H locs hG hS => ?_)
      refine W.eq (g2 := F0 m 12 ls [.ref (ad 4 v.toNat 0)]) rfl ?_
      have hG : mG D b M s H := hG
      refine lv_astore (lv' := [(5, .ref (ad 4 v.toNat 0)), (4, .null), (0, .ref (ad 8 0 0)), (1, .int (iI t)), (2, .int (iI v)), (3, .int (iI u))]) hx hb dX4_state_12 hl (by decide) rfl (fun ls hl => ?_)
      refine lv_aloadN hx hb dX4_state_14 (lv_at hl 1 rfl) ?_
      refine lv_ifnullN (tgt := 31) hx hb dX4_state_16 (by decide) ?_
      refine lv_iconst (v := iI (-1)) hx hb dX4_state_31 rfl ?_
      exact m_iret hx hb hr hlk hQ hG hS (Nat.le_of_ble_eq_true rfl) (Nat.le_of_ble_eq_true rfl) dX4_state_32 ⟨congrArg iI (by rw [if_neg (by omega)]), rfl⟩
    · refine m_callfq (m_runV (a := ad 8 0 0) (As := [.int (iI v)]) (rest := []) ⟨hx, hb, hml, hown, hts⟩ (c_X4_groundOf_n l D b _ ad nt ng sp nn jj vt vw vr G hO v hrv hqk3) (cwV 1 hts gX4_state_X4_groundOf rfl rfl rfl (by decide +kernel) ⟨Nat.le_of_ble_eq_true rfl, Nat.le_of_ble_eq_true rfl⟩) K hG o1 rfl rfl rfl hl.1 rfl (Nat.le_of_ble_eq_true rfl) dX4_state_9 ⟨Nat.le_of_ble_eq_true rfl, Nat.le_of_ble_eq_true rfl⟩) hS (fun H locs hG hS => ?_)
      refine W.eq (g2 := F0 m 12 ls [.null]) rfl ?_
      have hG : mG D b M s H := hG
      refine lv_astoreN (lv' := [(5, .null), (4, .null), (0, .ref (ad 8 0 0)), (1, .int (iI t)), (2, .int (iI v)), (3, .int (iI u))]) hx hb dX4_state_12 hl (by decide) rfl (fun ls hl => ?_)
      refine lv_aloadN hx hb dX4_state_14 (lv_at hl 1 rfl) ?_
      refine lv_ifnullN (tgt := 31) hx hb dX4_state_16 (by decide) ?_
      refine lv_iconst (v := iI (-1)) hx hb dX4_state_31 rfl ?_
      exact m_iret hx hb hr hlk hQ hG hS (Nat.le_of_ble_eq_true rfl) (Nat.le_of_ble_eq_true rfl) dX4_state_32 ⟨congrArg iI (by rw [if_neg (by omega)]), rfl⟩

/-- LOOK, n ticks before the end -/
noncomputable def lkN (S : Nat → Nat → Bool) (F : Nat → Nat → Int) (w : Int) : Nat → Int
  | 0 => 79
  | n + 1 => if stN S F (79 - n) ≠ 0 then min (((79 - n : Nat) : Int) + w) 79 else lkN S F w n
set_option maxHeartbeats 4000000 in
set_option maxRecDepth 100000 in
theorem c_X4_look (l : Launch) (D : va_G) (b : Nat) (M : mM) (ad : Nat → Nat → Nat → Nat) (nt ng : Int) (sp nn jj : Nat → Int) (vt vw vr : Nat → Nat → Int) (G : Nat → Nat → Nat → Bool) (hO : OvOk M ad nt ng sp nn jj vt vw vr G) (t v u w : Int) (hrt : rg t) (hrv : rg v) (hru : rg u) (hrw : rg w) : Met l yX4_look wsX4_look ({ frames := 3, cells := 0, slots := 0, locals := 67 } : Room) (mPc [.ref (ad 8 0 0), .int (iI t), .int (iI v), .int (iI u), .int (iI w)] D b M) (mQi D b (fI (if ((0 ≤ t ∧ t < nt) ∧ (0 ≤ v ∧ v < ng) ∧ (0 ≤ u ∧ u < 80)) ∧ (0 ≤ w ∧ w ≤ 79) ∧ stN (G v.toNat) (stF (sp t.toNat) (vt t.toNat) (vw t.toNat) (vr t.toNat) (nn t.toNat).toNat) u.toNat = 0 then lkN (G v.toNat) (stF (sp t.toNat) (vt t.toNat) (vw t.toNat) (vr t.toNat) (nn t.toNat).toNat) w (79 - u).toNat else -1) M)) 0 0 (mF b) := by
  refine m_met (cc := cX4_look) (maxL := 8) (ret := (some .int)) (by decide) rfl (Nat.le_of_ble_eq_true rfl) ?_
  intro p e s m args below meth c Q ls hx hb hml hr hts hown hlk hnm hQ K hG hS hl
  have hown : s.vm.findClass RX4 = some m.cls := hown
  have hl : lv_has ls 8 [(0, .ref (ad 8 0 0)), (1, .int (iI t)), (2, .int (iI v)), (3, .int (iI u)), (4, .int (iI w))] := hl
  obtain ⟨o1, ⟨tf0, o2, o3⟩, ⟨gf0, o4, o5⟩, oT, oG, ⟨SO, o6, o7⟩, oA, ⟨b1, b2, b3, b4⟩⟩ := id hO
  refine lv_aload_n hx hb dX4_look_0 rfl (lv_at hl 0 rfl) ?_
  refine lv_iload_n hx hb dX4_look_1 rfl (lv_at hl 1 rfl) ?_
  rcases Classical.em (0 ≤ t ∧ t < nt) with hqk1 | hqk1
  · obtain ⟨⟨rfk1, hTk1⟩, ⟨hs0k1, hs1k1⟩, ⟨hn0k1, hn1k1⟩, sok1, nek1⟩ := oT t.toNat (by omega)
    have hRk1 : in63 (stF (sp t.toNat) (vt t.toNat) (vw t.toNat) (vr t.toNat) (nn t.toNat).toNat) := stF_rg hs0k1 (fun k hk => (sok1 k (by omega)).2)
    obtain ⟨t1k1, t2k1, t3k1, t4k1, t5k1, t6k1, hBk1, -, -⟩ := id hTk1
    refine m_callfq (m_runV (a := ad 8 0 0) (As := [.int (iI t)]) (rest := []) ⟨hx, hb, hml, hown, hts⟩ (c_X4_thingOf_y l D b _ ad nt ng sp nn jj vt vw vr G hO t hrt hqk1) (cwV 1 hts gX4_look_X4_thingOf rfl rfl rfl (by decide +kernel) ⟨Nat.le_of_ble_eq_true rfl, Nat.le_of_ble_eq_true rfl⟩) K hG o1 rfl rfl rfl hl.1 rfl (Nat.le_of_ble_eq_true rfl) dX4_look_2 ⟨Nat.le_of_ble_eq_true rfl, Nat.le_of_ble_eq_true rfl⟩) hS (fun H locs hG hS => ?_)
    refine W.eq (g2 := F0 m 5 ls [.ref (ad 0 t.toNat 0)]) rfl ?_
    have hG : mG D b M s H := hG
    refine lv_astore (lv' := [(5, .ref (ad 0 t.toNat 0)), (0, .ref (ad 8 0 0)), (1, .int (iI t)), (2, .int (iI v)), (3, .int (iI u)), (4, .int (iI w))]) hx hb dX4_look_5 hl (by decide) rfl (fun ls hl => ?_)
    refine lv_aload_n hx hb dX4_look_7 rfl (lv_at hl 1 rfl) ?_
    refine lv_iload_n hx hb dX4_look_8 rfl (lv_at hl 3 rfl) ?_
    rcases Classical.em (0 ≤ v ∧ v < ng) with hqk2 | hqk2
    · obtain ⟨p1k2, p2k2⟩ := oG v.toNat (by omega)
      refine m_callfq (m_runV (a := ad 8 0 0) (As := [.int (iI v)]) (rest := []) ⟨hx, hb, hml, hown, hts⟩ (c_X4_groundOf_y l D b _ ad nt ng sp nn jj vt vw vr G hO v hrv hqk2) (cwV 1 hts gX4_look_X4_groundOf rfl rfl rfl (by decide +kernel) ⟨Nat.le_of_ble_eq_true rfl, Nat.le_of_ble_eq_true rfl⟩) K hG o1 rfl rfl rfl hl.1 rfl (Nat.le_of_ble_eq_true rfl) dX4_look_9 ⟨Nat.le_of_ble_eq_true rfl, Nat.le_of_ble_eq_true rfl⟩) hS (fun H locs hG hS => ?_)
      refine W.eq (g2 := F0 m 12 ls [.ref (ad 4 v.toNat 0)]) rfl ?_
      have hG : mG D b M s H := hG
      refine lv_astore (lv' := [(6, .ref (ad 4 v.toNat 0)), (5, .ref (ad 0 t.toNat 0)), (0, .ref (ad 8 0 0)), (1, .int (iI t)), (2, .int (iI v)), (3, .int (iI u)), (4, .int (iI w))]) hx hb dX4_look_12 hl (by decide) rfl (fun ls hl => ?_)
      refine lv_aload hx hb dX4_look_14 (lv_at hl 1 rfl) ?_
      refine lv_ifnull hx hb dX4_look_16 ?_
      refine lv_aload hx hb dX4_look_19 (lv_at hl 0 rfl) ?_
      refine lv_ifnull hx hb dX4_look_21 ?_
      refine lv_iload_n hx hb dX4_look_24 rfl (lv_at hl 5 rfl) ?_
      refine m_callfi (m_runS (As := [.int (iI u)]) (rest := []) ⟨hx, hb, hml, hown, hts⟩ (c_X4_isTick l D b _ u hru) (va_cwS 1 hts gX4_look_X4_isTick rfl rfl rfl (by decide +kernel) ⟨Nat.le_of_ble_eq_true rfl, Nat.le_of_ble_eq_true rfl⟩) K hG rfl hl.1 rfl (Nat.le_of_ble_eq_true rfl) dX4_look_25 ⟨Nat.le_of_ble_eq_true rfl, Nat.le_of_ble_eq_true rfl⟩) hS (fun H locs hG hS => ?_)
      have hG : mG D b M s H := hG
      refine m_ifb_ne (tgt := 33) hx hb dX4_look_28 (by decide) (fun c28 => ?_) (fun c28 => ?_)
      · refine lv_iload hx hb dX4_look_33 (lv_at hl 6 rfl) ?_
        refine m_if_lt (tgt := 56) hx hb dX4_look_35 (by decide) hrw (fun c35 => ?_) (fun c35 => ?_)
        · refine lv_iconst (v := iI (-1)) hx hb dX4_look_56 rfl ?_
          exact m_iret hx hb hr hlk hQ hG hS (Nat.le_of_ble_eq_true rfl) (Nat.le_of_ble_eq_true rfl) dX4_look_57 ⟨congrArg iI (by first | rw [if_neg (by omega)] | rw [if_neg (fun z => c53 z.2.2)]), rfl⟩
        · refine lv_iload hx hb dX4_look_38 (lv_at hl 6 rfl) ?_
          refine lv_bipush (v := iI 79) hx hb dX4_look_40 (by decide) ?_
          refine m_icmp_gt (tgt := 56) hx hb dX4_look_42 (by decide) hrw ⟨by omega, by omega⟩ (fun c42 => ?_) (fun c42 => ?_)
          · refine lv_iconst (v := iI (-1)) hx hb dX4_look_56 rfl ?_
            exact m_iret hx hb hr hlk hQ hG hS (Nat.le_of_ble_eq_true rfl) (Nat.le_of_ble_eq_true rfl) dX4_look_57 ⟨congrArg iI (by first | rw [if_neg (by omega)] | rw [if_neg (fun z => c53 z.2.2)]), rfl⟩
          · refine lv_aload hx hb dX4_look_45 (lv_at hl 1 rfl) ?_
            refine lv_aload hx hb dX4_look_47 (lv_at hl 0 rfl) ?_
            refine lv_iload_n hx hb dX4_look_49 rfl (lv_at hl 5 rfl) ?_
            refine m_callfi (m_runS (As := [.ref (ad 0 t.toNat 0), .ref (ad 4 v.toNat 0), .int (iI u)]) (rest := []) ⟨hx, hb, hml, hown, hts⟩ (c_X4_stateOf l D b _ (ad 0 t.toNat 0) (ad 1 t.toNat 0) (ad 1 t.toNat 1) (ad 1 t.toNat 2) (ad 2 t.toNat 0) rfk1 (ad 3 t.toNat) (sp t.toNat) (nn t.toNat) (jj t.toNat) (vt t.toNat) (vw t.toNat) (vr t.toNat) (stF (sp t.toNat) (vt t.toNat) (vw t.toNat) (vr t.toNat) (nn t.toNat).toNat) hTk1 (ad 4 v.toNat 0) (ad 5 v.toNat 0) (G v.toNat) p1k2 p2k2 u (by omega) (by omega) hRk1 (nek1 _ (by omega))) (va_cwS 3 hts gX4_look_X4_stateOf rfl rfl rfl (by decide +kernel) ⟨Nat.le_of_ble_eq_true rfl, Nat.le_of_ble_eq_true rfl⟩) K hG rfl hl.1 rfl (Nat.le_of_ble_eq_true rfl) dX4_look_50 ⟨Nat.le_of_ble_eq_true rfl, Nat.le_of_ble_eq_true rfl⟩) hS (fun H locs hG hS => ?_)
            have hG : mG D b M s H := hG
            refine m_if_eq (tgt := 58) hx hb dX4_look_53 (by decide) ⟨by have := stN_rg (G v.toNat) (stF (sp t.toNat) (vt t.toNat) (vw t.toNat) (vr t.toNat) (nn t.toNat).toNat) u.toNat; omega, by have := stN_rg (G v.toNat) (stF (sp t.toNat) (vt t.toNat) (vw t.toNat) (vr t.toNat) (nn t.toNat).toNat) u.toNat; omega⟩ (fun c53 => ?_) (fun c53 => ?_)
            · refine lv_iload_n hx hb dX4_look_58 rfl (lv_at hl 5 rfl) ?_
              refine lv_iconst (v := iI 1) hx hb dX4_look_59 rfl ?_
              refine m_iadd hx hb dX4_look_60 ?_
              refine lv_istore (lv' := [(7, .int (iI (u + 1))), (6, .ref (ad 4 v.toNat 0)), (5, .ref (ad 0 t.toNat 0)), (0, .ref (ad 8 0 0)), (1, .int (iI t)), (2, .int (iI v)), (3, .int (iI u)), (4, .int (iI w))]) hx hb dX4_look_61 hl (by decide) rfl (fun ls hl => ?_)
              have loop63 : ∀ (fuel : Nat) (i : Int) (H : Heap) (locs : List Loc) (ls : Array Slot), (u + 1 ≤ i) → (i ≤ 80) → (lkN (G v.toNat) (stF (sp t.toNat) (vt t.toNat) (vw t.toNat) (vr t.toNat) (nn t.toNat).toNat) w (79 - u).toNat = lkN (G v.toNat) (stF (sp t.toNat) (vt t.toNat) (vw t.toNat) (vr t.toNat) (nn t.toNat).toNat) w (80 - i).toNat) → (80 - i).toNat < fuel → mG D b M s H → va_S (mF b) s.heap H locs → lv_has ls 8 [(7, .int (iI i)), (6, .ref (ad 4 v.toNat 0)), (5, .ref (ad 0 t.toNat 0)), (0, .ref (ad 8 0 0)), (1, .int (iI t)), (2, .int (iI v)), (3, .int (iI u)), (4, .int (iI w))] → W p l e ({ frames := 3, cells := 0, slots := 0, locals := 67 } : Room) s m args below meth c H locs 0 0 Q (F0 m 63 ls []) := by
                intro fuel
                induction fuel with
                | zero => intro i H locs ls hi0 hi1 hL hm; exact absurd hm (Nat.not_lt_zero _)
                | succ fuel ih63 =>
                  intro i H locs ls hi0 hi1 hL hm hG hS hl
                  refine lv_iload hx hb dX4_look_63 (lv_at hl 0 rfl) ?_
                  refine lv_bipush (v := iI 80) hx hb dX4_look_65 (by decide) ?_
                  refine m_icmp_ge (tgt := 99) hx hb dX4_look_67 (by decide) ⟨by omega, by omega⟩ ⟨by omega, by omega⟩ (fun c67 => ?_) (fun c67 => ?_)
                  · refine lv_bipush (v := iI 79) hx hb dX4_look_99 (by decide) ?_
                    exact m_iret hx hb hr hlk hQ hG hS (Nat.le_of_ble_eq_true rfl) (Nat.le_of_ble_eq_true rfl) dX4_look_101 ⟨congrArg iI (by rw [if_pos ⟨by omega, by omega, c53⟩, hL, show (80 - i).toNat = 0 by omega]; rfl), rfl⟩
                  · refine lv_aload hx hb dX4_look_70 (lv_at hl 2 rfl) ?_
                    refine lv_aload hx hb dX4_look_72 (lv_at hl 1 rfl) ?_
                    refine lv_iload hx hb dX4_look_74 (lv_at hl 0 rfl) ?_
                    refine m_callfi (m_runS (As := [.ref (ad 0 t.toNat 0), .ref (ad 4 v.toNat 0), .int (iI i)]) (rest := []) ⟨hx, hb, hml, hown, hts⟩ (c_X4_stateOf l D b _ (ad 0 t.toNat 0) (ad 1 t.toNat 0) (ad 1 t.toNat 1) (ad 1 t.toNat 2) (ad 2 t.toNat 0) rfk1 (ad 3 t.toNat) (sp t.toNat) (nn t.toNat) (jj t.toNat) (vt t.toNat) (vw t.toNat) (vr t.toNat) (stF (sp t.toNat) (vt t.toNat) (vw t.toNat) (vr t.toNat) (nn t.toNat).toNat) hTk1 (ad 4 v.toNat 0) (ad 5 v.toNat 0) (G v.toNat) p1k2 p2k2 i (by omega) (by omega) hRk1 (nek1 _ (by omega))) (va_cwS 3 hts gX4_look_X4_stateOf rfl rfl rfl (by decide +kernel) ⟨Nat.le_of_ble_eq_true rfl, Nat.le_of_ble_eq_true rfl⟩) K hG rfl hl.1 rfl (Nat.le_of_ble_eq_true rfl) dX4_look_76 ⟨Nat.le_of_ble_eq_true rfl, Nat.le_of_ble_eq_true rfl⟩) hS (fun H locs hG hS => ?_)
                    have hG : mG D b M s H := hG
                    refine m_if_eq (tgt := 93) hx hb dX4_look_79 (by decide) ⟨by have := stN_rg (G v.toNat) (stF (sp t.toNat) (vt t.toNat) (vw t.toNat) (vr t.toNat) (nn t.toNat).toNat) i.toNat; omega, by have := stN_rg (G v.toNat) (stF (sp t.toNat) (vt t.toNat) (vw t.toNat) (vr t.toNat) (nn t.toNat).toNat) i.toNat; omega⟩ (fun c79 => ?_) (fun c79 => ?_)
                    · refine m_iinc (lv' := [(7, .int (iI (i + 1))), (6, .ref (ad 4 v.toNat 0)), (5, .ref (ad 0 t.toNat 0)), (0, .ref (ad 8 0 0)), (1, .int (iI t)), (2, .int (iI v)), (3, .int (iI u)), (4, .int (iI w))]) (k := 0) hx hb dX4_look_93 hl rfl (by decide) rfl (fun ls hl => ?_)
                      refine lv_goto (tgt := 63) hx hb dX4_look_96 (by decide) ?_
                      exact ih63 (i + 1) _ _ _ (by omega) (by omega) (by rw [hL, show (80 - i).toNat = (80 - (i + 1)).toNat + 1 by omega, lkN, if_neg (by rw [show 79 - (80 - (i + 1)).toNat = i.toNat by omega]; exact fun z => z c79)]) (by omega) hG hS (lv_sub hl [0, 1, 2, 3, 4, 5, 6, 7] rfl)
                    · refine lv_iload hx hb dX4_look_82 (lv_at hl 0 rfl) ?_
                      refine lv_iload hx hb dX4_look_84 (lv_at hl 7 rfl) ?_
                      refine m_iadd hx hb dX4_look_86 ?_
                      refine lv_bipush (v := iI 79) hx hb dX4_look_87 (by decide) ?_
                      refine m_mmin hx hb (hml.trans hl.1.symm) hts hown (by decide +kernel) (by decide +kernel) (by decide +kernel) (by decide +kernel) (Nat.le_of_ble_eq_true rfl) (Nat.le_of_ble_eq_true rfl) (Nat.zero_le _) (Nat.zero_le _) ⟨by omega, by omega⟩ ⟨by omega, by omega⟩ dX4_look_89 ?_
                      exact m_iret hx hb hr hlk hQ hG hS (Nat.le_of_ble_eq_true rfl) (Nat.le_of_ble_eq_true rfl) dX4_look_92 ⟨congrArg iI (by rw [if_pos ⟨by omega, by omega, c53⟩, hL, show (80 - i).toNat = (79 - i).toNat + 1 by omega, lkN, show 79 - (79 - i).toNat = i.toNat by omega, if_pos c79]; omega), rfl⟩
              exact loop63 _ (u + 1) _ _ _ (by omega) (by omega) (by rw [show (80 - (u + 1)).toNat = (79 - u).toNat by omega]) (Nat.lt_succ_self _) hG hS (lv_sub hl [0, 1, 2, 3, 4, 5, 6, 7] rfl)
            · refine lv_iconst (v := iI (-1)) hx hb dX4_look_56 rfl ?_
              exact m_iret hx hb hr hlk hQ hG hS (Nat.le_of_ble_eq_true rfl) (Nat.le_of_ble_eq_true rfl) dX4_look_57 ⟨congrArg iI (by first | rw [if_neg (by omega)] | rw [if_neg (fun z => c53 z.2.2)]), rfl⟩
      · refine lv_iconst (v := iI (-1)) hx hb dX4_look_31 rfl ?_
        exact m_iret hx hb hr hlk hQ hG hS (Nat.le_of_ble_eq_true rfl) (Nat.le_of_ble_eq_true rfl) dX4_look_32 ⟨congrArg iI (by rw [if_neg (by omega)]), rfl⟩
    · refine m_callfq (m_runV (a := ad 8 0 0) (As := [.int (iI v)]) (rest := []) ⟨hx, hb, hml, hown, hts⟩ (c_X4_groundOf_n l D b _ ad nt ng sp nn jj vt vw vr G hO v hrv hqk2) (cwV 1 hts gX4_look_X4_groundOf rfl rfl rfl (by decide +kernel) ⟨Nat.le_of_ble_eq_true rfl, Nat.le_of_ble_eq_true rfl⟩) K hG o1 rfl rfl rfl hl.1 rfl (Nat.le_of_ble_eq_true rfl) dX4_look_9 ⟨Nat.le_of_ble_eq_true rfl, Nat.le_of_ble_eq_true rfl⟩) hS (fun H locs hG hS => ?_)
      refine W.eq (g2 := F0 m 12 ls [.null]) rfl ?_
      have hG : mG D b M s H := hG
      refine lv_astoreN (lv' := [(6, .null), (5, .ref (ad 0 t.toNat 0)), (0, .ref (ad 8 0 0)), (1, .int (iI t)), (2, .int (iI v)), (3, .int (iI u)), (4, .int (iI w))]) hx hb dX4_look_12 hl (by decide) rfl (fun ls hl => ?_)
      refine lv_aload hx hb dX4_look_14 (lv_at hl 1 rfl) ?_
      refine lv_ifnull hx hb dX4_look_16 ?_
      refine lv_aloadN hx hb dX4_look_19 (lv_at hl 0 rfl) ?_
      refine lv_ifnullN (tgt := 31) hx hb dX4_look_21 (by decide) ?_
      refine lv_iconst (v := iI (-1)) hx hb dX4_look_31 rfl ?_
      exact m_iret hx hb hr hlk hQ hG hS (Nat.le_of_ble_eq_true rfl) (Nat.le_of_ble_eq_true rfl) dX4_look_32 ⟨congrArg iI (by rw [if_neg (by omega)]), rfl⟩
  · refine m_callfq (m_runV (a := ad 8 0 0) (As := [.int (iI t)]) (rest := []) ⟨hx, hb, hml, hown, hts⟩ (c_X4_thingOf_n l D b _ ad nt ng sp nn jj vt vw vr G hO t hrt hqk1) (cwV 1 hts gX4_look_X4_thingOf rfl rfl rfl (by decide +kernel) ⟨Nat.le_of_ble_eq_true rfl, Nat.le_of_ble_eq_true rfl⟩) K hG o1 rfl rfl rfl hl.1 rfl (Nat.le_of_ble_eq_true rfl) dX4_look_2 ⟨Nat.le_of_ble_eq_true rfl, Nat.le_of_ble_eq_true rfl⟩) hS (fun H locs hG hS => ?_)
    refine W.eq (g2 := F0 m 5 ls [.null]) rfl ?_
    have hG : mG D b M s H := hG
    refine lv_astoreN (lv' := [(5, .null), (0, .ref (ad 8 0 0)), (1, .int (iI t)), (2, .int (iI v)), (3, .int (iI u)), (4, .int (iI w))]) hx hb dX4_look_5 hl (by decide) rfl (fun ls hl => ?_)
    refine lv_aload_n hx hb dX4_look_7 rfl (lv_at hl 1 rfl) ?_
    refine lv_iload_n hx hb dX4_look_8 rfl (lv_at hl 3 rfl) ?_
    rcases Classical.em (0 ≤ v ∧ v < ng) with hqk3 | hqk3
    · obtain ⟨p1k3, p2k3⟩ := oG v.toNat (by omega)
      refine m_callfq (m_runV (a := ad 8 0 0) (As := [.int (iI v)]) (rest := []) ⟨hx, hb, hml, hown, hts⟩ (c_X4_groundOf_y l D b _ ad nt ng sp nn jj vt vw vr G hO v hrv hqk3) (cwV 1 hts gX4_look_X4_groundOf rfl rfl rfl (by decide +kernel) ⟨Nat.le_of_ble_eq_true rfl, Nat.le_of_ble_eq_true rfl⟩) K hG o1 rfl rfl rfl hl.1 rfl (Nat.le_of_ble_eq_true rfl) dX4_look_9 ⟨Nat.le_of_ble_eq_true rfl, Nat.le_of_ble_eq_true rfl⟩) hS (fun H locs hG hS => ?_)
      refine W.eq (g2 := F0 m 12 ls [.ref (ad 4 v.toNat 0)]) rfl ?_
      have hG : mG D b M s H := hG
      refine lv_astore (lv' := [(6, .ref (ad 4 v.toNat 0)), (5, .null), (0, .ref (ad 8 0 0)), (1, .int (iI t)), (2, .int (iI v)), (3, .int (iI u)), (4, .int (iI w))]) hx hb dX4_look_12 hl (by decide) rfl (fun ls hl => ?_)
      refine lv_aloadN hx hb dX4_look_14 (lv_at hl 1 rfl) ?_
      refine lv_ifnullN (tgt := 31) hx hb dX4_look_16 (by decide) ?_
      refine lv_iconst (v := iI (-1)) hx hb dX4_look_31 rfl ?_
      exact m_iret hx hb hr hlk hQ hG hS (Nat.le_of_ble_eq_true rfl) (Nat.le_of_ble_eq_true rfl) dX4_look_32 ⟨congrArg iI (by rw [if_neg (by omega)]), rfl⟩
    · refine m_callfq (m_runV (a := ad 8 0 0) (As := [.int (iI v)]) (rest := []) ⟨hx, hb, hml, hown, hts⟩ (c_X4_groundOf_n l D b _ ad nt ng sp nn jj vt vw vr G hO v hrv hqk3) (cwV 1 hts gX4_look_X4_groundOf rfl rfl rfl (by decide +kernel) ⟨Nat.le_of_ble_eq_true rfl, Nat.le_of_ble_eq_true rfl⟩) K hG o1 rfl rfl rfl hl.1 rfl (Nat.le_of_ble_eq_true rfl) dX4_look_9 ⟨Nat.le_of_ble_eq_true rfl, Nat.le_of_ble_eq_true rfl⟩) hS (fun H locs hG hS => ?_)
      refine W.eq (g2 := F0 m 12 ls [.null]) rfl ?_
      have hG : mG D b M s H := hG
      refine lv_astoreN (lv' := [(6, .null), (5, .null), (0, .ref (ad 8 0 0)), (1, .int (iI t)), (2, .int (iI v)), (3, .int (iI u)), (4, .int (iI w))]) hx hb dX4_look_12 hl (by decide) rfl (fun ls hl => ?_)
      refine lv_aloadN hx hb dX4_look_14 (lv_at hl 1 rfl) ?_
      refine lv_ifnullN (tgt := 31) hx hb dX4_look_16 (by decide) ?_
      refine lv_iconst (v := iI (-1)) hx hb dX4_look_31 rfl ?_
      exact m_iret hx hb hr hlk hQ hG hS (Nat.le_of_ble_eq_true rfl) (Nat.le_of_ble_eq_true rfl) dX4_look_32 ⟨congrArg iI (by rw [if_neg (by omega)]), rfl⟩

/-- APART, as a number -/
def apN (F E : Nat → Nat → Int) (t : Nat) (w : Int) : Int := if w = 0 then max 0 (max (max (F t 0 - E t 1) (E t 0 - F t 1)) (max (F t 2 - E t 3) (E t 2 - F t 3))) else if w = 1 then max (max (F t 1 - E t 0) (E t 1 - F t 0)) (max (F t 3 - E t 2) (E t 3 - F t 2)) else -1
set_option maxHeartbeats 4000000 in
set_option maxRecDepth 100000 in
theorem c_X4_apart (l : Launch) (D : va_G) (b : Nat) (M : mM) (ad : Nat → Nat → Nat → Nat) (nt ng : Int) (sp nn jj : Nat → Int) (vt vw vr : Nat → Nat → Int) (G : Nat → Nat → Nat → Bool) (hO : OvOk M ad nt ng sp nn jj vt vw vr G) (t v u w : Int) (hrt : rg t) (hrv : rg v) (hru : rg u) (hrw : rg w) : Met l yX4_apart wsX4_apart ({ frames := 2, cells := 0, slots := 0, locals := 37 } : Room) (mPc [.ref (ad 8 0 0), .int (iI t), .int (iI v), .int (iI u), .int (iI w)] D b M) (mQi D b (fI (if (0 ≤ t ∧ t < nt) ∧ (0 ≤ v ∧ v < nt) ∧ ¬ t = v ∧ (0 ≤ u ∧ u < 80) then apN (stF (sp t.toNat) (vt t.toNat) (vw t.toNat) (vr t.toNat) (nn t.toNat).toNat) (stF (sp v.toNat) (vt v.toNat) (vw v.toNat) (vr v.toNat) (nn v.toNat).toNat) u.toNat w else -1) M)) 0 0 (mF b) := by
  refine m_met (cc := cX4_apart) (maxL := 9) (ret := (some .int)) (by decide) rfl (Nat.le_of_ble_eq_true rfl) ?_
  intro p e s m args below meth c Q ls hx hb hml hr hts hown hlk hnm hQ K hG hS hl
  have hown : s.vm.findClass RX4 = some m.cls := hown
  have hl : lv_has ls 9 [(0, .ref (ad 8 0 0)), (1, .int (iI t)), (2, .int (iI v)), (3, .int (iI u)), (4, .int (iI w))] := hl
  obtain ⟨o1, ⟨tf0, o2, o3⟩, ⟨gf0, o4, o5⟩, oT, oG, ⟨SO, o6, o7⟩, oA, ⟨b1, b2, b3, b4⟩⟩ := id hO
  refine lv_aload_n hx hb dX4_apart_0 rfl (lv_at hl 0 rfl) ?_
  refine lv_iload_n hx hb dX4_apart_1 rfl (lv_at hl 1 rfl) ?_
  rcases Classical.em (0 ≤ t ∧ t < nt) with hqk1 | hqk1
  · obtain ⟨⟨rfk1, hTk1⟩, ⟨hs0k1, hs1k1⟩, ⟨hn0k1, hn1k1⟩, sok1, nek1⟩ := oT t.toNat (by omega)
    have hRk1 : in63 (stF (sp t.toNat) (vt t.toNat) (vw t.toNat) (vr t.toNat) (nn t.toNat).toNat) := stF_rg hs0k1 (fun k hk => (sok1 k (by omega)).2)
    obtain ⟨t1k1, t2k1, t3k1, t4k1, t5k1, t6k1, hBk1, -, -⟩ := id hTk1
    refine m_callfq (m_runV (a := ad 8 0 0) (As := [.int (iI t)]) (rest := []) ⟨hx, hb, hml, hown, hts⟩ (c_X4_thingOf_y l D b _ ad nt ng sp nn jj vt vw vr G hO t hrt hqk1) (cwV 1 hts gX4_apart_X4_thingOf rfl rfl rfl (by decide +kernel) ⟨Nat.le_of_ble_eq_true rfl, Nat.le_of_ble_eq_true rfl⟩) K hG o1 rfl rfl rfl hl.1 rfl (Nat.le_of_ble_eq_true rfl) dX4_apart_2 ⟨Nat.le_of_ble_eq_true rfl, Nat.le_of_ble_eq_true rfl⟩) hS (fun H locs hG hS => ?_)
    refine W.eq (g2 := F0 m 5 ls [.ref (ad 0 t.toNat 0)]) rfl ?_
    have hG : mG D b M s H := hG
    refine lv_astore (lv' := [(5, .ref (ad 0 t.toNat 0)), (0, .ref (ad 8 0 0)), (1, .int (iI t)), (2, .int (iI v)), (3, .int (iI u)), (4, .int (iI w))]) hx hb dX4_apart_5 hl (by decide) rfl (fun ls hl => ?_)
    refine lv_aload_n hx hb dX4_apart_7 rfl (lv_at hl 1 rfl) ?_
    refine lv_iload_n hx hb dX4_apart_8 rfl (lv_at hl 3 rfl) ?_
    rcases Classical.em (0 ≤ v ∧ v < nt) with hqk2 | hqk2
    · obtain ⟨⟨rfk2, hTk2⟩, ⟨hs0k2, hs1k2⟩, ⟨hn0k2, hn1k2⟩, sok2, nek2⟩ := oT v.toNat (by omega)
      have hRk2 : in63 (stF (sp v.toNat) (vt v.toNat) (vw v.toNat) (vr v.toNat) (nn v.toNat).toNat) := stF_rg hs0k2 (fun k hk => (sok2 k (by omega)).2)
      obtain ⟨t1k2, t2k2, t3k2, t4k2, t5k2, t6k2, hBk2, -, -⟩ := id hTk2
      refine m_callfq (m_runV (a := ad 8 0 0) (As := [.int (iI v)]) (rest := []) ⟨hx, hb, hml, hown, hts⟩ (c_X4_thingOf_y l D b _ ad nt ng sp nn jj vt vw vr G hO v hrv hqk2) (cwV 1 hts gX4_apart_X4_thingOf rfl rfl rfl (by decide +kernel) ⟨Nat.le_of_ble_eq_true rfl, Nat.le_of_ble_eq_true rfl⟩) K hG o1 rfl rfl rfl hl.1 rfl (Nat.le_of_ble_eq_true rfl) dX4_apart_9 ⟨Nat.le_of_ble_eq_true rfl, Nat.le_of_ble_eq_true rfl⟩) hS (fun H locs hG hS => ?_)
      refine W.eq (g2 := F0 m 12 ls [.ref (ad 0 v.toNat 0)]) rfl ?_
      have hG : mG D b M s H := hG
      refine lv_astore (lv' := [(6, .ref (ad 0 v.toNat 0)), (5, .ref (ad 0 t.toNat 0)), (0, .ref (ad 8 0 0)), (1, .int (iI t)), (2, .int (iI v)), (3, .int (iI u)), (4, .int (iI w))]) hx hb dX4_apart_12 hl (by decide) rfl (fun ls hl => ?_)
      refine lv_aload hx hb dX4_apart_14 (lv_at hl 1 rfl) ?_
      refine lv_ifnull hx hb dX4_apart_16 ?_
      refine lv_aload hx hb dX4_apart_19 (lv_at hl 0 rfl) ?_
      refine lv_ifnull hx hb dX4_apart_21 ?_
      refine lv_iload_n hx hb dX4_apart_24 rfl (lv_at hl 3 rfl) ?_
      refine lv_iload_n hx hb dX4_apart_25 rfl (lv_at hl 4 rfl) ?_
      refine m_icmp_eq (tgt := 36) hx hb dX4_apart_26 (by decide) hrt hrv (fun c26 => ?_) (fun c26 => ?_)
      · refine lv_iconst (v := iI (-1)) hx hb dX4_apart_36 rfl ?_
        exact m_iret hx hb hr hlk hQ hG hS (Nat.le_of_ble_eq_true rfl) (Nat.le_of_ble_eq_true rfl) dX4_apart_37 ⟨congrArg iI (by rw [if_neg (by omega)]), rfl⟩
      · refine lv_iload_n hx hb dX4_apart_29 rfl (lv_at hl 5 rfl) ?_
        refine m_callfi (m_runS (As := [.int (iI u)]) (rest := []) ⟨hx, hb, hml, hown, hts⟩ (c_X4_isTick l D b _ u hru) (va_cwS 1 hts gX4_apart_X4_isTick rfl rfl rfl (by decide +kernel) ⟨Nat.le_of_ble_eq_true rfl, Nat.le_of_ble_eq_true rfl⟩) K hG rfl hl.1 rfl (Nat.le_of_ble_eq_true rfl) dX4_apart_30 ⟨Nat.le_of_ble_eq_true rfl, Nat.le_of_ble_eq_true rfl⟩) hS (fun H locs hG hS => ?_)
        have hG : mG D b M s H := hG
        refine m_ifb_ne (tgt := 38) hx hb dX4_apart_33 (by decide) (fun c33 => ?_) (fun c33 => ?_)
        · refine lv_aload hx hb dX4_apart_38 (lv_at hl 1 rfl) ?_
          refine lv_iload_n hx hb dX4_apart_40 rfl (lv_at hl 5 rfl) ?_
          refine m_callfq (m_runV (a := ad 0 t.toNat 0) (As := [.int (iI u)]) (rest := []) ⟨hx, hb, hml, hown, hts⟩ (c_X3_reachAt l D b _ (ad 0 t.toNat 0) (ad 1 t.toNat 0) (ad 1 t.toNat 1) (ad 1 t.toNat 2) (ad 2 t.toNat 0) rfk1 (ad 3 t.toNat) (sp t.toNat) (nn t.toNat) (jj t.toNat) (vt t.toNat) (vw t.toNat) (vr t.toNat) (stF (sp t.toNat) (vt t.toNat) (vw t.toNat) (vr t.toNat) (nn t.toNat).toNat) hTk1 u (by omega) (by omega)) (cwV 1 hts gX4_apart_X3_reachAt rfl rfl rfl (by decide +kernel) ⟨Nat.le_of_ble_eq_true rfl, Nat.le_of_ble_eq_true rfl⟩) K hG t1k1 rfl rfl rfl hl.1 rfl (Nat.le_of_ble_eq_true rfl) dX4_apart_41 ⟨Nat.le_of_ble_eq_true rfl, Nat.le_of_ble_eq_true rfl⟩) hS (fun H locs hG hS => ?_)
          refine W.eq (g2 := F0 m 44 ls [.ref (ad 3 t.toNat u.toNat)]) rfl ?_
          have hG : mG D b M s H := hG
          refine lv_astore (lv' := [(7, .ref (ad 3 t.toNat u.toNat)), (6, .ref (ad 0 v.toNat 0)), (5, .ref (ad 0 t.toNat 0)), (0, .ref (ad 8 0 0)), (1, .int (iI t)), (2, .int (iI v)), (3, .int (iI u)), (4, .int (iI w))]) hx hb dX4_apart_44 hl (by decide) rfl (fun ls hl => ?_)
          refine lv_aload hx hb dX4_apart_46 (lv_at hl 1 rfl) ?_
          refine lv_iload_n hx hb dX4_apart_48 rfl (lv_at hl 6 rfl) ?_
          refine m_callfq (m_runV (a := ad 0 v.toNat 0) (As := [.int (iI u)]) (rest := []) ⟨hx, hb, hml, hown, hts⟩ (c_X3_reachAt l D b _ (ad 0 v.toNat 0) (ad 1 v.toNat 0) (ad 1 v.toNat 1) (ad 1 v.toNat 2) (ad 2 v.toNat 0) rfk2 (ad 3 v.toNat) (sp v.toNat) (nn v.toNat) (jj v.toNat) (vt v.toNat) (vw v.toNat) (vr v.toNat) (stF (sp v.toNat) (vt v.toNat) (vw v.toNat) (vr v.toNat) (nn v.toNat).toNat) hTk2 u (by omega) (by omega)) (cwV 1 hts gX4_apart_X3_reachAt rfl rfl rfl (by decide +kernel) ⟨Nat.le_of_ble_eq_true rfl, Nat.le_of_ble_eq_true rfl⟩) K hG t1k2 rfl rfl rfl hl.1 rfl (Nat.le_of_ble_eq_true rfl) dX4_apart_49 ⟨Nat.le_of_ble_eq_true rfl, Nat.le_of_ble_eq_true rfl⟩) hS (fun H locs hG hS => ?_)
          refine W.eq (g2 := F0 m 52 ls [.ref (ad 3 v.toNat u.toNat)]) rfl ?_
          have hG : mG D b M s H := hG
          refine lv_astore (lv' := [(8, .ref (ad 3 v.toNat u.toNat)), (7, .ref (ad 3 t.toNat u.toNat)), (6, .ref (ad 0 v.toNat 0)), (5, .ref (ad 0 t.toNat 0)), (0, .ref (ad 8 0 0)), (1, .int (iI t)), (2, .int (iI v)), (3, .int (iI u)), (4, .int (iI w))]) hx hb dX4_apart_52 hl (by decide) rfl (fun ls hl => ?_)
          refine lv_iload hx hb dX4_apart_54 (lv_at hl 8 rfl) ?_
          rcases (show (w < 0 ∨ 1 < w) ∨ w = 0 ∨ w = 1 by omega) with hc56 | hc56 | hc56
          · refine m_lookup (tgt := 100) (off := 44) hx hb dX4_apart_56 (by decide) hrw (lk_out hc56) (by decide) ?_
            refine lv_iconst (v := iI (-1)) hx hb dX4_apart_100 rfl ?_
            exact m_iret hx hb hr hlk hQ hG hS (Nat.le_of_ble_eq_true rfl) (Nat.le_of_ble_eq_true rfl) dX4_apart_101 ⟨congrArg iI (by rw [if_pos (by omega)]; unfold apN; rw [if_neg (by omega), if_neg (by omega)]), rfl⟩
          · refine m_lookup (tgt := 84) (off := 28) hx hb dX4_apart_56 (by decide) hrw (by rw [hc56]; decide) (by decide) ?_
            refine lv_aload hx hb dX4_apart_84 (lv_at hl 1 rfl) ?_
            refine lv_aload hx hb dX4_apart_86 (lv_at hl 0 rfl) ?_
            refine m_callfi (m_runV (a := ad 3 t.toNat u.toNat) (As := [.ref (ad 3 v.toNat u.toNat)]) (rest := []) ⟨hx, hb, hml, hown, hts⟩ (c_X0_leastApart l D b _ (ad 3 t.toNat u.toNat) ((stF (sp t.toNat) (vt t.toNat) (vw t.toNat) (vr t.toNat) (nn t.toNat).toNat) u.toNat 0) ((stF (sp t.toNat) (vt t.toNat) (vw t.toNat) (vr t.toNat) (nn t.toNat).toNat) u.toNat 1) ((stF (sp t.toNat) (vt t.toNat) (vw t.toNat) (vr t.toNat) (nn t.toNat).toNat) u.toNat 2) ((stF (sp t.toNat) (vt t.toNat) (vw t.toNat) (vr t.toNat) (nn t.toNat).toNat) u.toNat 3) (hBk1 u.toNat (by omega)) (sm63 (hRk1 u.toNat 0)) (sm63 (hRk1 u.toNat 1)) (sm63 (hRk1 u.toNat 2)) (sm63 (hRk1 u.toNat 3)) (ad 3 v.toNat u.toNat) ((stF (sp v.toNat) (vt v.toNat) (vw v.toNat) (vr v.toNat) (nn v.toNat).toNat) u.toNat 0) ((stF (sp v.toNat) (vt v.toNat) (vw v.toNat) (vr v.toNat) (nn v.toNat).toNat) u.toNat 1) ((stF (sp v.toNat) (vt v.toNat) (vw v.toNat) (vr v.toNat) (nn v.toNat).toNat) u.toNat 2) ((stF (sp v.toNat) (vt v.toNat) (vw v.toNat) (vr v.toNat) (nn v.toNat).toNat) u.toNat 3) (hBk2 u.toNat (by omega)) (sm63 (hRk2 u.toNat 0)) (sm63 (hRk2 u.toNat 1)) (sm63 (hRk2 u.toNat 2)) (sm63 (hRk2 u.toNat 3))) (cwV 1 hts gX4_apart_X0_leastApart rfl rfl rfl (by decide +kernel) ⟨Nat.le_of_ble_eq_true rfl, Nat.le_of_ble_eq_true rfl⟩) K hG (hBk1 u.toNat (by omega)) rfl rfl rfl hl.1 rfl (Nat.le_of_ble_eq_true rfl) dX4_apart_88 ⟨Nat.le_of_ble_eq_true rfl, Nat.le_of_ble_eq_true rfl⟩) hS (fun H locs hG hS => ?_)
            have hG : mG D b M s H := hG
            exact m_iret hx hb hr hlk hQ hG hS (Nat.le_of_ble_eq_true rfl) (Nat.le_of_ble_eq_true rfl) dX4_apart_91 ⟨congrArg iI (by rw [if_pos (by omega)]; unfold apN; rw [if_pos (by omega)]), rfl⟩
          · refine m_lookup (tgt := 92) (off := 36) hx hb dX4_apart_56 (by decide) hrw (by rw [hc56]; decide) (by decide) ?_
            refine lv_aload hx hb dX4_apart_92 (lv_at hl 1 rfl) ?_
            refine lv_aload hx hb dX4_apart_94 (lv_at hl 0 rfl) ?_
            refine m_callfi (m_runV (a := ad 3 t.toNat u.toNat) (As := [.ref (ad 3 v.toNat u.toNat)]) (rest := []) ⟨hx, hb, hml, hown, hts⟩ (c_X0_mostApart l D b _ (ad 3 t.toNat u.toNat) ((stF (sp t.toNat) (vt t.toNat) (vw t.toNat) (vr t.toNat) (nn t.toNat).toNat) u.toNat 0) ((stF (sp t.toNat) (vt t.toNat) (vw t.toNat) (vr t.toNat) (nn t.toNat).toNat) u.toNat 1) ((stF (sp t.toNat) (vt t.toNat) (vw t.toNat) (vr t.toNat) (nn t.toNat).toNat) u.toNat 2) ((stF (sp t.toNat) (vt t.toNat) (vw t.toNat) (vr t.toNat) (nn t.toNat).toNat) u.toNat 3) (hBk1 u.toNat (by omega)) (sm63 (hRk1 u.toNat 0)) (sm63 (hRk1 u.toNat 1)) (sm63 (hRk1 u.toNat 2)) (sm63 (hRk1 u.toNat 3)) (ad 3 v.toNat u.toNat) ((stF (sp v.toNat) (vt v.toNat) (vw v.toNat) (vr v.toNat) (nn v.toNat).toNat) u.toNat 0) ((stF (sp v.toNat) (vt v.toNat) (vw v.toNat) (vr v.toNat) (nn v.toNat).toNat) u.toNat 1) ((stF (sp v.toNat) (vt v.toNat) (vw v.toNat) (vr v.toNat) (nn v.toNat).toNat) u.toNat 2) ((stF (sp v.toNat) (vt v.toNat) (vw v.toNat) (vr v.toNat) (nn v.toNat).toNat) u.toNat 3) (hBk2 u.toNat (by omega)) (sm63 (hRk2 u.toNat 0)) (sm63 (hRk2 u.toNat 1)) (sm63 (hRk2 u.toNat 2)) (sm63 (hRk2 u.toNat 3))) (cwV 1 hts gX4_apart_X0_mostApart rfl rfl rfl (by decide +kernel) ⟨Nat.le_of_ble_eq_true rfl, Nat.le_of_ble_eq_true rfl⟩) K hG (hBk1 u.toNat (by omega)) rfl rfl rfl hl.1 rfl (Nat.le_of_ble_eq_true rfl) dX4_apart_96 ⟨Nat.le_of_ble_eq_true rfl, Nat.le_of_ble_eq_true rfl⟩) hS (fun H locs hG hS => ?_)
            have hG : mG D b M s H := hG
            exact m_iret hx hb hr hlk hQ hG hS (Nat.le_of_ble_eq_true rfl) (Nat.le_of_ble_eq_true rfl) dX4_apart_99 ⟨congrArg iI (by rw [if_pos (by omega)]; unfold apN; rw [if_neg (by omega), if_pos (by omega)]), rfl⟩
        · refine lv_iconst (v := iI (-1)) hx hb dX4_apart_36 rfl ?_
          exact m_iret hx hb hr hlk hQ hG hS (Nat.le_of_ble_eq_true rfl) (Nat.le_of_ble_eq_true rfl) dX4_apart_37 ⟨congrArg iI (by rw [if_neg (by omega)]), rfl⟩
    · refine m_callfq (m_runV (a := ad 8 0 0) (As := [.int (iI v)]) (rest := []) ⟨hx, hb, hml, hown, hts⟩ (c_X4_thingOf_n l D b _ ad nt ng sp nn jj vt vw vr G hO v hrv hqk2) (cwV 1 hts gX4_apart_X4_thingOf rfl rfl rfl (by decide +kernel) ⟨Nat.le_of_ble_eq_true rfl, Nat.le_of_ble_eq_true rfl⟩) K hG o1 rfl rfl rfl hl.1 rfl (Nat.le_of_ble_eq_true rfl) dX4_apart_9 ⟨Nat.le_of_ble_eq_true rfl, Nat.le_of_ble_eq_true rfl⟩) hS (fun H locs hG hS => ?_)
      refine W.eq (g2 := F0 m 12 ls [.null]) rfl ?_
      have hG : mG D b M s H := hG
      refine lv_astoreN (lv' := [(6, .null), (5, .ref (ad 0 t.toNat 0)), (0, .ref (ad 8 0 0)), (1, .int (iI t)), (2, .int (iI v)), (3, .int (iI u)), (4, .int (iI w))]) hx hb dX4_apart_12 hl (by decide) rfl (fun ls hl => ?_)
      refine lv_aload hx hb dX4_apart_14 (lv_at hl 1 rfl) ?_
      refine lv_ifnull hx hb dX4_apart_16 ?_
      refine lv_aloadN hx hb dX4_apart_19 (lv_at hl 0 rfl) ?_
      refine lv_ifnullN (tgt := 36) hx hb dX4_apart_21 (by decide) ?_
      refine lv_iconst (v := iI (-1)) hx hb dX4_apart_36 rfl ?_
      exact m_iret hx hb hr hlk hQ hG hS (Nat.le_of_ble_eq_true rfl) (Nat.le_of_ble_eq_true rfl) dX4_apart_37 ⟨congrArg iI (by rw [if_neg (by omega)]), rfl⟩
  · refine m_callfq (m_runV (a := ad 8 0 0) (As := [.int (iI t)]) (rest := []) ⟨hx, hb, hml, hown, hts⟩ (c_X4_thingOf_n l D b _ ad nt ng sp nn jj vt vw vr G hO t hrt hqk1) (cwV 1 hts gX4_apart_X4_thingOf rfl rfl rfl (by decide +kernel) ⟨Nat.le_of_ble_eq_true rfl, Nat.le_of_ble_eq_true rfl⟩) K hG o1 rfl rfl rfl hl.1 rfl (Nat.le_of_ble_eq_true rfl) dX4_apart_2 ⟨Nat.le_of_ble_eq_true rfl, Nat.le_of_ble_eq_true rfl⟩) hS (fun H locs hG hS => ?_)
    refine W.eq (g2 := F0 m 5 ls [.null]) rfl ?_
    have hG : mG D b M s H := hG
    refine lv_astoreN (lv' := [(5, .null), (0, .ref (ad 8 0 0)), (1, .int (iI t)), (2, .int (iI v)), (3, .int (iI u)), (4, .int (iI w))]) hx hb dX4_apart_5 hl (by decide) rfl (fun ls hl => ?_)
    refine lv_aload_n hx hb dX4_apart_7 rfl (lv_at hl 1 rfl) ?_
    refine lv_iload_n hx hb dX4_apart_8 rfl (lv_at hl 3 rfl) ?_
    rcases Classical.em (0 ≤ v ∧ v < nt) with hqk3 | hqk3
    · obtain ⟨⟨rfk3, hTk3⟩, ⟨hs0k3, hs1k3⟩, ⟨hn0k3, hn1k3⟩, sok3, nek3⟩ := oT v.toNat (by omega)
      have hRk3 : in63 (stF (sp v.toNat) (vt v.toNat) (vw v.toNat) (vr v.toNat) (nn v.toNat).toNat) := stF_rg hs0k3 (fun k hk => (sok3 k (by omega)).2)
      obtain ⟨t1k3, t2k3, t3k3, t4k3, t5k3, t6k3, hBk3, -, -⟩ := id hTk3
      refine m_callfq (m_runV (a := ad 8 0 0) (As := [.int (iI v)]) (rest := []) ⟨hx, hb, hml, hown, hts⟩ (c_X4_thingOf_y l D b _ ad nt ng sp nn jj vt vw vr G hO v hrv hqk3) (cwV 1 hts gX4_apart_X4_thingOf rfl rfl rfl (by decide +kernel) ⟨Nat.le_of_ble_eq_true rfl, Nat.le_of_ble_eq_true rfl⟩) K hG o1 rfl rfl rfl hl.1 rfl (Nat.le_of_ble_eq_true rfl) dX4_apart_9 ⟨Nat.le_of_ble_eq_true rfl, Nat.le_of_ble_eq_true rfl⟩) hS (fun H locs hG hS => ?_)
      refine W.eq (g2 := F0 m 12 ls [.ref (ad 0 v.toNat 0)]) rfl ?_
      have hG : mG D b M s H := hG
      refine lv_astore (lv' := [(6, .ref (ad 0 v.toNat 0)), (5, .null), (0, .ref (ad 8 0 0)), (1, .int (iI t)), (2, .int (iI v)), (3, .int (iI u)), (4, .int (iI w))]) hx hb dX4_apart_12 hl (by decide) rfl (fun ls hl => ?_)
      refine lv_aloadN hx hb dX4_apart_14 (lv_at hl 1 rfl) ?_
      refine lv_ifnullN (tgt := 36) hx hb dX4_apart_16 (by decide) ?_
      refine lv_iconst (v := iI (-1)) hx hb dX4_apart_36 rfl ?_
      exact m_iret hx hb hr hlk hQ hG hS (Nat.le_of_ble_eq_true rfl) (Nat.le_of_ble_eq_true rfl) dX4_apart_37 ⟨congrArg iI (by rw [if_neg (by omega)]), rfl⟩
    · refine m_callfq (m_runV (a := ad 8 0 0) (As := [.int (iI v)]) (rest := []) ⟨hx, hb, hml, hown, hts⟩ (c_X4_thingOf_n l D b _ ad nt ng sp nn jj vt vw vr G hO v hrv hqk3) (cwV 1 hts gX4_apart_X4_thingOf rfl rfl rfl (by decide +kernel) ⟨Nat.le_of_ble_eq_true rfl, Nat.le_of_ble_eq_true rfl⟩) K hG o1 rfl rfl rfl hl.1 rfl (Nat.le_of_ble_eq_true rfl) dX4_apart_9 ⟨Nat.le_of_ble_eq_true rfl, Nat.le_of_ble_eq_true rfl⟩) hS (fun H locs hG hS => ?_)
      refine W.eq (g2 := F0 m 12 ls [.null]) rfl ?_
      have hG : mG D b M s H := hG
      refine lv_astoreN (lv' := [(6, .null), (5, .null), (0, .ref (ad 8 0 0)), (1, .int (iI t)), (2, .int (iI v)), (3, .int (iI u)), (4, .int (iI w))]) hx hb dX4_apart_12 hl (by decide) rfl (fun ls hl => ?_)
      refine lv_aloadN hx hb dX4_apart_14 (lv_at hl 1 rfl) ?_
      refine lv_ifnullN (tgt := 36) hx hb dX4_apart_16 (by decide) ?_
      refine lv_iconst (v := iI (-1)) hx hb dX4_apart_36 rfl ?_
      exact m_iret hx hb hr hlk hQ hG hS (Nat.le_of_ble_eq_true rfl) (Nat.le_of_ble_eq_true rfl) dX4_apart_37 ⟨congrArg iI (by rw [if_neg (by omega)]), rfl⟩

def smN (q : Nat → Int) : Nat → Int
  | 0 => 0
  | n + 1 => smN q n + q n
set_option maxHeartbeats 4000000 in
set_option maxRecDepth 100000 in
theorem c_X4_sightsOfAll (l : Launch) (D : va_G) (b : Nat) (M : mM) (ad : Nat → Nat → Nat → Nat) (nt ng : Int) (sp nn jj : Nat → Int) (vt vw vr : Nat → Nat → Int) (G : Nat → Nat → Nat → Bool) (hO : OvOk M ad nt ng sp nn jj vt vw vr G) : Met l yX4_sightsOfAll wsX4_sightsOfAll ({ frames := 1, cells := 0, slots := 0, locals := 20 } : Room) (mPc [.ref (ad 8 0 0)] D b M) (mQi D b (fI (smN nn nt.toNat) M)) 0 0 (mF b) := by
  refine m_met (cc := cX4_sightsOfAll) (maxL := 3) (ret := (some .int)) (by decide) rfl (Nat.le_of_ble_eq_true rfl) ?_
  intro p e s m args below meth c Q ls hx hb hml hr hts hown hlk hnm hQ K hG hS hl
  have hown : s.vm.findClass RX4 = some m.cls := hown
  have hl : lv_has ls 3 [(0, .ref (ad 8 0 0))] := hl
  obtain ⟨o1, ⟨tf0, o2, o3⟩, ⟨gf0, o4, o5⟩, oT, oG, ⟨SO, o6, o7⟩, oA, ⟨b1, b2, b3, b4⟩⟩ := id hO
  refine lv_iconst (v := iI 0) hx hb dX4_sightsOfAll_0 rfl ?_
  refine lv_istore_n (lv' := [(1, .int (iI 0)), (0, .ref (ad 8 0 0))]) hx hb dX4_sightsOfAll_1 rfl hl (by decide) rfl (fun ls hl => ?_)
  refine lv_iconst (v := iI 0) hx hb dX4_sightsOfAll_2 rfl ?_
  refine lv_istore_n (lv' := [(2, .int (iI 0)), (1, .int (iI 0)), (0, .ref (ad 8 0 0))]) hx hb dX4_sightsOfAll_3 rfl hl (by decide) rfl (fun ls hl => ?_)
  have loop4 : ∀ (fuel : Nat) (i : Int) (x : Int) (H : Heap) (locs : List Loc) (ls : Array Slot), (0 ≤ i) → (i ≤ nt) → (x = smN nn i.toNat) → (nt - i).toNat < fuel → mG D b M s H → va_S (mF b) s.heap H locs → lv_has ls 3 [(2, .int (iI i)), (1, .int (iI x)), (0, .ref (ad 8 0 0))] → W p l e ({ frames := 1, cells := 0, slots := 0, locals := 20 } : Room) s m args below meth c H locs 0 0 Q (F0 m 4 ls []) := by
    intro fuel
    induction fuel with
    | zero => intro i x H locs ls hi0 hi1 hs hm; exact absurd hm (Nat.not_lt_zero _)
    | succ fuel ih4 =>
      intro i x H locs ls hi0 hi1 hs hm hG hS hl
      refine lv_iload_n hx hb dX4_sightsOfAll_4 rfl (lv_at hl 0 rfl) ?_
      refine lv_aload_n hx hb dX4_sightsOfAll_5 rfl (lv_at hl 2 rfl) ?_
      refine m_get (ci := 4) (v := .int (iI nt)) (C := RX4) (T := TX4) (N := 6) hx hb hts (by decide +kernel) hown K hG o1 rfl 4 (by decide) (by decide +kernel) rfl dX4_sightsOfAll_6 ?_
      refine m_icmp_ge (tgt := 30) hx hb dX4_sightsOfAll_9 (by decide) ⟨by omega, by omega⟩ ⟨by omega, by omega⟩ (fun c9 => ?_) (fun c9 => ?_)
      · refine lv_iload_n hx hb dX4_sightsOfAll_30 rfl (lv_at hl 1 rfl) ?_
        exact m_iret hx hb hr hlk hQ hG hS (Nat.le_of_ble_eq_true rfl) (Nat.le_of_ble_eq_true rfl) dX4_sightsOfAll_31 ⟨congrArg iI (by rw [hs, show i.toNat = nt.toNat by omega]), rfl⟩
      · obtain ⟨⟨rfc, hTc⟩, ⟨hs0c, hs1c⟩, ⟨hn0c, hn1c⟩, soc, nec⟩ := oT i.toNat (by omega)
        have hRc : in63 (stF (sp i.toNat) (vt i.toNat) (vw i.toNat) (vr i.toNat) (nn i.toNat).toNat) := stF_rg hs0c (fun k hk => (soc k (by omega)).2)
        obtain ⟨t1c, t2c, t3c, t4c, t5c, t6c, hBc, -, -⟩ := id hTc
        refine lv_iload_n hx hb dX4_sightsOfAll_12 rfl (lv_at hl 1 rfl) ?_
        refine lv_aload_n hx hb dX4_sightsOfAll_13 rfl (lv_at hl 2 rfl) ?_
        refine m_get (ci := 4) (v := .ref (ad 9 0 0)) (C := RX4) (T := TX4) (N := 6) hx hb hts (by decide +kernel) hown K hG o1 rfl 0 (by decide) (by decide +kernel) rfl dX4_sightsOfAll_14 ?_
        refine lv_iload_n hx hb dX4_sightsOfAll_17 rfl (lv_at hl 0 rfl) ?_
        refine m_aald hx hb hG o2 i.toNat (by omega) (by omega) (by decide) (o3 i.toNat (by omega)) dX4_sightsOfAll_18 ?_
        refine m_callfi (m_runV (a := ad 0 i.toNat 0) (As := []) (rest := [.int (iI x)]) ⟨hx, hb, hml, hown, hts⟩ (c_X3_sights l D b _ (ad 0 i.toNat 0) (ad 1 i.toNat 0) (ad 1 i.toNat 1) (ad 1 i.toNat 2) (ad 2 i.toNat 0) rfc (ad 3 i.toNat) (sp i.toNat) (nn i.toNat) (jj i.toNat) (vt i.toNat) (vw i.toNat) (vr i.toNat) (stF (sp i.toNat) (vt i.toNat) (vw i.toNat) (vr i.toNat) (nn i.toNat).toNat) hTc) (cwV 0 hts gX4_sightsOfAll_X3_sights rfl rfl rfl (by decide +kernel) ⟨Nat.le_of_ble_eq_true rfl, Nat.le_of_ble_eq_true rfl⟩) K hG t1c rfl rfl rfl hl.1 rfl (Nat.le_of_ble_eq_true rfl) dX4_sightsOfAll_19 ⟨Nat.le_of_ble_eq_true rfl, Nat.le_of_ble_eq_true rfl⟩) hS (fun H locs hG hS => ?_)
        have hG : mG D b M s H := hG
        refine m_iadd hx hb dX4_sightsOfAll_22 ?_
        refine lv_istore_n (lv' := [(1, .int (iI (x + (nn i.toNat)))), (2, .int (iI i)), (0, .ref (ad 8 0 0))]) hx hb dX4_sightsOfAll_23 rfl hl (by decide) rfl (fun ls hl => ?_)
        refine m_iinc (lv' := [(2, .int (iI (i + 1))), (1, .int (iI (x + (nn i.toNat)))), (0, .ref (ad 8 0 0))]) (k := 1) hx hb dX4_sightsOfAll_24 hl rfl (by decide) rfl (fun ls hl => ?_)
        refine lv_goto (tgt := 4) hx hb dX4_sightsOfAll_27 (by decide) ?_
        exact ih4 (i + 1) (x + (nn i.toNat)) _ _ _ (by omega) (by omega) (by rw [hs, show (i + 1).toNat = i.toNat + 1 by omega, smN]) (by omega) hG hS (lv_sub hl [0, 1, 2] rfl)
  exact loop4 _ 0 0 _ _ _ (by omega) (by omega) rfl (Nat.lt_succ_self _) hG hS (lv_sub hl [0, 1, 2] rfl)

set_option maxHeartbeats 4000000 in
set_option maxRecDepth 100000 in
theorem c_X4_count (l : Launch) (D : va_G) (b : Nat) (M : mM) (ad : Nat → Nat → Nat → Nat) (nt ng : Int) (sp nn jj : Nat → Int) (vt vw vr : Nat → Nat → Int) (G : Nat → Nat → Nat → Bool) (hO : OvOk M ad nt ng sp nn jj vt vw vr G) (w : Int) (hrw : rg w) : Met l yX4_count wsX4_count ({ frames := 2, cells := 0, slots := 0, locals := 42 } : Room) (mPc [.ref (ad 8 0 0), .int (iI w)] D b M) (mQi D b (fI (if w = 0 then nt else if w = 1 then smN nn nt.toNat else if w = 2 then ng else -1) M)) 0 0 (mF b) := by
  refine m_met (cc := cX4_count) (maxL := 2) (ret := (some .int)) (by decide) rfl (Nat.le_of_ble_eq_true rfl) ?_
  intro p e s m args below meth c Q ls hx hb hml hr hts hown hlk hnm hQ K hG hS hl
  have hown : s.vm.findClass RX4 = some m.cls := hown
  have hl : lv_has ls 2 [(0, .ref (ad 8 0 0)), (1, .int (iI w))] := hl
  obtain ⟨o1, ⟨tf0, o2, o3⟩, ⟨gf0, o4, o5⟩, oT, oG, ⟨SO, o6, o7⟩, oA, ⟨b1, b2, b3, b4⟩⟩ := id hO
  refine lv_iload_n hx hb dX4_count_0 rfl (lv_at hl 1 rfl) ?_
  rcases (show (w < 0 ∨ 2 < w) ∨ w = 0 ∨ w = 1 ∨ w = 2 by omega) with hc1 | hc1 | hc1 | hc1
  · refine m_tabOut (tgt := 43) hx hb dX4_count_1 hrw (by omega) (by decide) ?_
    refine lv_iconst (v := iI (-1)) hx hb dX4_count_43 rfl ?_
    exact m_iret hx hb hr hlk hQ hG hS (Nat.le_of_ble_eq_true rfl) (Nat.le_of_ble_eq_true rfl) dX4_count_44 ⟨congrArg iI (by rw [if_neg (by omega), if_neg (by omega), if_neg (by omega)]), rfl⟩
  · refine m_tabIn (tgt := 28) (off := 27) hx hb dX4_count_1 hrw (by omega) (by omega) (by rw [hc1]; rfl) (by decide) ?_
    refine lv_aload_n hx hb dX4_count_28 rfl (lv_at hl 0 rfl) ?_
    refine m_get (ci := 4) (v := .int (iI nt)) (C := RX4) (T := TX4) (N := 6) hx hb hts (by decide +kernel) hown K hG o1 rfl 4 (by decide) (by decide +kernel) rfl dX4_count_29 ?_
    exact m_iret hx hb hr hlk hQ hG hS (Nat.le_of_ble_eq_true rfl) (Nat.le_of_ble_eq_true rfl) dX4_count_32 ⟨congrArg iI (by rw [if_pos (by omega)]), rfl⟩
  · refine m_tabIn (tgt := 33) (off := 32) hx hb dX4_count_1 hrw (by omega) (by omega) (by rw [hc1]; rfl) (by decide) ?_
    refine lv_aload_n hx hb dX4_count_33 rfl (lv_at hl 0 rfl) ?_
    refine m_callfi (m_runV (a := ad 8 0 0) (As := []) (rest := []) ⟨hx, hb, hml, hown, hts⟩ (c_X4_sightsOfAll l D b _ ad nt ng sp nn jj vt vw vr G hO) (cwV 0 hts gX4_count_X4_sightsOfAll rfl rfl rfl (by decide +kernel) ⟨Nat.le_of_ble_eq_true rfl, Nat.le_of_ble_eq_true rfl⟩) K hG o1 rfl rfl rfl hl.1 rfl (Nat.le_of_ble_eq_true rfl) dX4_count_34 ⟨Nat.le_of_ble_eq_true rfl, Nat.le_of_ble_eq_true rfl⟩) hS (fun H locs hG hS => ?_)
    have hG : mG D b M s H := hG
    exact m_iret hx hb hr hlk hQ hG hS (Nat.le_of_ble_eq_true rfl) (Nat.le_of_ble_eq_true rfl) dX4_count_37 ⟨congrArg iI (by rw [if_neg (by omega), if_pos (by omega)]), rfl⟩
  · refine m_tabIn (tgt := 38) (off := 37) hx hb dX4_count_1 hrw (by omega) (by omega) (by rw [hc1]; rfl) (by decide) ?_
    refine lv_aload_n hx hb dX4_count_38 rfl (lv_at hl 0 rfl) ?_
    refine m_get (ci := 4) (v := .int (iI ng)) (C := RX4) (T := TX4) (N := 6) hx hb hts (by decide +kernel) hown K hG o1 rfl 5 (by decide) (by decide +kernel) rfl dX4_count_39 ?_
    exact m_iret hx hb hr hlk hQ hG hS (Nat.le_of_ble_eq_true rfl) (Nat.le_of_ble_eq_true rfl) dX4_count_42 ⟨congrArg iI (by rw [if_neg (by omega), if_neg (by omega), if_pos (by omega)]), rfl⟩
end
section
/-- the keys in use -/
def live (nt ng : Int) (k i t : Nat) : Prop := (k = 0 ∧ (i : Int) < nt ∧ t = 0) ∨ (k = 1 ∧ (i : Int) < nt ∧ t < 3) ∨ (k = 2 ∧ (i : Int) < nt ∧ t = 0) ∨ (k = 3 ∧ (i : Int) < nt ∧ t < 80) ∨ ((k = 4 ∨ k = 5) ∧ ((i : Int) < ng ∨ (4 ≤ i ∧ i < 86)) ∧ t = 0) ∨ ((6 ≤ k ∧ k ≤ 10) ∧ i = 0 ∧ t = 0)
def Tg (tg : Nat → Nat × Nat × Nat) (ad : Nat → Nat → Nat → Nat) (nt ng : Int) : Prop := ∀ k i t, live nt ng k i t → tg (ad k i t) = (k, i, t)
theorem Tg.ne {tg : Nat → Nat × Nat × Nat} {ad : Nat → Nat → Nat → Nat} {nt ng : Int} (h : Tg tg ad nt ng) {k i t k2 i2 t2 : Nat} (h1 : live nt ng k i t) (h2 : live nt ng k2 i2 t2) (hn : ¬ (k = k2 ∧ i = i2 ∧ t = t2)) : ad k i t ≠ ad k2 i2 t2 := by
  intro z
  have e := (h k i t h1).symm.trans ((congrArg tg z).trans (h k2 i2 t2 h2))
  simp only [Prod.mk.injEq] at e
  exact hn e
theorem Tg.big {tg : Nat → Nat × Nat × Nat} {ad : Nat → Nat → Nat → Nat} {nt ng : Int} (h : Tg tg ad nt ng) {k i t a : Nat} (h1 : live nt ng k i t) (ha : 11 ≤ (tg a).1) : a ≠ ad k i t := by
  intro z
  rw [z, h k i t h1] at ha
  have : 11 ≤ k := ha
  unfold live at h1
  omega
theorem ThOk_keep {M M1 : mM} {th tk wh ra rc : Nat} {rf : Nat → Option Nat} {bx : Nat → Nat} {sp n j : Int} {vt vw vr : Nat → Int} {F : Nat → Nat → Int} (h : ThOk M th tk wh ra rc rf bx sp n j vt vw vr F) (k1 : M1 th = M th) (k2 : M1 tk = M tk) (k3 : M1 wh = M wh) (k4 : M1 ra = M ra) (k5 : M1 rc = M rc) (k6 : ∀ t, t < 80 → M1 (bx t) = M (bx t)) : ThOk M1 th tk wh ra rc rf bx sp n j vt vw vr F := by
  obtain ⟨h1, h2, h3, h4, h5, h6, h7, h8, h9⟩ := h
  exact ⟨k1.trans h1, k2.trans h2, k3.trans h3, k4.trans h4, k5.trans h5, h6, fun t q => (k6 t q).trans (h7 t q), h8, h9⟩
theorem TaOk_keep {M M1 : mM} {ta lv : Nat} {lf : Nat → Option Nat} {pk rk : Nat → Nat} {f g : Int} {S : Nat → Nat → Nat → Bool} (h : TaOk M ta lv lf pk rk f g S) (k1 : M1 ta = M ta) (k2 : M1 lv = M lv) (k3 : ∀ k, k < 81 → M1 (pk k) = M (pk k)) (k4 : ∀ k, k < 81 → M1 (rk k) = M (rk k)) : TaOk M1 ta lv lf pk rk f g S := by
  obtain ⟨h1, h2, h3, h4, h5, h6⟩ := h
  exact ⟨k1.trans h1, k2.trans h2, h3, fun k q => (k3 k q).trans (h4 k q), fun k q => (k4 k q).trans (h5 k q), h6⟩
section OV
variable {M M1 : mM} {ad : Nat → Nat → Nat → Nat} {nt ng : Int} {sp nn jj : Nat → Int} {vt vw vr : Nat → Nat → Int} {G : Nat → Nat → Nat → Bool} {tg : Nat → Nat × Nat × Nat}
/-- one thing changes -/
theorem Ov_th (hO : OvOk M ad nt ng sp nn jj vt vw vr G) (hT : Tg tg ad nt ng) {i : Nat} (hi : (i : Int) < nt) {n1 j1 : Int} {wt ww wr : Nat → Int} {rf : Nat → Option Nat} (hth : ThOk M1 (ad 0 i 0) (ad 1 i 0) (ad 1 i 1) (ad 1 i 2) (ad 2 i 0) rf (ad 3 i) (sp i) n1 j1 wt ww wr (stF (sp i) wt ww wr n1.toNat)) (hgd : thGood (sp i) n1 wt ww wr)
    (hf : ∀ a, a ≠ ad 0 i 0 → a ≠ ad 1 i 0 → a ≠ ad 1 i 1 → a ≠ ad 1 i 2 → (∀ t, t < 80 → a ≠ ad 3 i t) → M1 a = M a) : OvOk M1 ad nt ng sp (va_up nn i n1) (va_up jj i j1) (va_up vt i wt) (va_up vw i ww) (va_up vr i wr) G := by
  obtain ⟨o1, ⟨tf0, o2, o3⟩, ⟨gf0, o4, o5⟩, oT, oG, ⟨SO, o6, o7⟩, ⟨lf, f, g, S, oA⟩, ⟨b1, b2, b3, b4⟩⟩ := hO
  have kp : ∀ k c t, live nt ng k c t → ¬ (k = 0 ∧ c = i ∨ k = 1 ∧ c = i ∨ k = 3 ∧ c = i) → M1 (ad k c t) = M (ad k c t) := by
    intro k c t hl hn
    exact hf _ (hT.ne hl (by unfold live; omega) (by omega)) (hT.ne hl (by unfold live; omega) (by omega)) (hT.ne hl (by unfold live; omega) (by omega)) (hT.ne hl (by unfold live; omega) (by omega)) (fun t2 ht2 => hT.ne hl (by unfold live; omega) (by omega))
  refine ⟨(kp 8 0 0 (by unfold live; omega) (by omega)).trans o1, ⟨tf0, (kp 9 0 0 (by unfold live; omega) (by omega)).trans o2, o3⟩, ⟨gf0, (kp 10 0 0 (by unfold live; omega) (by omega)).trans o4, o5⟩, fun c hc => ?_, fun c hc => ⟨(kp 4 c 0 (by unfold live; omega) (by omega)).trans (oG c hc).1, (kp 5 c 0 (by unfold live; omega) (by omega)).trans (oG c hc).2⟩, ⟨SO, (kp 4 4 0 (by unfold live; omega) (by omega)).trans o6, (kp 5 4 0 (by unfold live; omega) (by omega)).trans o7⟩, ⟨lf, f, g, S, TaOk_keep oA (kp 6 0 0 (by unfold live; omega) (by omega)) (kp 7 0 0 (by unfold live; omega) (by omega)) (fun k q => kp 4 (5 + k) 0 (by unfold live; omega) (by omega)) (fun k q => kp 5 (5 + k) 0 (by unfold live; omega) (by omega))⟩, ⟨b1, b2, b3, b4⟩⟩
  by_cases hci : c = i
  · subst hci
    simp only [va_up_self]
    exact ⟨⟨rf, hth⟩, hgd⟩
  · obtain ⟨⟨rf2, h2⟩, h3⟩ := oT c hc
    rw [va_up_ne _ _ hci, va_up_ne _ _ hci, va_up_ne _ _ hci, va_up_ne _ _ hci, va_up_ne _ _ hci]
    exact ⟨⟨rf2, ThOk_keep h2 (kp 0 c 0 (by unfold live; omega) (by omega)) (kp 1 c 0 (by unfold live; omega) (by omega)) (kp 1 c 1 (by unfold live; omega) (by omega)) (kp 1 c 2 (by unfold live; omega) (by omega)) (kp 2 c 0 (by unfold live; omega) (by omega)) (fun t q => kp 3 c t (by unfold live; omega) (by omega))⟩, h3⟩
/-- rows of places change: outside, a ground, the tally -/
theorem Ov_rows (hO : OvOk M ad nt ng sp nn jj vt vw vr G) (hT : Tg tg ad nt ng) {G1 : Nat → Nat → Nat → Bool} {SO : Nat → Nat → Bool} {lf : Nat → Option Nat} {f g : Int} {S : Nat → Nat → Nat → Bool} (hg : ∀ i : Nat, (i : Int) < ng → M1 (ad 5 i 0) = some (aL 64 (G1 i))) (ho : M1 (ad 5 4 0) = some (aL 64 SO)) (ht : TaOk M1 (ad 6 0 0) (ad 7 0 0) lf (fun k => ad 4 (5 + k) 0) (fun k => ad 5 (5 + k) 0) f g S)
    (kp : ∀ k c t, live nt ng k c t → k ≠ 5 → k ≠ 6 → M1 (ad k c t) = M (ad k c t)) : OvOk M1 ad nt ng sp nn jj vt vw vr G1 := by
  obtain ⟨o1, ⟨tf0, o2, o3⟩, ⟨gf0, o4, o5⟩, oT, oG, ⟨SO0, o6, o7⟩, -, ⟨b1, b2, b3, b4⟩⟩ := hO
  refine ⟨(kp 8 0 0 (by unfold live; omega) (by omega) (by omega)).trans o1, ⟨tf0, (kp 9 0 0 (by unfold live; omega) (by omega) (by omega)).trans o2, o3⟩, ⟨gf0, (kp 10 0 0 (by unfold live; omega) (by omega) (by omega)).trans o4, o5⟩, fun c hc => ?_, fun c hc => ⟨(kp 4 c 0 (by unfold live; omega) (by omega) (by omega)).trans (oG c hc).1, hg c hc⟩, ⟨SO, (kp 4 4 0 (by unfold live; omega) (by omega) (by omega)).trans o6, ho⟩, ⟨lf, f, g, S, ht⟩, ⟨b1, b2, b3, b4⟩⟩
  obtain ⟨⟨rf2, h2⟩, h3⟩ := oT c hc
  exact ⟨⟨rf2, ThOk_keep h2 (kp 0 c 0 (by unfold live; omega) (by omega) (by omega)) (kp 1 c 0 (by unfold live; omega) (by omega) (by omega)) (kp 1 c 1 (by unfold live; omega) (by omega) (by omega)) (kp 1 c 2 (by unfold live; omega) (by omega) (by omega)) (kp 2 c 0 (by unfold live; omega) (by omega) (by omega)) (fun t q => kp 3 c t (by unfold live; omega) (by omega) (by omega))⟩, h3⟩
end OV
abbrev frB (tg : Nat → Nat × Nat × Nat) (M M1 : mM) : Prop := ∀ a, 11 ≤ (tg a).1 → M a ≠ none → M1 a = M a

theorem va_upid {α : Type} (f : Nat → α) {i : Nat} : va_up f i (f i) = f := by
  funext j
  by_cases h : j = i
  · subst h; rw [va_up_self]
  · rw [va_up_ne _ _ h]

set_option maxHeartbeats 4000000 in
set_option maxRecDepth 100000 in
theorem c_X4_back (l : Launch) (D : va_G) (b : Nat) (M : mM) (ad : Nat → Nat → Nat → Nat) (nt ng : Int) (sp nn jj : Nat → Int) (vt vw vr : Nat → Nat → Int) (G : Nat → Nat → Nat → Bool) (hO : OvOk M ad nt ng sp nn jj vt vw vr G) (tg : Nat → Nat × Nat × Nat) (hTg : Tg tg ad nt ng) (t : Int) (hrt : rg t) : Met l yX4_back wsX4_back ({ frames := 4, cells := 0, slots := 0, locals := 78 } : Room) (mPc [.ref (ad 8 0 0), .int (iI t)] D b M) (mQi D b (fun r M1 => (¬ ((0 ≤ t ∧ t < nt) ∧ 0 < nn t.toNat) ∧ r = iI 0 ∧ M1 = M) ∨ ((0 ≤ t ∧ t < nt) ∧ 0 < nn t.toNat ∧ r = iI 1 ∧ OvOk M1 ad nt ng sp (va_up nn t.toNat (nn t.toNat - 1)) jj vt vw vr G ∧ frB tg M M1))) 0 0 (mF b) := by
  refine m_met (cc := cX4_back) (maxL := 3) (ret := (some .boolean)) (by decide) rfl (Nat.le_of_ble_eq_true rfl) ?_
  intro p e s m args below meth c Q ls hx hb hml hr hts hown hlk hnm hQ K hG hS hl
  have hown : s.vm.findClass RX4 = some m.cls := hown
  have hl : lv_has ls 3 [(0, .ref (ad 8 0 0)), (1, .int (iI t))] := hl
  obtain ⟨o1, ⟨tf0, o2, o3⟩, ⟨gf0, o4, o5⟩, oT, oG, ⟨SO, o6, o7⟩, oA, ⟨b1, b2, b3, b4⟩⟩ := id hO
  refine lv_aload_n hx hb dX4_back_0 rfl (lv_at hl 0 rfl) ?_
  refine lv_iload_n hx hb dX4_back_1 rfl (lv_at hl 1 rfl) ?_
  rcases Classical.em (0 ≤ t ∧ t < nt) with hqk1 | hqk1
  · obtain ⟨⟨rfk1, hTk1⟩, ⟨hs0k1, hs1k1⟩, ⟨hn0k1, hn1k1⟩, sok1, nek1⟩ := oT t.toNat (by omega)
    have hRk1 : in63 (stF (sp t.toNat) (vt t.toNat) (vw t.toNat) (vr t.toNat) (nn t.toNat).toNat) := stF_rg hs0k1 (fun k hk => (sok1 k (by omega)).2)
    obtain ⟨t1k1, t2k1, t3k1, t4k1, t5k1, t6k1, hBk1, -, -⟩ := id hTk1
    refine m_callfq (m_runV (a := ad 8 0 0) (As := [.int (iI t)]) (rest := []) ⟨hx, hb, hml, hown, hts⟩ (c_X4_thingOf_y l D b _ ad nt ng sp nn jj vt vw vr G hO t hrt hqk1) (cwV 1 hts gX4_back_X4_thingOf rfl rfl rfl (by decide +kernel) ⟨Nat.le_of_ble_eq_true rfl, Nat.le_of_ble_eq_true rfl⟩) K hG o1 rfl rfl rfl hl.1 rfl (Nat.le_of_ble_eq_true rfl) dX4_back_2 ⟨Nat.le_of_ble_eq_true rfl, Nat.le_of_ble_eq_true rfl⟩) hS (fun H locs hG hS => ?_)
    refine W.eq (g2 := F0 m 5 ls [.ref (ad 0 t.toNat 0)]) rfl ?_
    have hG : mG D b M s H := hG
    refine lv_astore_n (lv' := [(2, .ref (ad 0 t.toNat 0)), (0, .ref (ad 8 0 0)), (1, .int (iI t))]) hx hb dX4_back_5 rfl hl (by decide) rfl (fun ls hl => ?_)
    refine lv_aload_n hx hb dX4_back_6 rfl (lv_at hl 0 rfl) ?_
    refine lv_ifnull hx hb dX4_back_7 ?_
    refine lv_aload_n hx hb dX4_back_10 rfl (lv_at hl 0 rfl) ?_
    refine m_calli (m_runV (a := ad 0 t.toNat 0) (As := []) (rest := []) ⟨hx, hb, hml, hown, hts⟩ (c_X3_dropSight l D b _ (ad 0 t.toNat 0) (ad 1 t.toNat 0) (ad 1 t.toNat 1) (ad 1 t.toNat 2) (ad 2 t.toNat 0) rfk1 (ad 3 t.toNat) (sp t.toNat) (nn t.toNat) (jj t.toNat) (vt t.toNat) (vw t.toNat) (vr t.toNat) (stF (sp t.toNat) (vt t.toNat) (vw t.toNat) (vr t.toNat) (nn t.toNat).toNat) hTk1 hn0k1 hn1k1 hs0k1 hs1k1 sok1) (cwV 0 hts gX4_back_X3_dropSight rfl rfl rfl (by decide +kernel) ⟨Nat.le_of_ble_eq_true rfl, Nat.le_of_ble_eq_true rfl⟩) K hG t1k1 rfl rfl rfl hl.1 rfl (Nat.le_of_ble_eq_true rfl) dX4_back_11 ⟨Nat.le_of_ble_eq_true rfl, Nat.le_of_ble_eq_true rfl⟩) hS (fun r2 M3 H locs hw4 hG hS => ?_)
    rcases hw4 with ⟨w1, w2, w3⟩ | ⟨w1, w2, w3, w4⟩
    · rw [w2]
      rw [w3] at hG
      refine m_if_eq (tgt := 21) hx hb dX4_back_14 (by decide) ⟨by decide, by decide⟩ (fun c14 => ?_) (fun c14 => absurd c14 (by decide))
      refine lv_iconst (v := iI 0) hx hb dX4_back_21 rfl ?_
      exact m_zret hx hb hr hlk hQ hG hS (Nat.le_of_ble_eq_true rfl) (Nat.le_of_ble_eq_true rfl) dX4_back_22 (Or.inl rfl) (Or.inl ⟨(fun z => absurd w1 (by omega)), rfl, rfl⟩)
    · rw [w2]
      refine m_if_eq (tgt := 21) hx hb dX4_back_14 (by decide) ⟨by decide, by decide⟩ (fun c14 => absurd c14 (by decide)) (fun c14 => ?_)
      refine lv_iconst (v := iI 1) hx hb dX4_back_17 rfl ?_
      refine lv_goto (tgt := 22) hx hb dX4_back_18 (by decide) ?_
      exact m_zret hx hb hr hlk hQ hG hS (Nat.le_of_ble_eq_true rfl) (Nat.le_of_ble_eq_true rfl) dX4_back_22 (Or.inr rfl) (Or.inr ⟨hqk1, w1, rfl, (by have h9 := Ov_th hO hTg (i := t.toNat) (by omega) w3 ⟨⟨hs0k1, hs1k1⟩, ⟨by omega, by omega⟩, sOk_le sok1 (by omega), neDrop hs0k1 sok1 hn0k1 (by omega) nek1⟩ (fun a q1 _ _ _ q5 => w4 a q1 q5); rw [va_upid jj, va_upid vt, va_upid vw, va_upid vr] at h9; exact h9), (fun a q1 _ => w4 a (hTg.big (by unfold live; omega) q1) (fun t2 q2 => hTg.big (by unfold live; omega) q1))⟩)
  · refine m_callfq (m_runV (a := ad 8 0 0) (As := [.int (iI t)]) (rest := []) ⟨hx, hb, hml, hown, hts⟩ (c_X4_thingOf_n l D b _ ad nt ng sp nn jj vt vw vr G hO t hrt hqk1) (cwV 1 hts gX4_back_X4_thingOf rfl rfl rfl (by decide +kernel) ⟨Nat.le_of_ble_eq_true rfl, Nat.le_of_ble_eq_true rfl⟩) K hG o1 rfl rfl rfl hl.1 rfl (Nat.le_of_ble_eq_true rfl) dX4_back_2 ⟨Nat.le_of_ble_eq_true rfl, Nat.le_of_ble_eq_true rfl⟩) hS (fun H locs hG hS => ?_)
    refine W.eq (g2 := F0 m 5 ls [.null]) rfl ?_
    have hG : mG D b M s H := hG
    refine lv_astore_nN (lv' := [(2, .null), (0, .ref (ad 8 0 0)), (1, .int (iI t))]) hx hb dX4_back_5 rfl hl (by decide) rfl (fun ls hl => ?_)
    refine lv_aload_nN hx hb dX4_back_6 rfl (lv_at hl 0 rfl) ?_
    refine lv_ifnullN (tgt := 21) hx hb dX4_back_7 (by decide) ?_
    refine lv_iconst (v := iI 0) hx hb dX4_back_21 rfl ?_
    exact m_zret hx hb hr hlk hQ hG hS (Nat.le_of_ble_eq_true rfl) (Nat.le_of_ble_eq_true rfl) dX4_back_22 (Or.inl rfl) (Or.inl ⟨(fun z => hqk1 z.1), rfl, rfl⟩)
end
section
theorem siF_cong {vt vw vr wt ww wr : Nat → Int} : ∀ {n : Nat}, (∀ k, k < n → vt k = wt k ∧ vw k = ww k ∧ vr k = wr k) → siF vt vw vr n = siF wt ww wr n
  | 0, _ => rfl
  | n + 1, h => by
    obtain ⟨h1, h2, h3⟩ := h n (Nat.lt_succ_self n)
    rw [siF, siF, siF_cong (fun k hk => h k (Nat.lt_succ_of_lt hk)), h1, h2, h3]
theorem stF_cong {s : Int} {vt vw vr wt ww wr : Nat → Int} {n : Nat} (h : ∀ k, k < n → vt k = wt k ∧ vw k = ww k ∧ vr k = wr k) : stF s vt vw vr n = stF s wt ww wr n := by unfold stF; rw [siF_cong h]
theorem stF_upn {s n : Int} {vt vw vr : Nat → Int} {a c e : Int} : stF s (va_up vt n.toNat a) (va_up vw n.toNat c) (va_up vr n.toNat e) n.toNat = stF s vt vw vr n.toNat := stF_cong (fun k hk => by rw [va_up_ne _ _ (by omega), va_up_ne _ _ (by omega), va_up_ne _ _ (by omega)]; exact ⟨rfl, rfl, rfl⟩)
/-- a drawn ground -/
def drN (S : Nat → Nat → Bool) (u v w : Int) : Nat → Nat → Bool := fun a c => if u / 64 ≤ (a : Int) ∧ (a : Int) ≤ v / 64 then (if w = 0 then (S a c && !decide (u % 64 ≤ (c : Int) ∧ (c : Int) ≤ v % 64)) else (S a c || decide (u % 64 ≤ (c : Int) ∧ (c : Int) ≤ v % 64))) else S a c
theorem Ov_box {M : mM} {ad : Nat → Nat → Nat → Nat} {nt ng : Int} {sp nn jj : Nat → Int} {vt vw vr : Nat → Nat → Int} {G : Nat → Nat → Nat → Bool} (hO : OvOk M ad nt ng sp nn jj vt vw vr G) {q : Nat} (hq : M q = none) {v : mE} : OvOk (mset M q v) ad nt ng sp nn jj vt vw vr G := by
  have kp : ∀ {a : Nat} {w : mE}, M a = some w → mset M q v a = M a := fun h => mset_ne (mfresh hq h)
  obtain ⟨o1, ⟨tf0, o2, o3⟩, ⟨gf0, o4, o5⟩, oT, oG, ⟨SO, o6, o7⟩, ⟨lf, f, g, S, oA⟩, b0⟩ := hO
  refine ⟨(kp o1).trans o1, ⟨tf0, (kp o2).trans o2, o3⟩, ⟨gf0, (kp o4).trans o4, o5⟩, fun c hc => ?_, fun c hc => ⟨(kp (oG c hc).1).trans (oG c hc).1, (kp (oG c hc).2).trans (oG c hc).2⟩, ⟨SO, (kp o6).trans o6, (kp o7).trans o7⟩, ⟨lf, f, g, S, TaOk_keep oA (kp oA.1) (kp oA.2.1) (fun k q => kp (oA.2.2.2.1 k q)) (fun k q => kp (oA.2.2.2.2.1 k q))⟩, b0⟩
  obtain ⟨⟨rf2, h2⟩, h3⟩ := oT c hc
  exact ⟨⟨rf2, ThOk_keep h2 (kp h2.1) (kp h2.2.1) (kp h2.2.2.1) (kp h2.2.2.2.1) (kp h2.2.2.2.2.1) (fun t q => kp (h2.2.2.2.2.2.2.1 t q))⟩, h3⟩
theorem Ov_gr {M : mM} {ad : Nat → Nat → Nat → Nat} {nt ng : Int} {sp nn jj : Nat → Int} {vt vw vr : Nat → Nat → Int} {G : Nat → Nat → Nat → Bool} {tg : Nat → Nat × Nat × Nat} (hO : OvOk M ad nt ng sp nn jj vt vw vr G) (hT : Tg tg ad nt ng) {i : Nat} (hi : (i : Int) < ng) {T : Nat → Nat → Bool} : OvOk (mset M (ad 5 i 0) (aL 64 T)) ad nt ng sp nn jj vt vw vr (va_up G i T) := by
  obtain ⟨o1, ⟨tf0, o2, o3⟩, ⟨gf0, o4, o5⟩, oT, oG, ⟨SO, o6, o7⟩, ⟨lf, f, g, S, oA⟩, ⟨b1, b2, b3, b4⟩⟩ := id hO
  have ne : ∀ k c t, live nt ng k c t → ¬ (k = 5 ∧ c = i) → ad k c t ≠ ad 5 i 0 := fun k c t hl hn => hT.ne hl (by unfold live; omega) (by omega)
  refine Ov_rows hO hT (fun c hc => ?_) ((mset_ne (ne 5 4 0 (by unfold live; omega) (by omega))).trans o7) (TaOk_keep oA (mset_ne (ne 6 0 0 (by unfold live; omega) (by omega))) (mset_ne (ne 7 0 0 (by unfold live; omega) (by omega))) (fun k q => mset_ne (ne 4 (5 + k) 0 (by unfold live; omega) (by omega))) (fun k q => mset_ne (ne 5 (5 + k) 0 (by unfold live; omega) (by omega)))) (fun k c t hl h5 _ => mset_ne (ne k c t hl (by omega)))
  by_cases g9 : c = i
  · subst g9; rw [mset_self, va_up_self]
  · rw [mset_ne (ne 5 c 0 (by unfold live; omega) (by omega)), va_up_ne _ _ g9]; exact (oG c hc).2
theorem Ov_out {M : mM} {ad : Nat → Nat → Nat → Nat} {nt ng : Int} {sp nn jj : Nat → Int} {vt vw vr : Nat → Nat → Int} {G : Nat → Nat → Nat → Bool} {tg : Nat → Nat × Nat × Nat} (hO : OvOk M ad nt ng sp nn jj vt vw vr G) (hT : Tg tg ad nt ng) {T : Nat → Nat → Bool} : OvOk (mset M (ad 5 4 0) (aL 64 T)) ad nt ng sp nn jj vt vw vr G := by
  obtain ⟨o1, ⟨tf0, o2, o3⟩, ⟨gf0, o4, o5⟩, oT, oG, ⟨SO, o6, o7⟩, ⟨lf, f, g, S, oA⟩, ⟨b1, b2, b3, b4⟩⟩ := id hO
  have ne : ∀ k c t, live nt ng k c t → ¬ (k = 5 ∧ c = 4) → ad k c t ≠ ad 5 4 0 := fun k c t hl hn => hT.ne hl (by unfold live; omega) (by omega)
  exact Ov_rows hO hT (fun c hc => (mset_ne (ne 5 c 0 (by unfold live; omega) (by omega))).trans (oG c hc).2) mset_self (TaOk_keep oA (mset_ne (ne 6 0 0 (by unfold live; omega) (by omega))) (mset_ne (ne 7 0 0 (by unfold live; omega) (by omega))) (fun k q => mset_ne (ne 4 (5 + k) 0 (by unfold live; omega) (by omega))) (fun k q => mset_ne (ne 5 (5 + k) 0 (by unfold live; omega) (by omega)))) (fun k c t hl h5 _ => mset_ne (ne k c t hl (by omega)))

set_option maxHeartbeats 4000000 in
set_option maxRecDepth 100000 in
theorem c_X4_see (l : Launch) (D : va_G) (b : Nat) (M : mM) (ad : Nat → Nat → Nat → Nat) (nt ng : Int) (sp nn jj : Nat → Int) (vt vw vr : Nat → Nat → Int) (G : Nat → Nat → Nat → Bool) (hO : OvOk M ad nt ng sp nn jj vt vw vr G) (tg : Nat → Nat × Nat × Nat) (hTg : Tg tg ad nt ng) (t u v w : Int) (hrt : rg t) (hru : rg u) (hrv : rg v) (hrw : rg w) : Met l yX4_see wsX4_see ({ frames := 4, cells := 0, slots := 0, locals := 81 } : Room) (mPc [.ref (ad 8 0 0), .int (iI t), .int (iI u), .int (iI v), .int (iI w)] D b M) (mQi D b (fun r M1 => (¬ ((0 ≤ t ∧ t < nt) ∧ (0 ≤ u ∧ u < 80) ∧ (0 ≤ v ∧ v < 4096) ∧ (0 ≤ w ∧ w < 64)) ∧ r = iI (-1) ∧ M1 = M) ∨ (((0 ≤ t ∧ t < nt) ∧ (0 ≤ u ∧ u < 80) ∧ (0 ≤ v ∧ v < 4096) ∧ (0 ≤ w ∧ w < 64)) ∧ frB tg M M1 ∧ ((12 ≤ nn t.toNat ∧ r = iI (-1) ∧ M1 = M) ∨ (nn t.toNat < 12 ∧ (∀ t2 : Nat, t2 < 80 → neB (stF (sp t.toNat) (va_up (vt t.toNat) (nn t.toNat).toNat u) (va_up (vw t.toNat) (nn t.toNat).toNat v) (va_up (vr t.toNat) (nn t.toNat).toNat w) (nn t.toNat + 1).toNat) t2) ∧ r = iI (nn t.toNat + 1) ∧ OvOk M1 ad nt ng sp (va_up nn t.toNat (nn t.toNat + 1)) jj (va_up vt t.toNat (va_up (vt t.toNat) (nn t.toNat).toNat u)) (va_up vw t.toNat (va_up (vw t.toNat) (nn t.toNat).toNat v)) (va_up vr t.toNat (va_up (vr t.toNat) (nn t.toNat).toNat w)) G) ∨ (nn t.toNat < 12 ∧ ¬ (∀ t2 : Nat, t2 < 80 → neB (stF (sp t.toNat) (va_up (vt t.toNat) (nn t.toNat).toNat u) (va_up (vw t.toNat) (nn t.toNat).toNat v) (va_up (vr t.toNat) (nn t.toNat).toNat w) (nn t.toNat + 1).toNat) t2) ∧ r = iI (-1) ∧ OvOk M1 ad nt ng sp nn (va_up jj t.toNat (jj t.toNat + 1)) (va_up vt t.toNat (va_up (vt t.toNat) (nn t.toNat).toNat u)) (va_up vw t.toNat (va_up (vw t.toNat) (nn t.toNat).toNat v)) (va_up vr t.toNat (va_up (vr t.toNat) (nn t.toNat).toNat w)) G))))) 0 0 (mF b) := by
  refine m_met (cc := cX4_see) (maxL := 6) (ret := (some .int)) (by decide) rfl (Nat.le_of_ble_eq_true rfl) ?_
  intro p e s m args below meth c Q ls hx hb hml hr hts hown hlk hnm hQ K hG hS hl
  have hown : s.vm.findClass RX4 = some m.cls := hown
  have hl : lv_has ls 6 [(0, .ref (ad 8 0 0)), (1, .int (iI t)), (2, .int (iI u)), (3, .int (iI v)), (4, .int (iI w))] := hl
  obtain ⟨o1, ⟨tf0, o2, o3⟩, ⟨gf0, o4, o5⟩, oT, oG, ⟨SO, o6, o7⟩, oA, ⟨b1, b2, b3, b4⟩⟩ := id hO
  refine lv_aload_n hx hb dX4_see_0 rfl (lv_at hl 0 rfl) ?_
  refine lv_iload_n hx hb dX4_see_1 rfl (lv_at hl 1 rfl) ?_
  rcases Classical.em (0 ≤ t ∧ t < nt) with hqk1 | hqk1
  · obtain ⟨⟨rfk1, hTk1⟩, ⟨hs0k1, hs1k1⟩, ⟨hn0k1, hn1k1⟩, sok1, nek1⟩ := oT t.toNat (by omega)
    have hRk1 : in63 (stF (sp t.toNat) (vt t.toNat) (vw t.toNat) (vr t.toNat) (nn t.toNat).toNat) := stF_rg hs0k1 (fun k hk => (sok1 k (by omega)).2)
    obtain ⟨t1k1, t2k1, t3k1, t4k1, t5k1, t6k1, hBk1, -, -⟩ := id hTk1
    refine m_callfq (m_runV (a := ad 8 0 0) (As := [.int (iI t)]) (rest := []) ⟨hx, hb, hml, hown, hts⟩ (c_X4_thingOf_y l D b _ ad nt ng sp nn jj vt vw vr G hO t hrt hqk1) (cwV 1 hts gX4_see_X4_thingOf rfl rfl rfl (by decide +kernel) ⟨Nat.le_of_ble_eq_true rfl, Nat.le_of_ble_eq_true rfl⟩) K hG o1 rfl rfl rfl hl.1 rfl (Nat.le_of_ble_eq_true rfl) dX4_see_2 ⟨Nat.le_of_ble_eq_true rfl, Nat.le_of_ble_eq_true rfl⟩) hS (fun H locs hG hS => ?_)
    refine W.eq (g2 := F0 m 5 ls [.ref (ad 0 t.toNat 0)]) rfl ?_
    have hG : mG D b M s H := hG
    refine lv_astore (lv' := [(5, .ref (ad 0 t.toNat 0)), (0, .ref (ad 8 0 0)), (1, .int (iI t)), (2, .int (iI u)), (3, .int (iI v)), (4, .int (iI w))]) hx hb dX4_see_5 hl (by decide) rfl (fun ls hl => ?_)
    refine lv_aload hx hb dX4_see_7 (lv_at hl 0 rfl) ?_
    refine lv_ifnull hx hb dX4_see_9 ?_
    refine lv_iload_n hx hb dX4_see_12 rfl (lv_at hl 3 rfl) ?_
    refine m_callfi (m_runS (As := [.int (iI u)]) (rest := []) ⟨hx, hb, hml, hown, hts⟩ (c_X4_isTick l D b _ u hru) (va_cwS 1 hts gX4_see_X4_isTick rfl rfl rfl (by decide +kernel) ⟨Nat.le_of_ble_eq_true rfl, Nat.le_of_ble_eq_true rfl⟩) K hG rfl hl.1 rfl (Nat.le_of_ble_eq_true rfl) dX4_see_13 ⟨Nat.le_of_ble_eq_true rfl, Nat.le_of_ble_eq_true rfl⟩) hS (fun H locs hG hS => ?_)
    have hG : mG D b M s H := hG
    refine m_ifb_eq (tgt := 38) hx hb dX4_see_16 (by decide) (fun c16 => ?_) (fun c16 => ?_)
    · refine lv_iconst (v := iI (-1)) hx hb dX4_see_38 rfl ?_
      exact m_iret hx hb hr hlk hQ hG hS (Nat.le_of_ble_eq_true rfl) (Nat.le_of_ble_eq_true rfl) dX4_see_39 (Or.inl ⟨by omega, rfl, rfl⟩)
    · refine lv_iload_n hx hb dX4_see_19 rfl (lv_at hl 4 rfl) ?_
      refine m_callfi (m_runS (As := [.int (iI v)]) (rest := []) ⟨hx, hb, hml, hown, hts⟩ (c_X4_isPlace l D b _ v hrv) (va_cwS 1 hts gX4_see_X4_isPlace rfl rfl rfl (by decide +kernel) ⟨Nat.le_of_ble_eq_true rfl, Nat.le_of_ble_eq_true rfl⟩) K hG rfl hl.1 rfl (Nat.le_of_ble_eq_true rfl) dX4_see_20 ⟨Nat.le_of_ble_eq_true rfl, Nat.le_of_ble_eq_true rfl⟩) hS (fun H locs hG hS => ?_)
      have hG : mG D b M s H := hG
      refine m_ifb_eq (tgt := 38) hx hb dX4_see_23 (by decide) (fun c23 => ?_) (fun c23 => ?_)
      · refine lv_iconst (v := iI (-1)) hx hb dX4_see_38 rfl ?_
        exact m_iret hx hb hr hlk hQ hG hS (Nat.le_of_ble_eq_true rfl) (Nat.le_of_ble_eq_true rfl) dX4_see_39 (Or.inl ⟨by omega, rfl, rfl⟩)
      · refine lv_iload hx hb dX4_see_26 (lv_at hl 5 rfl) ?_
        refine m_if_lt (tgt := 38) hx hb dX4_see_28 (by decide) hrw (fun c28 => ?_) (fun c28 => ?_)
        · refine lv_iconst (v := iI (-1)) hx hb dX4_see_38 rfl ?_
          exact m_iret hx hb hr hlk hQ hG hS (Nat.le_of_ble_eq_true rfl) (Nat.le_of_ble_eq_true rfl) dX4_see_39 (Or.inl ⟨by omega, rfl, rfl⟩)
        · refine lv_iload hx hb dX4_see_31 (lv_at hl 5 rfl) ?_
          refine lv_bipush (v := iI 64) hx hb dX4_see_33 (by decide) ?_
          refine m_icmp_lt (tgt := 40) hx hb dX4_see_35 (by decide) hrw ⟨by omega, by omega⟩ (fun c35 => ?_) (fun c35 => ?_)
          · refine lv_aload hx hb dX4_see_40 (lv_at hl 0 rfl) ?_
            refine lv_iload_n hx hb dX4_see_42 rfl (lv_at hl 3 rfl) ?_
            refine lv_iload_n hx hb dX4_see_43 rfl (lv_at hl 4 rfl) ?_
            refine lv_iload hx hb dX4_see_44 (lv_at hl 5 rfl) ?_
            refine m_calli (m_runV (a := ad 0 t.toNat 0) (As := [.int (iI u), .int (iI v), .int (iI w)]) (rest := []) ⟨hx, hb, hml, hown, hts⟩ (c_X3_takeSight l D b _ (ad 0 t.toNat 0) (ad 1 t.toNat 0) (ad 1 t.toNat 1) (ad 1 t.toNat 2) (ad 2 t.toNat 0) rfk1 (ad 3 t.toNat) (sp t.toNat) (nn t.toNat) (jj t.toNat) (vt t.toNat) (vw t.toNat) (vr t.toNat) (stF (sp t.toNat) (vt t.toNat) (vw t.toNat) (vr t.toNat) (nn t.toNat).toNat) hTk1 hn0k1 hn1k1 hs0k1 hs1k1 sok1 u v w (by omega) (by omega) (by omega) (by omega) (by omega) (by omega)) (cwV 3 hts gX4_see_X3_takeSight rfl rfl rfl (by decide +kernel) ⟨Nat.le_of_ble_eq_true rfl, Nat.le_of_ble_eq_true rfl⟩) K hG t1k1 rfl rfl rfl hl.1 rfl (Nat.le_of_ble_eq_true rfl) dX4_see_46 ⟨Nat.le_of_ble_eq_true rfl, Nat.le_of_ble_eq_true rfl⟩) hS (fun r2 M3 H locs hw4 hG hS => ?_)
            obtain ⟨hfr, hw3⟩ := hw4
            rcases hw3 with ⟨w1, w2, w3⟩ | ⟨w1, w2, w3, w4⟩ | ⟨w1, w2, w3, w4⟩
            · rw [w2]
              rw [w3] at hG
              refine m_if_eq (tgt := 60) hx hb dX4_see_49 (by decide) ⟨by decide, by decide⟩ (fun c49 => ?_) (fun c49 => absurd c49 (by decide))
              refine lv_iconst (v := iI (-1)) hx hb dX4_see_60 rfl ?_
              exact m_iret hx hb hr hlk hQ hG hS (Nat.le_of_ble_eq_true rfl) (Nat.le_of_ble_eq_true rfl) dX4_see_61 (Or.inr ⟨by omega, (fun a _ _ => rfl), Or.inl ⟨w1, rfl, rfl⟩⟩)
            · rw [w3]
              refine m_if_eq (tgt := 60) hx hb dX4_see_49 (by decide) ⟨by decide, by decide⟩ (fun c49 => absurd c49 (by decide)) (fun c49 => ?_)
              refine lv_aload hx hb dX4_see_52 (lv_at hl 0 rfl) ?_
              refine m_callfi (m_runV (a := ad 0 t.toNat 0) (As := []) (rest := []) ⟨hx, hb, hml, hown, hts⟩ (c_X3_sights l D b _ _ _ _ _ _ _ _ _ _ _ _ _ _ _ w4) (cwV 0 hts gX4_see_X3_sights rfl rfl rfl (by decide +kernel) ⟨Nat.le_of_ble_eq_true rfl, Nat.le_of_ble_eq_true rfl⟩) K hG w4.1 rfl rfl rfl hl.1 rfl (Nat.le_of_ble_eq_true rfl) dX4_see_54 ⟨Nat.le_of_ble_eq_true rfl, Nat.le_of_ble_eq_true rfl⟩) hS (fun H locs hG hS => ?_)
              have hG : mG D b M3 s H := hG
              refine lv_goto (tgt := 61) hx hb dX4_see_57 (by decide) ?_
              exact m_iret hx hb hr hlk hQ hG hS (Nat.le_of_ble_eq_true rfl) (Nat.le_of_ble_eq_true rfl) dX4_see_61 (Or.inr ⟨by omega, (fun a q1 _ => hfr a (hTg.big (by unfold live; omega) q1) (hTg.big (by unfold live; omega) q1) (hTg.big (by unfold live; omega) q1) (hTg.big (by unfold live; omega) q1) (fun t2 q2 => hTg.big (by unfold live; omega) q1)), Or.inr (Or.inl ⟨w1, w2, rfl, (by have h9 := Ov_th hO hTg (i := t.toNat) (by omega) w4 ⟨⟨hs0k1, hs1k1⟩, ⟨by omega, by omega⟩, (sOk_up sok1 hn0k1 ⟨by omega, by omega⟩ ⟨by omega, by omega⟩ ⟨by omega, by omega⟩), w2⟩ hfr; rw [va_upid jj] at h9; exact h9)⟩)⟩)
            · rw [w3]
              refine m_if_eq (tgt := 60) hx hb dX4_see_49 (by decide) ⟨by decide, by decide⟩ (fun c49 => ?_) (fun c49 => absurd c49 (by decide))
              refine lv_iconst (v := iI (-1)) hx hb dX4_see_60 rfl ?_
              exact m_iret hx hb hr hlk hQ hG hS (Nat.le_of_ble_eq_true rfl) (Nat.le_of_ble_eq_true rfl) dX4_see_61 (Or.inr ⟨by omega, (fun a q1 _ => hfr a (hTg.big (by unfold live; omega) q1) (hTg.big (by unfold live; omega) q1) (hTg.big (by unfold live; omega) q1) (hTg.big (by unfold live; omega) q1) (fun t2 q2 => hTg.big (by unfold live; omega) q1)), Or.inr (Or.inr ⟨w1, w2, rfl, (by have h9 := Ov_th hO hTg (i := t.toNat) (by omega) w4 ⟨⟨hs0k1, hs1k1⟩, ⟨by omega, by omega⟩, (sOk_le (sOk_up sok1 hn0k1 ⟨by omega, by omega⟩ ⟨by omega, by omega⟩ ⟨by omega, by omega⟩) (by omega)), (by rw [stF_upn]; exact nek1)⟩ hfr; rw [va_upid nn] at h9; exact h9)⟩)⟩)
          · refine lv_iconst (v := iI (-1)) hx hb dX4_see_38 rfl ?_
            exact m_iret hx hb hr hlk hQ hG hS (Nat.le_of_ble_eq_true rfl) (Nat.le_of_ble_eq_true rfl) dX4_see_39 (Or.inl ⟨by omega, rfl, rfl⟩)
  · refine m_callfq (m_runV (a := ad 8 0 0) (As := [.int (iI t)]) (rest := []) ⟨hx, hb, hml, hown, hts⟩ (c_X4_thingOf_n l D b _ ad nt ng sp nn jj vt vw vr G hO t hrt hqk1) (cwV 1 hts gX4_see_X4_thingOf rfl rfl rfl (by decide +kernel) ⟨Nat.le_of_ble_eq_true rfl, Nat.le_of_ble_eq_true rfl⟩) K hG o1 rfl rfl rfl hl.1 rfl (Nat.le_of_ble_eq_true rfl) dX4_see_2 ⟨Nat.le_of_ble_eq_true rfl, Nat.le_of_ble_eq_true rfl⟩) hS (fun H locs hG hS => ?_)
    refine W.eq (g2 := F0 m 5 ls [.null]) rfl ?_
    have hG : mG D b M s H := hG
    refine lv_astoreN (lv' := [(5, .null), (0, .ref (ad 8 0 0)), (1, .int (iI t)), (2, .int (iI u)), (3, .int (iI v)), (4, .int (iI w))]) hx hb dX4_see_5 hl (by decide) rfl (fun ls hl => ?_)
    refine lv_aloadN hx hb dX4_see_7 (lv_at hl 0 rfl) ?_
    refine lv_ifnullN (tgt := 38) hx hb dX4_see_9 (by decide) ?_
    refine lv_iconst (v := iI (-1)) hx hb dX4_see_38 rfl ?_
    exact m_iret hx hb hr hlk hQ hG hS (Nat.le_of_ble_eq_true rfl) (Nat.le_of_ble_eq_true rfl) dX4_see_39 (Or.inl ⟨by omega, rfl, rfl⟩)
end
