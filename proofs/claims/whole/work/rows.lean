section
-- ===== PART A: goes FIRST, ahead of the names: the tables' words, and 'selects' of the private methods out of them =====
/-- a private method of a class that the tables say can be made, by its rows of tables_1 -/
def lw_okq (q : MethodName × Nat) : Prop := (q.1.cls ≠ "java/lang/invoke/MethodHandle" ∧ q.1.cls ≠ "java/lang/invoke/VarHandle") ∧ Cond.instantiable q.1.cls q.2 ∈ tables_1 ∧ Cond.privateMethod q.1 ∈ tables_1 ∧ Cond.instanceMethod q.1 ∈ tables_1
theorem lw_p0 : lw_okq (⟨"StreamQuery", "startAgain", "()V"⟩, 16) := ⟨⟨by decide +kernel, by decide +kernel⟩, List.mem_of_getElem? (i := 9) (by decide +kernel), List.mem_of_getElem? (i := 97) (by decide +kernel), List.mem_of_getElem? (i := 98) (by decide +kernel)⟩
theorem lw_p1 : lw_okq (⟨"StreamQuery", "\x61dmit", "(LStreamQuery$Events;II)I"⟩, 16) := ⟨⟨by decide +kernel, by decide +kernel⟩, List.mem_of_getElem? (i := 9) (by decide +kernel), List.mem_of_getElem? (i := 178) (by decide +kernel), List.mem_of_getElem? (i := 179) (by decide +kernel)⟩
theorem lw_p2 : lw_okq (⟨"StreamQuery$Events", "has", "(I)Z"⟩, 4) := ⟨⟨by decide +kernel, by decide +kernel⟩, List.mem_of_getElem? (i := 17) (by decide +kernel), List.mem_of_getElem? (i := 206) (by decide +kernel), List.mem_of_getElem? (i := 207) (by decide +kernel)⟩
theorem lw_p3 : lw_okq (⟨"StreamQuery$Line", "rowOf", "(I)I"⟩, 3) := ⟨⟨by decide +kernel, by decide +kernel⟩, List.mem_of_getElem? (i := 81) (by decide +kernel), List.mem_of_getElem? (i := 230) (by decide +kernel), List.mem_of_getElem? (i := 231) (by decide +kernel)⟩
theorem lw_p4 : lw_okq (⟨"StreamQuery", "gather", "(III)V"⟩, 16) := ⟨⟨by decide +kernel, by decide +kernel⟩, List.mem_of_getElem? (i := 9) (by decide +kernel), List.mem_of_getElem? (i := 238) (by decide +kernel), List.mem_of_getElem? (i := 239) (by decide +kernel)⟩
theorem lw_p5 : lw_okq (⟨"StreamQuery", "beginningAbove", "(I)I"⟩, 16) := ⟨⟨by decide +kernel, by decide +kernel⟩, List.mem_of_getElem? (i := 9) (by decide +kernel), List.mem_of_getElem? (i := 246) (by decide +kernel), List.mem_of_getElem? (i := 247) (by decide +kernel)⟩
theorem lw_p6 : lw_okq (⟨"StreamQuery", "countTaken", "(I)V"⟩, 16) := ⟨⟨by decide +kernel, by decide +kernel⟩, List.mem_of_getElem? (i := 9) (by decide +kernel), List.mem_of_getElem? (i := 275) (by decide +kernel), List.mem_of_getElem? (i := 276) (by decide +kernel)⟩
theorem lw_p7 : lw_okq (⟨"StreamQuery", "tellWindows", "(I)I"⟩, 16) := ⟨⟨by decide +kernel, by decide +kernel⟩, List.mem_of_getElem? (i := 9) (by decide +kernel), List.mem_of_getElem? (i := 290) (by decide +kernel), List.mem_of_getElem? (i := 291) (by decide +kernel)⟩
theorem lw_p8 : lw_okq (⟨"StreamQuery", "dropEvents", "()V"⟩, 16) := ⟨⟨by decide +kernel, by decide +kernel⟩, List.mem_of_getElem? (i := 9) (by decide +kernel), List.mem_of_getElem? (i := 306) (by decide +kernel), List.mem_of_getElem? (i := 307) (by decide +kernel)⟩
theorem lw_p9 : lw_okq (⟨"StreamQueryModel", "forget", "()V"⟩, 21) := ⟨⟨by decide +kernel, by decide +kernel⟩, List.mem_of_getElem? (i := 366) (by decide +kernel), List.mem_of_getElem? (i := 372) (by decide +kernel), List.mem_of_getElem? (i := 373) (by decide +kernel)⟩
theorem lw_p10 : lw_okq (⟨"StreamQueryModel", "take", "(IIII)I"⟩, 21) := ⟨⟨by decide +kernel, by decide +kernel⟩, List.mem_of_getElem? (i := 366) (by decide +kernel), List.mem_of_getElem? (i := 458) (by decide +kernel), List.mem_of_getElem? (i := 459) (by decide +kernel)⟩
theorem lw_p11 : lw_okq (⟨"StreamQueryModel", "event", "(IIIIZ)I"⟩, 21) := ⟨⟨by decide +kernel, by decide +kernel⟩, List.mem_of_getElem? (i := 366) (by decide +kernel), List.mem_of_getElem? (i := 468) (by decide +kernel), List.mem_of_getElem? (i := 469) (by decide +kernel)⟩
theorem lw_p12 : lw_okq (⟨"StreamQueryModel", "areNear", "(II)Z"⟩, 21) := ⟨⟨by decide +kernel, by decide +kernel⟩, List.mem_of_getElem? (i := 366) (by decide +kernel), List.mem_of_getElem? (i := 472) (by decide +kernel), List.mem_of_getElem? (i := 473) (by decide +kernel)⟩
theorem lw_p13 : lw_okq (⟨"StreamQueryModel", "record", "(IIIIII)V"⟩, 21) := ⟨⟨by decide +kernel, by decide +kernel⟩, List.mem_of_getElem? (i := 366) (by decide +kernel), List.mem_of_getElem? (i := 476) (by decide +kernel), List.mem_of_getElem? (i := 477) (by decide +kernel)⟩
theorem lw_p14 : lw_okq (⟨"StreamQueryModel", "pass", "(II)I"⟩, 21) := ⟨⟨by decide +kernel, by decide +kernel⟩, List.mem_of_getElem? (i := 366) (by decide +kernel), List.mem_of_getElem? (i := 488) (by decide +kernel), List.mem_of_getElem? (i := 489) (by decide +kernel)⟩
theorem lw_p15 : lw_okq (⟨"StreamQueryModel", "goOver", "(JJZ)I"⟩, 21) := ⟨⟨by decide +kernel, by decide +kernel⟩, List.mem_of_getElem? (i := 366) (by decide +kernel), List.mem_of_getElem? (i := 492) (by decide +kernel), List.mem_of_getElem? (i := 493) (by decide +kernel)⟩
def lw_privs_1 : List (MethodName × Nat) := [(⟨"StreamQuery", "startAgain", "()V"⟩, 16), (⟨"StreamQuery", "\x61dmit", "(LStreamQuery$Events;II)I"⟩, 16), (⟨"StreamQuery$Events", "has", "(I)Z"⟩, 4), (⟨"StreamQuery$Line", "rowOf", "(I)I"⟩, 3), (⟨"StreamQuery", "gather", "(III)V"⟩, 16), (⟨"StreamQuery", "beginningAbove", "(I)I"⟩, 16), (⟨"StreamQuery", "countTaken", "(I)V"⟩, 16), (⟨"StreamQuery", "tellWindows", "(I)I"⟩, 16), (⟨"StreamQuery", "dropEvents", "()V"⟩, 16), (⟨"StreamQueryModel", "forget", "()V"⟩, 21), (⟨"StreamQueryModel", "take", "(IIII)I"⟩, 21), (⟨"StreamQueryModel", "event", "(IIIIZ)I"⟩, 21), (⟨"StreamQueryModel", "areNear", "(II)Z"⟩, 21), (⟨"StreamQueryModel", "record", "(IIIIII)V"⟩, 21), (⟨"StreamQueryModel", "pass", "(II)I"⟩, 21), (⟨"StreamQueryModel", "goOver", "(JJZ)I"⟩, 21)]
theorem lw_r1 : ∀ q ∈ lw_privs_1, lw_okq q := List.forall_mem_cons.mpr ⟨lw_p0, List.forall_mem_cons.mpr ⟨lw_p1, List.forall_mem_cons.mpr ⟨lw_p2, List.forall_mem_cons.mpr ⟨lw_p3, List.forall_mem_cons.mpr ⟨lw_p4, List.forall_mem_cons.mpr ⟨lw_p5, List.forall_mem_cons.mpr ⟨lw_p6, List.forall_mem_cons.mpr ⟨lw_p7, List.forall_mem_cons.mpr ⟨lw_p8, List.forall_mem_cons.mpr ⟨lw_p9, List.forall_mem_cons.mpr ⟨lw_p10, List.forall_mem_cons.mpr ⟨lw_p11, List.forall_mem_cons.mpr ⟨lw_p12, List.forall_mem_cons.mpr ⟨lw_p13, List.forall_mem_cons.mpr ⟨lw_p14, List.forall_mem_cons.mpr ⟨lw_p15, fun _ h => absurd h List.not_mem_nil⟩⟩⟩⟩⟩⟩⟩⟩⟩⟩⟩⟩⟩⟩⟩⟩
theorem lw_p16 : lw_okq (⟨"StreamQueryModel", "nextEnd", "(J)J"⟩, 21) := ⟨⟨by decide +kernel, by decide +kernel⟩, List.mem_of_getElem? (i := 366) (by decide +kernel), List.mem_of_getElem? (i := 497) (by decide +kernel), List.mem_of_getElem? (i := 498) (by decide +kernel)⟩
theorem lw_p17 : lw_okq (⟨"StreamQueryModel", "lastEnd", "(I)J"⟩, 21) := ⟨⟨by decide +kernel, by decide +kernel⟩, List.mem_of_getElem? (i := 366) (by decide +kernel), List.mem_of_getElem? (i := 502) (by decide +kernel), List.mem_of_getElem? (i := 503) (by decide +kernel)⟩
theorem lw_p18 : lw_okq (⟨"StreamQueryModel", "isIn", "(IJ)Z"⟩, 21) := ⟨⟨by decide +kernel, by decide +kernel⟩, List.mem_of_getElem? (i := 366) (by decide +kernel), List.mem_of_getElem? (i := 506) (by decide +kernel), List.mem_of_getElem? (i := 507) (by decide +kernel)⟩
theorem lw_p19 : lw_okq (⟨"StreamQueryModel", "isOver", "(JJ)Z"⟩, 21) := ⟨⟨by decide +kernel, by decide +kernel⟩, List.mem_of_getElem? (i := 366) (by decide +kernel), List.mem_of_getElem? (i := 510) (by decide +kernel), List.mem_of_getElem? (i := 511) (by decide +kernel)⟩
theorem lw_p20 : lw_okq (⟨"StreamQueryModel", "nextKey", "(JJ)J"⟩, 21) := ⟨⟨by decide +kernel, by decide +kernel⟩, List.mem_of_getElem? (i := 366) (by decide +kernel), List.mem_of_getElem? (i := 514) (by decide +kernel), List.mem_of_getElem? (i := 515) (by decide +kernel)⟩
theorem lw_p21 : lw_okq (⟨"StreamQueryModel", "gather", "(JI)V"⟩, 21) := ⟨⟨by decide +kernel, by decide +kernel⟩, List.mem_of_getElem? (i := 366) (by decide +kernel), List.mem_of_getElem? (i := 518) (by decide +kernel), List.mem_of_getElem? (i := 519) (by decide +kernel)⟩
theorem lw_p22 : lw_okq (⟨"StreamQueryModel", "sweep", "(I)V"⟩, 21) := ⟨⟨by decide +kernel, by decide +kernel⟩, List.mem_of_getElem? (i := 366) (by decide +kernel), List.mem_of_getElem? (i := 522) (by decide +kernel), List.mem_of_getElem? (i := 523) (by decide +kernel)⟩
theorem lw_p23 : lw_okq (⟨"StreamQueryModel", "isKept", "(II)Z"⟩, 21) := ⟨⟨by decide +kernel, by decide +kernel⟩, List.mem_of_getElem? (i := 366) (by decide +kernel), List.mem_of_getElem? (i := 526) (by decide +kernel), List.mem_of_getElem? (i := 527) (by decide +kernel)⟩
theorem lw_p24 : lw_okq (⟨"StreamQueryModel", "windows", "()I"⟩, 21) := ⟨⟨by decide +kernel, by decide +kernel⟩, List.mem_of_getElem? (i := 366) (by decide +kernel), List.mem_of_getElem? (i := 562) (by decide +kernel), List.mem_of_getElem? (i := 563) (by decide +kernel)⟩
def lw_privs_2 : List (MethodName × Nat) := [(⟨"StreamQueryModel", "nextEnd", "(J)J"⟩, 21), (⟨"StreamQueryModel", "lastEnd", "(I)J"⟩, 21), (⟨"StreamQueryModel", "isIn", "(IJ)Z"⟩, 21), (⟨"StreamQueryModel", "isOver", "(JJ)Z"⟩, 21), (⟨"StreamQueryModel", "nextKey", "(JJ)J"⟩, 21), (⟨"StreamQueryModel", "gather", "(JI)V"⟩, 21), (⟨"StreamQueryModel", "sweep", "(I)V"⟩, 21), (⟨"StreamQueryModel", "isKept", "(II)Z"⟩, 21), (⟨"StreamQueryModel", "windows", "()I"⟩, 21)]
theorem lw_r2 : ∀ q ∈ lw_privs_2, lw_okq q := List.forall_mem_cons.mpr ⟨lw_p16, List.forall_mem_cons.mpr ⟨lw_p17, List.forall_mem_cons.mpr ⟨lw_p18, List.forall_mem_cons.mpr ⟨lw_p19, List.forall_mem_cons.mpr ⟨lw_p20, List.forall_mem_cons.mpr ⟨lw_p21, List.forall_mem_cons.mpr ⟨lw_p22, List.forall_mem_cons.mpr ⟨lw_p23, List.forall_mem_cons.mpr ⟨lw_p24, fun _ h => absurd h List.not_mem_nil⟩⟩⟩⟩⟩⟩⟩⟩⟩
def lw_privs : List (MethodName × Nat) := lw_privs_1 ++ (lw_privs_2)
def lw_tbl : List Cond := k2_sels lw_privs ++ tables_1
theorem lw_privs_ok : ∀ q ∈ lw_privs, lw_okq q := by
  show ∀ q ∈ lw_privs_1 ++ (lw_privs_2), lw_okq q
  exact List.forall_mem_append.mpr ⟨lw_r1, lw_r2⟩
end
section
/-! ===== BEGIN words of one list among another's, by their places ===== -/
theorem goodIn_r {big : List Cond} (ws : List Cond) (ps : List Nat) (hp : ws = ps.filterMap (fun i => big[i]?)) (h : ws.all goodWord = true) : GoodIn big ws := by
  intro w hw
  have h1 := List.all_eq_true.mp h w hw
  rw [hp] at hw
  obtain ⟨i, -, hi⟩ := List.mem_filterMap.mp hw
  have hm : w ∈ big := by first | exact List.mem_of_getElem? hi | exact List.getElem?_mem hi
  exact ⟨hm, good_of_word h1⟩
theorem goodIn_app {big a b : List Cond} (ha : GoodIn big a) (hb : GoodIn big b) : GoodIn big (a ++ b) := fun w h => (List.mem_append.mp h).elim (ha w) (hb w)
theorem goodIn_ca {big a b : List Cond} {c : Cond} (ha : GoodIn big (c :: a)) (hb : GoodIn big b) : GoodIn big (c :: (a ++ b)) := fun w h => (List.mem_cons.mp h).elim (fun e => ha w (List.mem_cons.mpr (Or.inl e))) (fun h => (List.mem_append.mp h).elim (fun h => ha w (List.mem_cons.mpr (Or.inr h))) (hb w))
theorem goodIn_sub {big ws : List Cond} (hm : ∀ w ∈ ws, w ∈ big) (h : ws.all goodWord = true) : GoodIn big ws := fun w hw => ⟨hm w hw, good_of_word (List.all_eq_true.mp h w hw)⟩
/-! ===== END ===== -/

/-! ===== BEGIN printed: names, fields, word lists, decode rows ===== -/
def RX0 : String := "StreamQuery$Events"
def TX0 : u_T := fun k => match k with
  | 0 => ("StreamQuery$Events", "times", "[I", true)
  | 1 => ("StreamQuery$Events", "keys", "[I", true)
  | 2 => ("StreamQuery$Events", "values", "[I", true)
  | _ => ("StreamQuery$Events", "size", "I", false)
def tyX0 : Nat → FieldType := fun k => match k with
  | 0 => .array .int
  | 1 => .array .int
  | 2 => .array .int
  | _ => .int
abbrev wsX00 : List Cond := u_ws RX0 TX0 4
theorem nmX0 : ∀ a, a < 4 → ∀ b, b < 4 → a ≠ b → (TX0 a).2.1 ≠ (TX0 b).2.1 := by decide +kernel
theorem tyX0_ok : ∀ k, k < 4 → parseFieldDescriptor (TX0 k).2.2.1 = some (tyX0 k) := by decide +kernel
abbrev cX0_init : ByteArray := prog_2_method_1_code
def yX0_init : MethodName := ⟨RX0, "<init>", "()V"⟩
abbrev cX0_clear : ByteArray := prog_2_method_2_code
def yX0_clear : MethodName := ⟨RX0, "clear", "()V"⟩
abbrev cX0_size : ByteArray := prog_2_method_3_code
def yX0_size : MethodName := ⟨RX0, "size", "()I"⟩
abbrev cX0_time : ByteArray := prog_2_method_4_code
def yX0_time : MethodName := ⟨RX0, "time", "(I)I"⟩
abbrev cX0_key : ByteArray := prog_2_method_5_code
def yX0_key : MethodName := ⟨RX0, "key", "(I)I"⟩
abbrev cX0_value : ByteArray := prog_2_method_6_code
def yX0_value : MethodName := ⟨RX0, "value", "(I)I"⟩
abbrev cX0_add : ByteArray := prog_2_method_7_code
def yX0_add : MethodName := ⟨RX0, "add", "(III)V"⟩
abbrev cX0_isNear : ByteArray := prog_2_method_8_code
def yX0_isNear : MethodName := ⟨RX0, "isNear", "(IIII)Z"⟩
abbrev cX0_manyNear : ByteArray := prog_2_method_9_code
def yX0_manyNear : MethodName := ⟨RX0, "manyNear", "(III)I"⟩
abbrev cX0_dropBelow : ByteArray := prog_2_method_10_code
def yX0_dropBelow : MethodName := ⟨RX0, "dropBelow", "(I)V"⟩
abbrev cX0_has : ByteArray := prog_2_method_11_code
def yX0_has : MethodName := ⟨RX0, "has", "(I)Z"⟩
def RX1 : String := "StreamQuery$Group"
def TX1 : u_T := fun k => match k with
  | 0 => ("StreamQuery$Group", "end", "I", true)
  | 1 => ("StreamQuery$Group", "key", "I", true)
  | 2 => ("StreamQuery$Group", "sum", "I", false)
  | 3 => ("StreamQuery$Group", "many", "I", false)
  | 4 => ("StreamQuery$Group", "greatest", "I", false)
  | _ => ("StreamQuery$Group", "next", "LStreamQuery$Group;", false)
def tyX1 : Nat → FieldType := fun k => match k with
  | 0 => .int
  | 1 => .int
  | 2 => .int
  | 3 => .int
  | 4 => .int
  | _ => .object "StreamQuery$Group"
abbrev wsX10 : List Cond := u_ws RX1 TX1 6
theorem nmX1 : ∀ a, a < 6 → ∀ b, b < 6 → a ≠ b → (TX1 a).2.1 ≠ (TX1 b).2.1 := by decide +kernel
theorem tyX1_ok : ∀ k, k < 6 → parseFieldDescriptor (TX1 k).2.2.1 = some (tyX1 k) := by decide +kernel
abbrev cX1_init : ByteArray := prog_3_method_1_code
def yX1_init : MethodName := ⟨RX1, "<init>", "(IILStreamQuery$Group;)V"⟩
abbrev cX1_gather : ByteArray := prog_3_method_2_code
def yX1_gather : MethodName := ⟨RX1, "gather", "(I)V"⟩
abbrev cX1_isBefore : ByteArray := prog_3_method_3_code
def yX1_isBefore : MethodName := ⟨RX1, "isBefore", "(II)Z"⟩
abbrev cX1_isOf : ByteArray := prog_3_method_4_code
def yX1_isOf : MethodName := ⟨RX1, "isOf", "(II)Z"⟩
def RX2 : String := "StreamQuery$Groups"
def TX2 : u_T := fun k => match k with
  | _ => ("StreamQuery$Groups", "head", "LStreamQuery$Group;", true)
def tyX2 : Nat → FieldType := fun k => match k with
  | _ => .object "StreamQuery$Group"
abbrev wsX20 : List Cond := u_ws RX2 TX2 1
theorem nmX2 : ∀ a, a < 1 → ∀ b, b < 1 → a ≠ b → (TX2 a).2.1 ≠ (TX2 b).2.1 := by decide +kernel
theorem tyX2_ok : ∀ k, k < 1 → parseFieldDescriptor (TX2 k).2.2.1 = some (tyX2 k) := by decide +kernel
abbrev cX2_init : ByteArray := prog_4_method_1_code
def yX2_init : MethodName := ⟨RX2, "<init>", "()V"⟩
abbrev cX2_clear : ByteArray := prog_4_method_2_code
def yX2_clear : MethodName := ⟨RX2, "clear", "()V"⟩
abbrev cX2_head : ByteArray := prog_4_method_3_code
def yX2_head : MethodName := ⟨RX2, "head", "()LStreamQuery$Group;"⟩
abbrev cX2_find : ByteArray := prog_4_method_4_code
def yX2_find : MethodName := ⟨RX2, "find", "(II)LStreamQuery$Group;"⟩
abbrev cX2_placeFrom : ByteArray := prog_4_method_5_code
def yX2_placeFrom : MethodName := ⟨RX2, "placeFrom", "(LStreamQuery$Group;II)LStreamQuery$Group;"⟩
abbrev cX2_manyUpTo : ByteArray := prog_4_method_6_code
def yX2_manyUpTo : MethodName := ⟨RX2, "manyUpTo", "(I)I"⟩
abbrev cX2_windowsUpTo : ByteArray := prog_4_method_7_code
def yX2_windowsUpTo : MethodName := ⟨RX2, "windowsUpTo", "(I)I"⟩
abbrev cX2_takeFirst : ByteArray := prog_4_method_8_code
def yX2_takeFirst : MethodName := ⟨RX2, "takeFirst", "()LStreamQuery$Group;"⟩
abbrev cX2_lastBefore : ByteArray := prog_4_method_9_code
def yX2_lastBefore : MethodName := ⟨RX2, "lastBefore", "(LStreamQuery$Group;II)LStreamQuery$Group;"⟩
def RX3 : String := "StreamQuery$Line"
def TX3 : u_T := fun k => match k with
  | 0 => ("StreamQuery$Line", "cells", "[I", true)
  | 1 => ("StreamQuery$Line", "first", "I", false)
  | _ => ("StreamQuery$Line", "size", "I", false)
def tyX3 : Nat → FieldType := fun k => match k with
  | 0 => .array .int
  | 1 => .int
  | _ => .int
abbrev wsX30 : List Cond := u_ws RX3 TX3 3
theorem nmX3 : ∀ a, a < 3 → ∀ b, b < 3 → a ≠ b → (TX3 a).2.1 ≠ (TX3 b).2.1 := by decide +kernel
theorem tyX3_ok : ∀ k, k < 3 → parseFieldDescriptor (TX3 k).2.2.1 = some (tyX3 k) := by decide +kernel
abbrev cX3_init : ByteArray := prog_5_method_1_code
def yX3_init : MethodName := ⟨RX3, "<init>", "()V"⟩
abbrev cX3_clear : ByteArray := prog_5_method_2_code
def yX3_clear : MethodName := ⟨RX3, "clear", "()V"⟩
abbrev cX3_size : ByteArray := prog_5_method_3_code
def yX3_size : MethodName := ⟨RX3, "size", "()I"⟩
abbrev cX3_cell : ByteArray := prog_5_method_4_code
def yX3_cell : MethodName := ⟨RX3, "cell", "(II)I"⟩
abbrev cX3_add : ByteArray := prog_5_method_5_code
def yX3_add : MethodName := ⟨RX3, "add", "(IIIIII)V"⟩
abbrev cX3_dropFirst : ByteArray := prog_5_method_6_code
def yX3_dropFirst : MethodName := ⟨RX3, "dropFirst", "()Z"⟩
abbrev cX3_rowOf : ByteArray := prog_5_method_7_code
def yX3_rowOf : MethodName := ⟨RX3, "rowOf", "(I)I"⟩
def RX4 : String := "StreamQuery"
def TX4 : u_T := fun k => match k with
  | 0 => ("StreamQuery", "ofA", "LStreamQuery$Events;", true)
  | 1 => ("StreamQuery", "ofB", "LStreamQuery$Events;", true)
  | 2 => ("StreamQuery", "groups", "LStreamQuery$Groups;", true)
  | 3 => ("StreamQuery", "queue", "LStreamQuery$Line;", true)
  | 4 => ("StreamQuery", "width", "I", false)
  | 5 => ("StreamQuery", "slide", "I", false)
  | 6 => ("StreamQuery", "lateness", "I", false)
  | 7 => ("StreamQuery", "span", "I", false)
  | 8 => ("StreamQuery", "room", "I", false)
  | 9 => ("StreamQuery", "line", "I", false)
  | 10 => ("StreamQuery", "markOfA", "I", false)
  | 11 => ("StreamQuery", "markOfB", "I", false)
  | 12 => ("StreamQuery", "lateEvents", "I", false)
  | 13 => ("StreamQuery", "pairsTold", "I", false)
  | 14 => ("StreamQuery", "groupsTold", "I", false)
  | _ => ("StreamQuery", "eventsTaken", "I", false)
def tyX4 : Nat → FieldType := fun k => match k with
  | 0 => .object "StreamQuery$Events"
  | 1 => .object "StreamQuery$Events"
  | 2 => .object "StreamQuery$Groups"
  | 3 => .object "StreamQuery$Line"
  | 4 => .int
  | 5 => .int
  | 6 => .int
  | 7 => .int
  | 8 => .int
  | 9 => .int
  | 10 => .int
  | 11 => .int
  | 12 => .int
  | 13 => .int
  | 14 => .int
  | _ => .int
abbrev wsX40 : List Cond := u_ws RX4 TX4 16
theorem nmX4 : ∀ a, a < 16 → ∀ b, b < 16 → a ≠ b → (TX4 a).2.1 ≠ (TX4 b).2.1 := by decide +kernel
theorem tyX4_ok : ∀ k, k < 16 → parseFieldDescriptor (TX4 k).2.2.1 = some (tyX4 k) := by decide +kernel
abbrev cX4_init : ByteArray := prog_1_method_1_code
def yX4_init : MethodName := ⟨RX4, "<init>", "()V"⟩
abbrev cX4_set : ByteArray := prog_1_method_2_code
def yX4_set : MethodName := ⟨RX4, "set", "(IIIIII)I"⟩
abbrev cX4_eventA : ByteArray := prog_1_method_3_code
def yX4_eventA : MethodName := ⟨RX4, "eventA", "(III)I"⟩
abbrev cX4_eventB : ByteArray := prog_1_method_4_code
def yX4_eventB : MethodName := ⟨RX4, "eventB", "(III)I"⟩
abbrev cX4_markA : ByteArray := prog_1_method_5_code
def yX4_markA : MethodName := ⟨RX4, "markA", "(I)I"⟩
abbrev cX4_markB : ByteArray := prog_1_method_6_code
def yX4_markB : MethodName := ⟨RX4, "markB", "(I)I"⟩
abbrev cX4_mark : ByteArray := prog_1_method_7_code
def yX4_mark : MethodName := ⟨RX4, "mark", "()I"⟩
abbrev cX4_available : ByteArray := prog_1_method_8_code
def yX4_available : MethodName := ⟨RX4, "available", "()I"⟩
abbrev cX4_kind : ByteArray := prog_1_method_9_code
def yX4_kind : MethodName := ⟨RX4, "kind", "(I)I"⟩
abbrev cX4_field : ByteArray := prog_1_method_10_code
def yX4_field : MethodName := ⟨RX4, "field", "(II)I"⟩
abbrev cX4_pop : ByteArray := prog_1_method_11_code
def yX4_pop : MethodName := ⟨RX4, "pop", "()Z"⟩
abbrev cX4_look : ByteArray := prog_1_method_12_code
def yX4_look : MethodName := ⟨RX4, "look", "(III)I"⟩
abbrev cX4_event : ByteArray := prog_1_method_13_code
def yX4_event : MethodName := ⟨RX4, "event", "(III)I"⟩
abbrev cX4_count : ByteArray := prog_1_method_14_code
def yX4_count : MethodName := ⟨RX4, "count", "(I)I"⟩
abbrev cX4_startAgain : ByteArray := prog_1_method_15_code
def yX4_startAgain : MethodName := ⟨RX4, "startAgain", "()V"⟩
abbrev cX4_isWithin : ByteArray := prog_1_method_16_code
def yX4_isWithin : MethodName := ⟨RX4, "isWithin", "(III)Z"⟩
abbrev cX4_isTime : ByteArray := prog_1_method_17_code
def yX4_isTime : MethodName := ⟨RX4, "isTime", "(I)Z"⟩
abbrev cX4_areWindows : ByteArray := prog_1_method_18_code
def yX4_areWindows : MethodName := ⟨RX4, "areWindows", "(II)Z"⟩
abbrev cX4_admit : ByteArray := prog_1_method_19_code
def yX4_admit : MethodName := ⟨RX4, "\x61dmit", "(LStreamQuery$Events;II)I"⟩
abbrev cX4_countTaken : ByteArray := prog_1_method_20_code
def yX4_countTaken : MethodName := ⟨RX4, "countTaken", "(I)V"⟩
abbrev cX4_gather : ByteArray := prog_1_method_21_code
def yX4_gather : MethodName := ⟨RX4, "gather", "(III)V"⟩
abbrev cX4_beginningAbove : ByteArray := prog_1_method_22_code
def yX4_beginningAbove : MethodName := ⟨RX4, "beginningAbove", "(I)I"⟩
abbrev cX4_refusalOfMark : ByteArray := prog_1_method_23_code
def yX4_refusalOfMark : MethodName := ⟨RX4, "refusalOfMark", "(II)I"⟩
abbrev cX4_tellWindows : ByteArray := prog_1_method_24_code
def yX4_tellWindows : MethodName := ⟨RX4, "tellWindows", "(I)I"⟩
abbrev cX4_dropEvents : ByteArray := prog_1_method_25_code
def yX4_dropEvents : MethodName := ⟨RX4, "dropEvents", "()V"⟩
def RX5 : String := "StreamQueryModel"
def TX5 : u_T := fun k => match k with
  | 0 => ("StreamQueryModel", "width", "I", false)
  | 1 => ("StreamQueryModel", "slide", "I", false)
  | 2 => ("StreamQueryModel", "lateness", "I", false)
  | 3 => ("StreamQueryModel", "span", "I", false)
  | 4 => ("StreamQueryModel", "room", "I", false)
  | 5 => ("StreamQueryModel", "line", "I", false)
  | 6 => ("StreamQueryModel", "times", "[I", true)
  | 7 => ("StreamQueryModel", "keys", "[I", true)
  | 8 => ("StreamQueryModel", "values", "[I", true)
  | 9 => ("StreamQueryModel", "kept", "[I", true)
  | 10 => ("StreamQueryModel", "marks", "[I", true)
  | 11 => ("StreamQueryModel", "queue", "[I", true)
  | 12 => ("StreamQueryModel", "queued", "I", false)
  | 13 => ("StreamQueryModel", "late", "I", false)
  | 14 => ("StreamQueryModel", "pairs", "I", false)
  | 15 => ("StreamQueryModel", "told", "I", false)
  | 16 => ("StreamQueryModel", "taken", "I", false)
  | 17 => ("StreamQueryModel", "sum", "I", false)
  | 18 => ("StreamQueryModel", "many", "I", false)
  | 19 => ("StreamQueryModel", "greatest", "I", false)
  | _ => ("StreamQueryModel", "records", "I", false)
def tyX5 : Nat → FieldType := fun k => match k with
  | 0 => .int
  | 1 => .int
  | 2 => .int
  | 3 => .int
  | 4 => .int
  | 5 => .int
  | 6 => .array .int
  | 7 => .array .int
  | 8 => .array .int
  | 9 => .array .int
  | 10 => .array .int
  | 11 => .array .int
  | 12 => .int
  | 13 => .int
  | 14 => .int
  | 15 => .int
  | 16 => .int
  | 17 => .int
  | 18 => .int
  | 19 => .int
  | _ => .int
abbrev wsX50 : List Cond := u_ws RX5 TX5 21
theorem nmX5 : ∀ a, a < 21 → ∀ b, b < 21 → a ≠ b → (TX5 a).2.1 ≠ (TX5 b).2.1 := by decide +kernel
theorem tyX5_ok : ∀ k, k < 21 → parseFieldDescriptor (TX5 k).2.2.1 = some (tyX5 k) := by decide +kernel
abbrev cX5_init : ByteArray := prog_7_method_1_code
def yX5_init : MethodName := ⟨RX5, "<init>", "()V"⟩
abbrev cX5_in : ByteArray := prog_7_method_2_code
def yX5_in : MethodName := ⟨RX5, "in", "(III)Z"⟩
abbrev cX5_forget : ByteArray := prog_7_method_3_code
def yX5_forget : MethodName := ⟨RX5, "forget", "()V"⟩
abbrev cX5_set : ByteArray := prog_7_method_4_code
def yX5_set : MethodName := ⟨RX5, "set", "(IIIIII)I"⟩
abbrev cX5_isTime : ByteArray := prog_7_method_5_code
def yX5_isTime : MethodName := ⟨RX5, "isTime", "(I)Z"⟩
abbrev cX5_mark : ByteArray := prog_7_method_6_code
def yX5_mark : MethodName := ⟨RX5, "mark", "()I"⟩
abbrev cX5_areNear : ByteArray := prog_7_method_7_code
def yX5_areNear : MethodName := ⟨RX5, "areNear", "(II)Z"⟩
abbrev cX5_record : ByteArray := prog_7_method_8_code
def yX5_record : MethodName := ⟨RX5, "record", "(IIIIII)V"⟩
abbrev cX5_event : ByteArray := prog_7_method_9_code
def yX5_event : MethodName := ⟨RX5, "event", "(IIIIZ)I"⟩
abbrev cX5_take : ByteArray := prog_7_method_10_code
def yX5_take : MethodName := ⟨RX5, "take", "(IIII)I"⟩
abbrev cX5_eventA : ByteArray := prog_7_method_11_code
def yX5_eventA : MethodName := ⟨RX5, "eventA", "(III)I"⟩
abbrev cX5_eventB : ByteArray := prog_7_method_12_code
def yX5_eventB : MethodName := ⟨RX5, "eventB", "(III)I"⟩
abbrev cX5_lastEnd : ByteArray := prog_7_method_13_code
def yX5_lastEnd : MethodName := ⟨RX5, "lastEnd", "(I)J"⟩
abbrev cX5_isIn : ByteArray := prog_7_method_14_code
def yX5_isIn : MethodName := ⟨RX5, "isIn", "(IJ)Z"⟩
abbrev cX5_isOver : ByteArray := prog_7_method_15_code
def yX5_isOver : MethodName := ⟨RX5, "isOver", "(JJ)Z"⟩
abbrev cX5_nextEnd : ByteArray := prog_7_method_16_code
def yX5_nextEnd : MethodName := ⟨RX5, "nextEnd", "(J)J"⟩
abbrev cX5_nextKey : ByteArray := prog_7_method_17_code
def yX5_nextKey : MethodName := ⟨RX5, "nextKey", "(JJ)J"⟩
abbrev cX5_gather : ByteArray := prog_7_method_18_code
def yX5_gather : MethodName := ⟨RX5, "gather", "(JI)V"⟩
abbrev cX5_goOver : ByteArray := prog_7_method_19_code
def yX5_goOver : MethodName := ⟨RX5, "goOver", "(JJZ)I"⟩
abbrev cX5_isKept : ByteArray := prog_7_method_20_code
def yX5_isKept : MethodName := ⟨RX5, "isKept", "(II)Z"⟩
abbrev cX5_sweep : ByteArray := prog_7_method_21_code
def yX5_sweep : MethodName := ⟨RX5, "sweep", "(I)V"⟩
abbrev cX5_pass : ByteArray := prog_7_method_22_code
def yX5_pass : MethodName := ⟨RX5, "pass", "(II)I"⟩
abbrev cX5_markA : ByteArray := prog_7_method_23_code
def yX5_markA : MethodName := ⟨RX5, "markA", "(I)I"⟩
abbrev cX5_markB : ByteArray := prog_7_method_24_code
def yX5_markB : MethodName := ⟨RX5, "markB", "(I)I"⟩
abbrev cX5_available : ByteArray := prog_7_method_25_code
def yX5_available : MethodName := ⟨RX5, "available", "()I"⟩
abbrev cX5_kind : ByteArray := prog_7_method_26_code
def yX5_kind : MethodName := ⟨RX5, "kind", "(I)I"⟩
abbrev cX5_field : ByteArray := prog_7_method_27_code
def yX5_field : MethodName := ⟨RX5, "field", "(II)I"⟩
abbrev cX5_pop : ByteArray := prog_7_method_28_code
def yX5_pop : MethodName := ⟨RX5, "pop", "()Z"⟩
abbrev cX5_look : ByteArray := prog_7_method_29_code
def yX5_look : MethodName := ⟨RX5, "look", "(III)I"⟩
abbrev cX5_event_ : ByteArray := prog_7_method_30_code
def yX5_event_ : MethodName := ⟨RX5, "event", "(III)I"⟩
abbrev cX5_windows : ByteArray := prog_7_method_31_code
def yX5_windows : MethodName := ⟨RX5, "windows", "()I"⟩
abbrev cX5_count : ByteArray := prog_7_method_32_code
def yX5_count : MethodName := ⟨RX5, "count", "(I)I"⟩
def RJ9 : String := "java/lang/Math"
def TJ9 : u_T := fun k => match k with
  | _ => ("", "", "", false)
def tyJ9 : Nat → FieldType := fun k => match k with
  | _ => .int
abbrev wsJ90 : List Cond := u_ws RJ9 TJ9 0
theorem nmJ9 : ∀ a, a < 0 → ∀ b, b < 0 → a ≠ b → (TJ9 a).2.1 ≠ (TJ9 b).2.1 := by decide +kernel
theorem tyJ9_ok : ∀ k, k < 0 → parseFieldDescriptor (TJ9 k).2.2.1 = some (tyJ9 k) := by decide +kernel
abbrev cJ9_floorDiv_7cf53 : ByteArray := prog_8_method_47_code
def yJ9_floorDiv_7cf53 : MethodName := ⟨RJ9, "floorDiv", "(II)I"⟩
abbrev cJ9_abs_0f7a4 : ByteArray := prog_8_method_59_code
def yJ9_abs_0f7a4 : MethodName := ⟨RJ9, "abs", "(I)I"⟩
abbrev cJ9_max_7cf53 : ByteArray := prog_8_method_65_code
def yJ9_max_7cf53 : MethodName := ⟨RJ9, "max", "(II)I"⟩
abbrev cJ9_min_7cf53 : ByteArray := prog_8_method_69_code
def yJ9_min_7cf53 : MethodName := ⟨RJ9, "min", "(II)I"⟩
def RL : String := "StreamQueryLaw"
abbrev cL_law : ByteArray := code
def yL_law : MethodName := ⟨RL, "law", "([I)Z"⟩
def wsX0_init : List Cond := .code yX0_init cX0_init 1 none :: ([.methodLink RX0 3 objectInit, .instanceMethod objectInit, .code objectInit ⟨#[0xb1]⟩ 1 none, .arrayClass .int, .fieldLink RX0 9 "StreamQuery$Events" "times" "[I", .fieldLink RX0 15 "StreamQuery$Events" "keys" "[I", .fieldLink RX0 18 "StreamQuery$Events" "values" "[I", .fieldLink RX0 21 "StreamQuery$Events" "size" "I"] ++ wsX00)
def wsX0_clear : List Cond := .code yX0_clear cX0_clear 1 none :: ([.fieldLink RX0 21 "StreamQuery$Events" "size" "I"] ++ wsX00)
def wsX0_size : List Cond := .code yX0_size cX0_size 1 (some .int) :: ([.fieldLink RX0 21 "StreamQuery$Events" "size" "I"] ++ wsX00)
def wsX0_has : List Cond := .code yX0_has cX0_has 2 (some .boolean) :: ([.fieldLink RX0 21 "StreamQuery$Events" "size" "I"] ++ wsX00)
def wsX0_time : List Cond := .code yX0_time cX0_time 2 (some .int) :: ([.fieldLink RX0 9 "StreamQuery$Events" "times" "[I", .methodLink RX0 25 yX0_has, .instanceMethod yX0_has, .selects RX0 yX0_has yX0_has, .initialized RX0, .code yX0_has cX0_has 2 (some .boolean), .fieldLink RX0 21 "StreamQuery$Events" "size" "I"] ++ wsX00)
def wsX0_key : List Cond := .code yX0_key cX0_key 2 (some .int) :: ([.fieldLink RX0 15 "StreamQuery$Events" "keys" "[I", .methodLink RX0 25 yX0_has, .instanceMethod yX0_has, .selects RX0 yX0_has yX0_has, .initialized RX0, .code yX0_has cX0_has 2 (some .boolean), .fieldLink RX0 21 "StreamQuery$Events" "size" "I"] ++ wsX00)
def wsX0_value : List Cond := .code yX0_value cX0_value 2 (some .int) :: ([.fieldLink RX0 18 "StreamQuery$Events" "values" "[I", .methodLink RX0 25 yX0_has, .instanceMethod yX0_has, .selects RX0 yX0_has yX0_has, .initialized RX0, .code yX0_has cX0_has 2 (some .boolean), .fieldLink RX0 21 "StreamQuery$Events" "size" "I"] ++ wsX00)
def wsX0_add : List Cond := .code yX0_add cX0_add 4 none :: ([.fieldLink RX0 21 "StreamQuery$Events" "size" "I", .fieldLink RX0 9 "StreamQuery$Events" "times" "[I", .fieldLink RX0 15 "StreamQuery$Events" "keys" "[I", .fieldLink RX0 18 "StreamQuery$Events" "values" "[I"] ++ wsX00)
def wsX0_isNear : List Cond := .code yX0_isNear cX0_isNear 5 (some .boolean) :: ([.fieldLink RX0 15 "StreamQuery$Events" "keys" "[I", .fieldLink RX0 9 "StreamQuery$Events" "times" "[I", .methodLink RX0 29 Lib.Math.abs.name, .static Lib.Math.abs.name, .initialized "java/lang/Math", .code Lib.Math.abs.name Lib.Math.abs.code 1 (some .int), .methodLink RX0 25 yX0_has, .instanceMethod yX0_has, .selects RX0 yX0_has yX0_has, .initialized RX0, .code yX0_has cX0_has 2 (some .boolean), .fieldLink RX0 21 "StreamQuery$Events" "size" "I"] ++ wsX00)
def wsX0_manyNear : List Cond := .code yX0_manyNear cX0_manyNear 6 (some .int) :: ([.fieldLink RX0 21 "StreamQuery$Events" "size" "I", .methodLink RX0 35 yX0_isNear, .instanceMethod yX0_isNear, .selects RX0 yX0_isNear yX0_isNear, .initialized RX0, .code yX0_isNear cX0_isNear 5 (some .boolean), .fieldLink RX0 15 "StreamQuery$Events" "keys" "[I", .fieldLink RX0 9 "StreamQuery$Events" "times" "[I", .methodLink RX0 29 Lib.Math.abs.name, .static Lib.Math.abs.name, .initialized "java/lang/Math", .code Lib.Math.abs.name Lib.Math.abs.code 1 (some .int), .methodLink RX0 25 yX0_has, .instanceMethod yX0_has, .selects RX0 yX0_has yX0_has, .code yX0_has cX0_has 2 (some .boolean)] ++ wsX00)
def wsX0_dropBelow : List Cond := .code yX0_dropBelow cX0_dropBelow 4 none :: ([.fieldLink RX0 21 "StreamQuery$Events" "size" "I", .fieldLink RX0 9 "StreamQuery$Events" "times" "[I", .fieldLink RX0 15 "StreamQuery$Events" "keys" "[I", .fieldLink RX0 18 "StreamQuery$Events" "values" "[I", .methodLink RX0 39 yX0_add, .instanceMethod yX0_add, .selects RX0 yX0_add yX0_add, .initialized RX0, .code yX0_add cX0_add 4 none] ++ wsX00)
def wsX1_init : List Cond := .code yX1_init cX1_init 4 none :: ([.methodLink RX1 1 objectInit, .instanceMethod objectInit, .code objectInit ⟨#[0xb1]⟩ 1 none, .fieldLink RX1 7 "StreamQuery$Group" "sum" "I", .fieldLink RX1 13 "StreamQuery$Group" "many" "I", .constant RX1 18 (-2147483648), .fieldLink RX1 19 "StreamQuery$Group" "greatest" "I", .fieldLink RX1 22 "StreamQuery$Group" "end" "I", .fieldLink RX1 25 "StreamQuery$Group" "key" "I", .fieldLink RX1 28 "StreamQuery$Group" "next" "LStreamQuery$Group;"] ++ wsX10)
def wsX1_gather : List Cond := .code yX1_gather cX1_gather 2 none :: ([.fieldLink RX1 7 "StreamQuery$Group" "sum" "I", .fieldLink RX1 13 "StreamQuery$Group" "many" "I", .fieldLink RX1 19 "StreamQuery$Group" "greatest" "I", .methodLink RX1 32 Lib.Math.max.name, .static Lib.Math.max.name, .initialized "java/lang/Math", .code Lib.Math.max.name Lib.Math.max.code 2 (some .int)] ++ wsX10)
def wsX1_isBefore : List Cond := .code yX1_isBefore cX1_isBefore 3 (some .boolean) :: ([.fieldLink RX1 22 "StreamQuery$Group" "end" "I", .fieldLink RX1 25 "StreamQuery$Group" "key" "I"] ++ wsX10)
def wsX1_isOf : List Cond := .code yX1_isOf cX1_isOf 3 (some .boolean) :: ([.fieldLink RX1 22 "StreamQuery$Group" "end" "I", .fieldLink RX1 25 "StreamQuery$Group" "key" "I"] ++ wsX10)
def wsX2_init : List Cond := .code yX2_init cX2_init 1 none :: ([.methodLink RX2 1 objectInit, .instanceMethod objectInit, .code objectInit ⟨#[0xb1]⟩ 1 none, .classLink RX2 7 RX1, .instantiable RX1 6, .initialized RX1, .constant RX2 11 (-2147483648), .fieldLink RX2 15 "StreamQuery$Groups" "head" "LStreamQuery$Group;", .methodLink RX2 12 yX1_init, .instanceMethod yX1_init, .code yX1_init cX1_init 4 none, .methodLink RX1 1 objectInit, .fieldLink RX1 7 "StreamQuery$Group" "sum" "I", .fieldLink RX1 13 "StreamQuery$Group" "many" "I", .constant RX1 18 (-2147483648), .fieldLink RX1 19 "StreamQuery$Group" "greatest" "I", .fieldLink RX1 22 "StreamQuery$Group" "end" "I", .fieldLink RX1 25 "StreamQuery$Group" "key" "I", .fieldLink RX1 28 "StreamQuery$Group" "next" "LStreamQuery$Group;"] ++ wsX10 ++ wsX20)
def wsX2_clear : List Cond := .code yX2_clear cX2_clear 1 none :: ([.fieldLink RX2 15 "StreamQuery$Groups" "head" "LStreamQuery$Group;"] ++ wsX20 ++ wsX10)
def wsX2_head : List Cond := .code yX2_head cX2_head 1 (some (.object "StreamQuery$Group")) :: ([.fieldLink RX2 15 "StreamQuery$Groups" "head" "LStreamQuery$Group;"] ++ wsX20)
def wsX2_lastBefore : List Cond := .code yX2_lastBefore cX2_lastBefore 4 (some (.object "StreamQuery$Group")) :: ([.methodLink RX2 36 yX1_isBefore, .instanceMethod yX1_isBefore, .selects RX1 yX1_isBefore yX1_isBefore, .initialized RX1, .code yX1_isBefore cX1_isBefore 3 (some .boolean), .fieldLink RX1 22 "StreamQuery$Group" "end" "I", .fieldLink RX1 25 "StreamQuery$Group" "key" "I"] ++ wsX10)
def wsX2_find : List Cond := .code yX2_find cX2_find 4 (some (.object "StreamQuery$Group")) :: ([.fieldLink RX2 15 "StreamQuery$Groups" "head" "LStreamQuery$Group;", .methodLink RX2 24 yX2_lastBefore, .static yX2_lastBefore, .initialized RX2, .code yX2_lastBefore cX2_lastBefore 4 (some (.object "StreamQuery$Group")), .methodLink RX2 36 yX1_isBefore, .instanceMethod yX1_isBefore, .selects RX1 yX1_isBefore yX1_isBefore, .initialized RX1, .code yX1_isBefore cX1_isBefore 3 (some .boolean), .fieldLink RX1 22 "StreamQuery$Group" "end" "I", .fieldLink RX1 25 "StreamQuery$Group" "key" "I", .methodLink RX2 28 yX1_isOf, .instanceMethod yX1_isOf, .selects RX1 yX1_isOf yX1_isOf, .code yX1_isOf cX1_isOf 3 (some .boolean)] ++ wsX20 ++ wsX10)
def wsX2_placeFrom_r1 : List Cond := [Cond.classLink RX2 7 RX1, Cond.instantiable RX1 6, Cond.initialized RX1, Cond.methodLink RX2 24 yX2_lastBefore, Cond.static yX2_lastBefore, Cond.initialized RX2, Cond.code yX2_lastBefore cX2_lastBefore 4 (some (.object "StreamQuery$Group")), Cond.methodLink RX2 36 yX1_isBefore, Cond.instanceMethod yX1_isBefore, Cond.selects RX1 yX1_isBefore yX1_isBefore, Cond.code yX1_isBefore cX1_isBefore 3 (some .boolean), Cond.fieldLink RX1 22 "StreamQuery$Group" "end" "I", Cond.fieldLink RX1 25 "StreamQuery$Group" "key" "I", Cond.methodLink RX2 28 yX1_isOf, Cond.instanceMethod yX1_isOf, Cond.selects RX1 yX1_isOf yX1_isOf, Cond.code yX1_isOf cX1_isOf 3 (some .boolean), Cond.methodLink RX2 12 yX1_init, Cond.instanceMethod yX1_init, Cond.code yX1_init cX1_init 4 none, Cond.methodLink RX1 1 objectInit, Cond.instanceMethod objectInit, Cond.code objectInit ⟨#[0xb1]⟩ 1 none, Cond.fieldLink RX1 7 "StreamQuery$Group" "sum" "I"]
def wsX2_placeFrom_r2 : List Cond := [Cond.fieldLink RX1 13 "StreamQuery$Group" "many" "I", Cond.constant RX1 18 (-2147483648), Cond.fieldLink RX1 19 "StreamQuery$Group" "greatest" "I", Cond.fieldLink RX1 28 "StreamQuery$Group" "next" "LStreamQuery$Group;"]
def wsX2_placeFrom : List Cond := .code yX2_placeFrom cX2_placeFrom 6 (some (.object "StreamQuery$Group")) :: ((wsX2_placeFrom_r1 ++ wsX2_placeFrom_r2) ++ wsX10)
def wsX2_manyUpTo : List Cond := .code yX2_manyUpTo cX2_manyUpTo 4 (some .int) :: ([.fieldLink RX2 15 "StreamQuery$Groups" "head" "LStreamQuery$Group;"] ++ wsX20 ++ wsX10)
def wsX2_windowsUpTo : List Cond := .code yX2_windowsUpTo cX2_windowsUpTo 5 (some .int) :: ([.fieldLink RX2 15 "StreamQuery$Groups" "head" "LStreamQuery$Group;"] ++ wsX20 ++ wsX10)
def wsX2_takeFirst : List Cond := .code yX2_takeFirst cX2_takeFirst 2 (some (.object "StreamQuery$Group")) :: ([.fieldLink RX2 15 "StreamQuery$Groups" "head" "LStreamQuery$Group;"] ++ wsX20 ++ wsX10)
def wsX3_init : List Cond := .code yX3_init cX3_init 1 none :: ([.methodLink RX3 3 objectInit, .instanceMethod objectInit, .code objectInit ⟨#[0xb1]⟩ 1 none, .arrayClass .int, .fieldLink RX3 11 "StreamQuery$Line" "cells" "[I", .fieldLink RX3 15 "StreamQuery$Line" "first" "I", .fieldLink RX3 19 "StreamQuery$Line" "size" "I"] ++ wsX30)
def wsX3_clear : List Cond := .code yX3_clear cX3_clear 1 none :: ([.fieldLink RX3 15 "StreamQuery$Line" "first" "I", .fieldLink RX3 19 "StreamQuery$Line" "size" "I"] ++ wsX30)
def wsX3_size : List Cond := .code yX3_size cX3_size 1 (some .int) :: ([.fieldLink RX3 19 "StreamQuery$Line" "size" "I"] ++ wsX30)
def wsX4_isWithin : List Cond := .code yX4_isWithin cX4_isWithin 3 (some .boolean) :: ([])
def wsX3_rowOf : List Cond := .code yX3_rowOf cX3_rowOf 2 (some .int) :: ([.fieldLink RX3 15 "StreamQuery$Line" "first" "I"] ++ wsX30)
def wsX3_cell : List Cond := .code yX3_cell cX3_cell 4 (some .int) :: ([.fieldLink RX3 19 "StreamQuery$Line" "size" "I", .fieldLink RX3 11 "StreamQuery$Line" "cells" "[I", .static yX4_isWithin, .initialized RX4, .code yX4_isWithin cX4_isWithin 3 (some .boolean), .methodLink RX3 26 yX3_rowOf, .instanceMethod yX3_rowOf, .selects RX3 yX3_rowOf yX3_rowOf, .initialized RX3, .code yX3_rowOf cX3_rowOf 2 (some .int), .fieldLink RX3 15 "StreamQuery$Line" "first" "I"] ++ wsX30)
def wsX3_add : List Cond := .code yX3_add cX3_add 8 none :: ([.fieldLink RX3 19 "StreamQuery$Line" "size" "I", .fieldLink RX3 11 "StreamQuery$Line" "cells" "[I", .methodLink RX3 26 yX3_rowOf, .instanceMethod yX3_rowOf, .selects RX3 yX3_rowOf yX3_rowOf, .initialized RX3, .code yX3_rowOf cX3_rowOf 2 (some .int), .fieldLink RX3 15 "StreamQuery$Line" "first" "I"] ++ wsX30)
def wsX3_dropFirst : List Cond := .code yX3_dropFirst cX3_dropFirst 1 (some .boolean) :: ([.fieldLink RX3 19 "StreamQuery$Line" "size" "I", .fieldLink RX3 15 "StreamQuery$Line" "first" "I"] ++ wsX30)
def wsX4_startAgain_r1 : List Cond := [Cond.fieldLink RX4 10 "StreamQuery" "ofA" "LStreamQuery$Events;", Cond.fieldLink RX4 16 "StreamQuery" "ofB" "LStreamQuery$Events;", Cond.fieldLink RX4 22 "StreamQuery" "groups" "LStreamQuery$Groups;", Cond.fieldLink RX4 29 "StreamQuery" "queue" "LStreamQuery$Line;", Cond.constant RX4 167 (-2000000000), Cond.fieldLink RX4 97 "StreamQuery" "markOfA" "I", Cond.fieldLink RX4 104 "StreamQuery" "markOfB" "I", Cond.fieldLink RX4 144 "StreamQuery" "lateEvents" "I", Cond.fieldLink RX4 153 "StreamQuery" "pairsTold" "I", Cond.fieldLink RX4 156 "StreamQuery" "groupsTold" "I", Cond.fieldLink RX4 159 "StreamQuery" "eventsTaken" "I", Cond.methodLink RX4 162 yX0_clear, Cond.instanceMethod yX0_clear, Cond.selects RX0 yX0_clear yX0_clear, Cond.initialized RX0, Cond.code yX0_clear cX0_clear 1 none, Cond.fieldLink RX0 21 "StreamQuery$Events" "size" "I", Cond.methodLink RX4 165 yX2_clear, Cond.instanceMethod yX2_clear, Cond.selects RX2 yX2_clear yX2_clear, Cond.initialized RX2, Cond.code yX2_clear cX2_clear 1 none, Cond.fieldLink RX2 15 "StreamQuery$Groups" "head" "LStreamQuery$Group;", Cond.methodLink RX4 166 yX3_clear]
def wsX4_startAgain_r2 : List Cond := [Cond.instanceMethod yX3_clear, Cond.selects RX3 yX3_clear yX3_clear, Cond.initialized RX3, Cond.code yX3_clear cX3_clear 1 none, Cond.fieldLink RX3 15 "StreamQuery$Line" "first" "I", Cond.fieldLink RX3 19 "StreamQuery$Line" "size" "I"]
def wsX4_startAgain : List Cond := .code yX4_startAgain cX4_startAgain 1 none :: ((wsX4_startAgain_r1 ++ wsX4_startAgain_r2) ++ wsX40 ++ wsX00 ++ wsX20 ++ wsX10 ++ wsX30)
def wsX4_init_r1 : List Cond := [Cond.methodLink RX4 1 objectInit, Cond.instanceMethod objectInit, Cond.code objectInit ⟨#[0xb1]⟩ 1 none, Cond.classLink RX4 7 RX0, Cond.instantiable RX0 4, Cond.initialized RX0, Cond.fieldLink RX4 10 "StreamQuery" "ofA" "LStreamQuery$Events;", Cond.fieldLink RX4 16 "StreamQuery" "ofB" "LStreamQuery$Events;", Cond.classLink RX4 19 RX2, Cond.instantiable RX2 1, Cond.initialized RX2, Cond.fieldLink RX4 22 "StreamQuery" "groups" "LStreamQuery$Groups;", Cond.classLink RX4 26 RX3, Cond.instantiable RX3 3, Cond.initialized RX3, Cond.fieldLink RX4 29 "StreamQuery" "queue" "LStreamQuery$Line;", Cond.fieldLink RX4 33 "StreamQuery" "width" "I", Cond.fieldLink RX4 37 "StreamQuery" "slide" "I", Cond.fieldLink RX4 40 "StreamQuery" "lateness" "I", Cond.fieldLink RX4 43 "StreamQuery" "span" "I", Cond.fieldLink RX4 46 "StreamQuery" "room" "I", Cond.fieldLink RX4 49 "StreamQuery" "line" "I", Cond.instanceMethod yX0_init, Cond.code yX0_init cX0_init 1 none]
def wsX4_init_r2 : List Cond := [Cond.methodLink RX0 3 objectInit, Cond.arrayClass .int, Cond.fieldLink RX0 9 "StreamQuery$Events" "times" "[I", Cond.fieldLink RX0 15 "StreamQuery$Events" "keys" "[I", Cond.fieldLink RX0 18 "StreamQuery$Events" "values" "[I", Cond.fieldLink RX0 21 "StreamQuery$Events" "size" "I", Cond.instanceMethod yX2_init, Cond.code yX2_init cX2_init 1 none, Cond.methodLink RX2 1 objectInit, Cond.classLink RX2 7 RX1, Cond.instantiable RX1 6, Cond.initialized RX1, Cond.constant RX2 11 (-2147483648), Cond.fieldLink RX2 15 "StreamQuery$Groups" "head" "LStreamQuery$Group;", Cond.methodLink RX2 12 yX1_init, Cond.instanceMethod yX1_init, Cond.code yX1_init cX1_init 4 none, Cond.methodLink RX1 1 objectInit, Cond.fieldLink RX1 7 "StreamQuery$Group" "sum" "I", Cond.fieldLink RX1 13 "StreamQuery$Group" "many" "I", Cond.constant RX1 18 (-2147483648), Cond.fieldLink RX1 19 "StreamQuery$Group" "greatest" "I", Cond.fieldLink RX1 22 "StreamQuery$Group" "end" "I", Cond.fieldLink RX1 25 "StreamQuery$Group" "key" "I"]
def wsX4_init_r3 : List Cond := [Cond.fieldLink RX1 28 "StreamQuery$Group" "next" "LStreamQuery$Group;", Cond.instanceMethod yX3_init, Cond.code yX3_init cX3_init 1 none, Cond.methodLink RX3 3 objectInit, Cond.fieldLink RX3 11 "StreamQuery$Line" "cells" "[I", Cond.fieldLink RX3 15 "StreamQuery$Line" "first" "I", Cond.fieldLink RX3 19 "StreamQuery$Line" "size" "I", Cond.methodLink RX4 52 yX4_startAgain, Cond.instanceMethod yX4_startAgain, Cond.selects RX4 yX4_startAgain yX4_startAgain, Cond.initialized RX4, Cond.code yX4_startAgain cX4_startAgain 1 none, Cond.constant RX4 167 (-2000000000), Cond.fieldLink RX4 97 "StreamQuery" "markOfA" "I", Cond.fieldLink RX4 104 "StreamQuery" "markOfB" "I", Cond.fieldLink RX4 144 "StreamQuery" "lateEvents" "I", Cond.fieldLink RX4 153 "StreamQuery" "pairsTold" "I", Cond.fieldLink RX4 156 "StreamQuery" "groupsTold" "I", Cond.fieldLink RX4 159 "StreamQuery" "eventsTaken" "I", Cond.methodLink RX4 162 yX0_clear, Cond.instanceMethod yX0_clear, Cond.selects RX0 yX0_clear yX0_clear, Cond.code yX0_clear cX0_clear 1 none, Cond.methodLink RX4 165 yX2_clear]
def wsX4_init_r4 : List Cond := [Cond.instanceMethod yX2_clear, Cond.selects RX2 yX2_clear yX2_clear, Cond.code yX2_clear cX2_clear 1 none, Cond.methodLink RX4 166 yX3_clear, Cond.instanceMethod yX3_clear, Cond.selects RX3 yX3_clear yX3_clear, Cond.code yX3_clear cX3_clear 1 none]
def wsX4_init : List Cond := .code yX4_init cX4_init 1 none :: ((wsX4_init_r1 ++ (wsX4_init_r2 ++ (wsX4_init_r3 ++ wsX4_init_r4))) ++ wsX00 ++ wsX40 ++ wsX20 ++ wsX30 ++ wsX10)
def wsX4_areWindows : List Cond := .code yX4_areWindows cX4_areWindows 2 (some .boolean) :: ([.constant RX4 59 (1000000), .methodLink RX4 60 yX4_isWithin, .static yX4_isWithin, .initialized RX4, .code yX4_isWithin cX4_isWithin 3 (some .boolean)])
def wsX4_set_r1 : List Cond := [Cond.constant RX4 59 (1000000), Cond.fieldLink RX4 33 "StreamQuery" "width" "I", Cond.fieldLink RX4 37 "StreamQuery" "slide" "I", Cond.fieldLink RX4 40 "StreamQuery" "lateness" "I", Cond.fieldLink RX4 43 "StreamQuery" "span" "I", Cond.fieldLink RX4 46 "StreamQuery" "room" "I", Cond.fieldLink RX4 49 "StreamQuery" "line" "I", Cond.methodLink RX4 55 yX4_areWindows, Cond.static yX4_areWindows, Cond.initialized RX4, Cond.code yX4_areWindows cX4_areWindows 2 (some .boolean), Cond.methodLink RX4 60 yX4_isWithin, Cond.static yX4_isWithin, Cond.code yX4_isWithin cX4_isWithin 3 (some .boolean), Cond.methodLink RX4 52 yX4_startAgain, Cond.instanceMethod yX4_startAgain, Cond.selects RX4 yX4_startAgain yX4_startAgain, Cond.code yX4_startAgain cX4_startAgain 1 none, Cond.fieldLink RX4 10 "StreamQuery" "ofA" "LStreamQuery$Events;", Cond.fieldLink RX4 16 "StreamQuery" "ofB" "LStreamQuery$Events;", Cond.fieldLink RX4 22 "StreamQuery" "groups" "LStreamQuery$Groups;", Cond.fieldLink RX4 29 "StreamQuery" "queue" "LStreamQuery$Line;", Cond.constant RX4 167 (-2000000000), Cond.fieldLink RX4 97 "StreamQuery" "markOfA" "I"]
def wsX4_set_r2 : List Cond := [Cond.fieldLink RX4 104 "StreamQuery" "markOfB" "I", Cond.fieldLink RX4 144 "StreamQuery" "lateEvents" "I", Cond.fieldLink RX4 153 "StreamQuery" "pairsTold" "I", Cond.fieldLink RX4 156 "StreamQuery" "groupsTold" "I", Cond.fieldLink RX4 159 "StreamQuery" "eventsTaken" "I", Cond.methodLink RX4 162 yX0_clear, Cond.instanceMethod yX0_clear, Cond.selects RX0 yX0_clear yX0_clear, Cond.initialized RX0, Cond.code yX0_clear cX0_clear 1 none, Cond.fieldLink RX0 21 "StreamQuery$Events" "size" "I", Cond.methodLink RX4 165 yX2_clear, Cond.instanceMethod yX2_clear, Cond.selects RX2 yX2_clear yX2_clear, Cond.initialized RX2, Cond.code yX2_clear cX2_clear 1 none, Cond.fieldLink RX2 15 "StreamQuery$Groups" "head" "LStreamQuery$Group;", Cond.methodLink RX4 166 yX3_clear, Cond.instanceMethod yX3_clear, Cond.selects RX3 yX3_clear yX3_clear, Cond.initialized RX3, Cond.code yX3_clear cX3_clear 1 none, Cond.fieldLink RX3 15 "StreamQuery$Line" "first" "I", Cond.fieldLink RX3 19 "StreamQuery$Line" "size" "I"]
def wsX4_set : List Cond := .code yX4_set cX4_set 7 (some .int) :: ((wsX4_set_r1 ++ wsX4_set_r2) ++ wsX40 ++ wsX00 ++ wsX20 ++ wsX10 ++ wsX30)
def wsX4_isTime : List Cond := .code yX4_isTime cX4_isTime 1 (some .boolean) :: ([.constant RX4 168 (-1000000000), .constant RX4 169 (1000000000), .methodLink RX4 60 yX4_isWithin, .static yX4_isWithin, .initialized RX4, .code yX4_isWithin cX4_isWithin 3 (some .boolean)])
def wsX4_mark : List Cond := .code yX4_mark cX4_mark 1 (some .int) :: ([.fieldLink RX4 97 "StreamQuery" "markOfA" "I", .fieldLink RX4 104 "StreamQuery" "markOfB" "I", .methodLink RX4 107 Lib.Math.min.name, .static Lib.Math.min.name, .initialized "java/lang/Math", .code Lib.Math.min.name Lib.Math.min.code 2 (some .int)] ++ wsX40)
def wsX4_admit_r1 : List Cond := [Cond.fieldLink RX4 40 "StreamQuery" "lateness" "I", Cond.fieldLink RX4 144 "StreamQuery" "lateEvents" "I", Cond.fieldLink RX4 10 "StreamQuery" "ofA" "LStreamQuery$Events;", Cond.fieldLink RX4 16 "StreamQuery" "ofB" "LStreamQuery$Events;", Cond.fieldLink RX4 46 "StreamQuery" "room" "I", Cond.fieldLink RX4 43 "StreamQuery" "span" "I", Cond.fieldLink RX4 29 "StreamQuery" "queue" "LStreamQuery$Line;", Cond.fieldLink RX4 49 "StreamQuery" "line" "I", Cond.methodLink RX4 170 yX4_isTime, Cond.static yX4_isTime, Cond.initialized RX4, Cond.code yX4_isTime cX4_isTime 1 (some .boolean), Cond.constant RX4 168 (-1000000000), Cond.constant RX4 169 (1000000000), Cond.methodLink RX4 60 yX4_isWithin, Cond.static yX4_isWithin, Cond.code yX4_isWithin cX4_isWithin 3 (some .boolean), Cond.methodLink RX4 174 yX4_mark, Cond.instanceMethod yX4_mark, Cond.selects RX4 yX4_mark yX4_mark, Cond.code yX4_mark cX4_mark 1 (some .int), Cond.fieldLink RX4 97 "StreamQuery" "markOfA" "I", Cond.fieldLink RX4 104 "StreamQuery" "markOfB" "I", Cond.methodLink RX4 107 Lib.Math.min.name]
def wsX4_admit_r2 : List Cond := [Cond.static Lib.Math.min.name, Cond.initialized "java/lang/Math", Cond.code Lib.Math.min.name Lib.Math.min.code 2 (some .int), Cond.methodLink RX4 68 yX0_size, Cond.instanceMethod yX0_size, Cond.selects RX0 yX0_size yX0_size, Cond.initialized RX0, Cond.code yX0_size cX0_size 1 (some .int), Cond.fieldLink RX0 21 "StreamQuery$Events" "size" "I", Cond.methodLink RX4 177 yX0_manyNear, Cond.instanceMethod yX0_manyNear, Cond.selects RX0 yX0_manyNear yX0_manyNear, Cond.code yX0_manyNear cX0_manyNear 6 (some .int), Cond.methodLink RX0 35 yX0_isNear, Cond.instanceMethod yX0_isNear, Cond.selects RX0 yX0_isNear yX0_isNear, Cond.code yX0_isNear cX0_isNear 5 (some .boolean), Cond.fieldLink RX0 15 "StreamQuery$Events" "keys" "[I", Cond.fieldLink RX0 9 "StreamQuery$Events" "times" "[I", Cond.methodLink RX0 29 Lib.Math.abs.name, Cond.static Lib.Math.abs.name, Cond.code Lib.Math.abs.name Lib.Math.abs.code 1 (some .int), Cond.methodLink RX0 25 yX0_has, Cond.instanceMethod yX0_has]
def wsX4_admit_r3 : List Cond := [Cond.selects RX0 yX0_has yX0_has, Cond.code yX0_has cX0_has 2 (some .boolean), Cond.methodLink RX4 118 yX3_size, Cond.instanceMethod yX3_size, Cond.selects RX3 yX3_size yX3_size, Cond.initialized RX3, Cond.code yX3_size cX3_size 1 (some .int), Cond.fieldLink RX3 19 "StreamQuery$Line" "size" "I"]
def wsX4_admit : List Cond := .code yX4_admit cX4_admit 5 (some .int) :: ((wsX4_admit_r1 ++ (wsX4_admit_r2 ++ wsX4_admit_r3)) ++ wsX40 ++ wsX00 ++ wsX30)
def wsJ9_floorDiv_7cf53 : List Cond := .code yJ9_floorDiv_7cf53 cJ9_floorDiv_7cf53 3 (some .int) :: ([])
def wsX4_beginningAbove : List Cond := .code yX4_beginningAbove cX4_beginningAbove 2 (some .int) :: ([.fieldLink RX4 37 "StreamQuery" "slide" "I", .methodLink RX4 194 yJ9_floorDiv_7cf53, .static yJ9_floorDiv_7cf53, .initialized RJ9, .code yJ9_floorDiv_7cf53 cJ9_floorDiv_7cf53 3 (some .int)] ++ wsX40)
def wsX4_gather_r1 : List Cond := [Cond.fieldLink RX4 22 "StreamQuery" "groups" "LStreamQuery$Groups;", Cond.fieldLink RX4 33 "StreamQuery" "width" "I", Cond.fieldLink RX4 37 "StreamQuery" "slide" "I", Cond.methodLink RX4 181 yX2_head, Cond.instanceMethod yX2_head, Cond.selects RX2 yX2_head yX2_head, Cond.initialized RX2, Cond.code yX2_head cX2_head 1 (some (.object "StreamQuery$Group")), Cond.fieldLink RX2 15 "StreamQuery$Groups" "head" "LStreamQuery$Group;", Cond.methodLink RX4 185 yX4_beginningAbove, Cond.instanceMethod yX4_beginningAbove, Cond.selects RX4 yX4_beginningAbove yX4_beginningAbove, Cond.initialized RX4, Cond.code yX4_beginningAbove cX4_beginningAbove 2 (some .int), Cond.methodLink RX4 194 yJ9_floorDiv_7cf53, Cond.static yJ9_floorDiv_7cf53, Cond.initialized RJ9, Cond.code yJ9_floorDiv_7cf53 cJ9_floorDiv_7cf53 3 (some .int), Cond.methodLink RX4 188 yX2_placeFrom, Cond.instanceMethod yX2_placeFrom, Cond.selects RX2 yX2_placeFrom yX2_placeFrom, Cond.code yX2_placeFrom cX2_placeFrom 6 (some (.object "StreamQuery$Group")), Cond.classLink RX2 7 RX1, Cond.instantiable RX1 6]
def wsX4_gather_r2 : List Cond := [Cond.initialized RX1, Cond.methodLink RX2 24 yX2_lastBefore, Cond.static yX2_lastBefore, Cond.code yX2_lastBefore cX2_lastBefore 4 (some (.object "StreamQuery$Group")), Cond.methodLink RX2 36 yX1_isBefore, Cond.instanceMethod yX1_isBefore, Cond.selects RX1 yX1_isBefore yX1_isBefore, Cond.code yX1_isBefore cX1_isBefore 3 (some .boolean), Cond.fieldLink RX1 22 "StreamQuery$Group" "end" "I", Cond.fieldLink RX1 25 "StreamQuery$Group" "key" "I", Cond.methodLink RX2 28 yX1_isOf, Cond.instanceMethod yX1_isOf, Cond.selects RX1 yX1_isOf yX1_isOf, Cond.code yX1_isOf cX1_isOf 3 (some .boolean), Cond.methodLink RX2 12 yX1_init, Cond.instanceMethod yX1_init, Cond.code yX1_init cX1_init 4 none, Cond.methodLink RX1 1 objectInit, Cond.instanceMethod objectInit, Cond.code objectInit ⟨#[0xb1]⟩ 1 none, Cond.fieldLink RX1 7 "StreamQuery$Group" "sum" "I", Cond.fieldLink RX1 13 "StreamQuery$Group" "many" "I", Cond.constant RX1 18 (-2147483648), Cond.fieldLink RX1 19 "StreamQuery$Group" "greatest" "I"]
def wsX4_gather_r3 : List Cond := [Cond.fieldLink RX1 28 "StreamQuery$Group" "next" "LStreamQuery$Group;", Cond.methodLink RX4 192 yX1_gather, Cond.instanceMethod yX1_gather, Cond.selects RX1 yX1_gather yX1_gather, Cond.code yX1_gather cX1_gather 2 none, Cond.methodLink RX1 32 Lib.Math.max.name, Cond.static Lib.Math.max.name, Cond.initialized "java/lang/Math", Cond.code Lib.Math.max.name Lib.Math.max.code 2 (some .int)]
def wsX4_gather : List Cond := .code yX4_gather cX4_gather 7 none :: ((wsX4_gather_r1 ++ (wsX4_gather_r2 ++ wsX4_gather_r3)) ++ wsX40 ++ wsX20 ++ wsX10)
def wsX4_countTaken : List Cond := .code yX4_countTaken cX4_countTaken 2 none :: ([.fieldLink RX4 153 "StreamQuery" "pairsTold" "I", .fieldLink RX4 159 "StreamQuery" "eventsTaken" "I"] ++ wsX40)
def wsX4_eventA_r1 : List Cond := [Cond.fieldLink RX4 16 "StreamQuery" "ofB" "LStreamQuery$Events;", Cond.fieldLink RX4 43 "StreamQuery" "span" "I", Cond.fieldLink RX4 29 "StreamQuery" "queue" "LStreamQuery$Line;", Cond.fieldLink RX4 10 "StreamQuery" "ofA" "LStreamQuery$Events;", Cond.methodLink RX4 64 yX4_admit, Cond.instanceMethod yX4_admit, Cond.selects RX4 yX4_admit yX4_admit, Cond.initialized RX4, Cond.code yX4_admit cX4_admit 5 (some .int), Cond.fieldLink RX4 40 "StreamQuery" "lateness" "I", Cond.fieldLink RX4 144 "StreamQuery" "lateEvents" "I", Cond.fieldLink RX4 46 "StreamQuery" "room" "I", Cond.fieldLink RX4 49 "StreamQuery" "line" "I", Cond.methodLink RX4 170 yX4_isTime, Cond.static yX4_isTime, Cond.code yX4_isTime cX4_isTime 1 (some .boolean), Cond.constant RX4 168 (-1000000000), Cond.constant RX4 169 (1000000000), Cond.methodLink RX4 60 yX4_isWithin, Cond.static yX4_isWithin, Cond.code yX4_isWithin cX4_isWithin 3 (some .boolean), Cond.methodLink RX4 174 yX4_mark, Cond.instanceMethod yX4_mark, Cond.selects RX4 yX4_mark yX4_mark]
def wsX4_eventA_r2 : List Cond := [Cond.code yX4_mark cX4_mark 1 (some .int), Cond.fieldLink RX4 97 "StreamQuery" "markOfA" "I", Cond.fieldLink RX4 104 "StreamQuery" "markOfB" "I", Cond.methodLink RX4 107 Lib.Math.min.name, Cond.static Lib.Math.min.name, Cond.initialized "java/lang/Math", Cond.code Lib.Math.min.name Lib.Math.min.code 2 (some .int), Cond.methodLink RX4 68 yX0_size, Cond.instanceMethod yX0_size, Cond.selects RX0 yX0_size yX0_size, Cond.initialized RX0, Cond.code yX0_size cX0_size 1 (some .int), Cond.fieldLink RX0 21 "StreamQuery$Events" "size" "I", Cond.methodLink RX4 177 yX0_manyNear, Cond.instanceMethod yX0_manyNear, Cond.selects RX0 yX0_manyNear yX0_manyNear, Cond.code yX0_manyNear cX0_manyNear 6 (some .int), Cond.methodLink RX0 35 yX0_isNear, Cond.instanceMethod yX0_isNear, Cond.selects RX0 yX0_isNear yX0_isNear, Cond.code yX0_isNear cX0_isNear 5 (some .boolean), Cond.fieldLink RX0 15 "StreamQuery$Events" "keys" "[I", Cond.fieldLink RX0 9 "StreamQuery$Events" "times" "[I", Cond.methodLink RX0 29 Lib.Math.abs.name]
def wsX4_eventA_r3 : List Cond := [Cond.static Lib.Math.abs.name, Cond.code Lib.Math.abs.name Lib.Math.abs.code 1 (some .int), Cond.methodLink RX0 25 yX0_has, Cond.instanceMethod yX0_has, Cond.selects RX0 yX0_has yX0_has, Cond.code yX0_has cX0_has 2 (some .boolean), Cond.methodLink RX4 118 yX3_size, Cond.instanceMethod yX3_size, Cond.selects RX3 yX3_size yX3_size, Cond.initialized RX3, Cond.code yX3_size cX3_size 1 (some .int), Cond.fieldLink RX3 19 "StreamQuery$Line" "size" "I", Cond.methodLink RX4 72 yX0_isNear, Cond.methodLink RX4 76 yX0_time, Cond.instanceMethod yX0_time, Cond.selects RX0 yX0_time yX0_time, Cond.code yX0_time cX0_time 2 (some .int), Cond.methodLink RX4 80 yX0_value, Cond.instanceMethod yX0_value, Cond.selects RX0 yX0_value yX0_value, Cond.code yX0_value cX0_value 2 (some .int), Cond.fieldLink RX0 18 "StreamQuery$Events" "values" "[I", Cond.methodLink RX4 83 yX3_add, Cond.instanceMethod yX3_add]
def wsX4_eventA_r4 : List Cond := [Cond.selects RX3 yX3_add yX3_add, Cond.code yX3_add cX3_add 8 none, Cond.fieldLink RX3 11 "StreamQuery$Line" "cells" "[I", Cond.methodLink RX3 26 yX3_rowOf, Cond.instanceMethod yX3_rowOf, Cond.selects RX3 yX3_rowOf yX3_rowOf, Cond.code yX3_rowOf cX3_rowOf 2 (some .int), Cond.fieldLink RX3 15 "StreamQuery$Line" "first" "I", Cond.methodLink RX4 87 yX0_add, Cond.instanceMethod yX0_add, Cond.selects RX0 yX0_add yX0_add, Cond.code yX0_add cX0_add 4 none, Cond.methodLink RX4 90 yX4_gather, Cond.instanceMethod yX4_gather, Cond.selects RX4 yX4_gather yX4_gather, Cond.code yX4_gather cX4_gather 7 none, Cond.fieldLink RX4 22 "StreamQuery" "groups" "LStreamQuery$Groups;", Cond.fieldLink RX4 33 "StreamQuery" "width" "I", Cond.fieldLink RX4 37 "StreamQuery" "slide" "I", Cond.methodLink RX4 181 yX2_head, Cond.instanceMethod yX2_head, Cond.selects RX2 yX2_head yX2_head, Cond.initialized RX2, Cond.code yX2_head cX2_head 1 (some (.object "StreamQuery$Group"))]
def wsX4_eventA_r5 : List Cond := [Cond.fieldLink RX2 15 "StreamQuery$Groups" "head" "LStreamQuery$Group;", Cond.methodLink RX4 185 yX4_beginningAbove, Cond.instanceMethod yX4_beginningAbove, Cond.selects RX4 yX4_beginningAbove yX4_beginningAbove, Cond.code yX4_beginningAbove cX4_beginningAbove 2 (some .int), Cond.methodLink RX4 194 yJ9_floorDiv_7cf53, Cond.static yJ9_floorDiv_7cf53, Cond.initialized RJ9, Cond.code yJ9_floorDiv_7cf53 cJ9_floorDiv_7cf53 3 (some .int), Cond.methodLink RX4 188 yX2_placeFrom, Cond.instanceMethod yX2_placeFrom, Cond.selects RX2 yX2_placeFrom yX2_placeFrom, Cond.code yX2_placeFrom cX2_placeFrom 6 (some (.object "StreamQuery$Group")), Cond.classLink RX2 7 RX1, Cond.instantiable RX1 6, Cond.initialized RX1, Cond.methodLink RX2 24 yX2_lastBefore, Cond.static yX2_lastBefore, Cond.code yX2_lastBefore cX2_lastBefore 4 (some (.object "StreamQuery$Group")), Cond.methodLink RX2 36 yX1_isBefore, Cond.instanceMethod yX1_isBefore, Cond.selects RX1 yX1_isBefore yX1_isBefore, Cond.code yX1_isBefore cX1_isBefore 3 (some .boolean), Cond.fieldLink RX1 22 "StreamQuery$Group" "end" "I"]
def wsX4_eventA_r6 : List Cond := [Cond.fieldLink RX1 25 "StreamQuery$Group" "key" "I", Cond.methodLink RX2 28 yX1_isOf, Cond.instanceMethod yX1_isOf, Cond.selects RX1 yX1_isOf yX1_isOf, Cond.code yX1_isOf cX1_isOf 3 (some .boolean), Cond.methodLink RX2 12 yX1_init, Cond.instanceMethod yX1_init, Cond.code yX1_init cX1_init 4 none, Cond.methodLink RX1 1 objectInit, Cond.instanceMethod objectInit, Cond.code objectInit ⟨#[0xb1]⟩ 1 none, Cond.fieldLink RX1 7 "StreamQuery$Group" "sum" "I", Cond.fieldLink RX1 13 "StreamQuery$Group" "many" "I", Cond.constant RX1 18 (-2147483648), Cond.fieldLink RX1 19 "StreamQuery$Group" "greatest" "I", Cond.fieldLink RX1 28 "StreamQuery$Group" "next" "LStreamQuery$Group;", Cond.methodLink RX4 192 yX1_gather, Cond.instanceMethod yX1_gather, Cond.selects RX1 yX1_gather yX1_gather, Cond.code yX1_gather cX1_gather 2 none, Cond.methodLink RX1 32 Lib.Math.max.name, Cond.static Lib.Math.max.name, Cond.code Lib.Math.max.name Lib.Math.max.code 2 (some .int), Cond.methodLink RX4 93 yX4_countTaken]
def wsX4_eventA_r7 : List Cond := [Cond.instanceMethod yX4_countTaken, Cond.selects RX4 yX4_countTaken yX4_countTaken, Cond.code yX4_countTaken cX4_countTaken 2 none, Cond.fieldLink RX4 153 "StreamQuery" "pairsTold" "I", Cond.fieldLink RX4 159 "StreamQuery" "eventsTaken" "I"]
def wsX4_eventA : List Cond := .code yX4_eventA cX4_eventA 6 (some .int) :: ((wsX4_eventA_r1 ++ (wsX4_eventA_r2 ++ (wsX4_eventA_r3 ++ (wsX4_eventA_r4 ++ (wsX4_eventA_r5 ++ (wsX4_eventA_r6 ++ wsX4_eventA_r7)))))) ++ wsX40 ++ wsX00 ++ wsX30 ++ wsX20 ++ wsX10)
def wsX4_eventB_r1 : List Cond := [Cond.fieldLink RX4 10 "StreamQuery" "ofA" "LStreamQuery$Events;", Cond.fieldLink RX4 43 "StreamQuery" "span" "I", Cond.fieldLink RX4 29 "StreamQuery" "queue" "LStreamQuery$Line;", Cond.fieldLink RX4 16 "StreamQuery" "ofB" "LStreamQuery$Events;", Cond.methodLink RX4 64 yX4_admit, Cond.instanceMethod yX4_admit, Cond.selects RX4 yX4_admit yX4_admit, Cond.initialized RX4, Cond.code yX4_admit cX4_admit 5 (some .int), Cond.fieldLink RX4 40 "StreamQuery" "lateness" "I", Cond.fieldLink RX4 144 "StreamQuery" "lateEvents" "I", Cond.fieldLink RX4 46 "StreamQuery" "room" "I", Cond.fieldLink RX4 49 "StreamQuery" "line" "I", Cond.methodLink RX4 170 yX4_isTime, Cond.static yX4_isTime, Cond.code yX4_isTime cX4_isTime 1 (some .boolean), Cond.constant RX4 168 (-1000000000), Cond.constant RX4 169 (1000000000), Cond.methodLink RX4 60 yX4_isWithin, Cond.static yX4_isWithin, Cond.code yX4_isWithin cX4_isWithin 3 (some .boolean), Cond.methodLink RX4 174 yX4_mark, Cond.instanceMethod yX4_mark, Cond.selects RX4 yX4_mark yX4_mark]
def wsX4_eventB_r2 : List Cond := [Cond.code yX4_mark cX4_mark 1 (some .int), Cond.fieldLink RX4 97 "StreamQuery" "markOfA" "I", Cond.fieldLink RX4 104 "StreamQuery" "markOfB" "I", Cond.methodLink RX4 107 Lib.Math.min.name, Cond.static Lib.Math.min.name, Cond.initialized "java/lang/Math", Cond.code Lib.Math.min.name Lib.Math.min.code 2 (some .int), Cond.methodLink RX4 68 yX0_size, Cond.instanceMethod yX0_size, Cond.selects RX0 yX0_size yX0_size, Cond.initialized RX0, Cond.code yX0_size cX0_size 1 (some .int), Cond.fieldLink RX0 21 "StreamQuery$Events" "size" "I", Cond.methodLink RX4 177 yX0_manyNear, Cond.instanceMethod yX0_manyNear, Cond.selects RX0 yX0_manyNear yX0_manyNear, Cond.code yX0_manyNear cX0_manyNear 6 (some .int), Cond.methodLink RX0 35 yX0_isNear, Cond.instanceMethod yX0_isNear, Cond.selects RX0 yX0_isNear yX0_isNear, Cond.code yX0_isNear cX0_isNear 5 (some .boolean), Cond.fieldLink RX0 15 "StreamQuery$Events" "keys" "[I", Cond.fieldLink RX0 9 "StreamQuery$Events" "times" "[I", Cond.methodLink RX0 29 Lib.Math.abs.name]
def wsX4_eventB_r3 : List Cond := [Cond.static Lib.Math.abs.name, Cond.code Lib.Math.abs.name Lib.Math.abs.code 1 (some .int), Cond.methodLink RX0 25 yX0_has, Cond.instanceMethod yX0_has, Cond.selects RX0 yX0_has yX0_has, Cond.code yX0_has cX0_has 2 (some .boolean), Cond.methodLink RX4 118 yX3_size, Cond.instanceMethod yX3_size, Cond.selects RX3 yX3_size yX3_size, Cond.initialized RX3, Cond.code yX3_size cX3_size 1 (some .int), Cond.fieldLink RX3 19 "StreamQuery$Line" "size" "I", Cond.methodLink RX4 72 yX0_isNear, Cond.methodLink RX4 76 yX0_time, Cond.instanceMethod yX0_time, Cond.selects RX0 yX0_time yX0_time, Cond.code yX0_time cX0_time 2 (some .int), Cond.methodLink RX4 80 yX0_value, Cond.instanceMethod yX0_value, Cond.selects RX0 yX0_value yX0_value, Cond.code yX0_value cX0_value 2 (some .int), Cond.fieldLink RX0 18 "StreamQuery$Events" "values" "[I", Cond.methodLink RX4 83 yX3_add, Cond.instanceMethod yX3_add]
def wsX4_eventB_r4 : List Cond := [Cond.selects RX3 yX3_add yX3_add, Cond.code yX3_add cX3_add 8 none, Cond.fieldLink RX3 11 "StreamQuery$Line" "cells" "[I", Cond.methodLink RX3 26 yX3_rowOf, Cond.instanceMethod yX3_rowOf, Cond.selects RX3 yX3_rowOf yX3_rowOf, Cond.code yX3_rowOf cX3_rowOf 2 (some .int), Cond.fieldLink RX3 15 "StreamQuery$Line" "first" "I", Cond.methodLink RX4 87 yX0_add, Cond.instanceMethod yX0_add, Cond.selects RX0 yX0_add yX0_add, Cond.code yX0_add cX0_add 4 none, Cond.methodLink RX4 93 yX4_countTaken, Cond.instanceMethod yX4_countTaken, Cond.selects RX4 yX4_countTaken yX4_countTaken, Cond.code yX4_countTaken cX4_countTaken 2 none, Cond.fieldLink RX4 153 "StreamQuery" "pairsTold" "I", Cond.fieldLink RX4 159 "StreamQuery" "eventsTaken" "I"]
def wsX4_eventB : List Cond := .code yX4_eventB cX4_eventB 6 (some .int) :: ((wsX4_eventB_r1 ++ (wsX4_eventB_r2 ++ (wsX4_eventB_r3 ++ wsX4_eventB_r4))) ++ wsX40 ++ wsX00 ++ wsX30)
def wsX4_refusalOfMark : List Cond := .code yX4_refusalOfMark cX4_refusalOfMark 2 (some .int) :: ([.methodLink RX4 170 yX4_isTime, .static yX4_isTime, .initialized RX4, .code yX4_isTime cX4_isTime 1 (some .boolean), .constant RX4 168 (-1000000000), .constant RX4 169 (1000000000), .methodLink RX4 60 yX4_isWithin, .static yX4_isWithin, .code yX4_isWithin cX4_isWithin 3 (some .boolean)])
def wsX4_tellWindows_r1 : List Cond := [Cond.fieldLink RX4 40 "StreamQuery" "lateness" "I", Cond.fieldLink RX4 22 "StreamQuery" "groups" "LStreamQuery$Groups;", Cond.fieldLink RX4 29 "StreamQuery" "queue" "LStreamQuery$Line;", Cond.fieldLink RX4 49 "StreamQuery" "line" "I", Cond.fieldLink RX4 156 "StreamQuery" "groupsTold" "I", Cond.methodLink RX4 197 yX2_manyUpTo, Cond.instanceMethod yX2_manyUpTo, Cond.selects RX2 yX2_manyUpTo yX2_manyUpTo, Cond.initialized RX2, Cond.code yX2_manyUpTo cX2_manyUpTo 4 (some .int), Cond.fieldLink RX2 15 "StreamQuery$Groups" "head" "LStreamQuery$Group;", Cond.methodLink RX4 118 yX3_size, Cond.instanceMethod yX3_size, Cond.selects RX3 yX3_size yX3_size, Cond.initialized RX3, Cond.code yX3_size cX3_size 1 (some .int), Cond.fieldLink RX3 19 "StreamQuery$Line" "size" "I", Cond.methodLink RX4 150 yX2_windowsUpTo, Cond.instanceMethod yX2_windowsUpTo, Cond.selects RX2 yX2_windowsUpTo yX2_windowsUpTo, Cond.code yX2_windowsUpTo cX2_windowsUpTo 5 (some .int), Cond.methodLink RX4 200 yX2_takeFirst, Cond.instanceMethod yX2_takeFirst, Cond.selects RX2 yX2_takeFirst yX2_takeFirst]
def wsX4_tellWindows_r2 : List Cond := [Cond.code yX2_takeFirst cX2_takeFirst 2 (some (.object "StreamQuery$Group")), Cond.methodLink RX4 83 yX3_add, Cond.instanceMethod yX3_add, Cond.selects RX3 yX3_add yX3_add, Cond.code yX3_add cX3_add 8 none, Cond.fieldLink RX3 11 "StreamQuery$Line" "cells" "[I", Cond.methodLink RX3 26 yX3_rowOf, Cond.instanceMethod yX3_rowOf, Cond.selects RX3 yX3_rowOf yX3_rowOf, Cond.code yX3_rowOf cX3_rowOf 2 (some .int), Cond.fieldLink RX3 15 "StreamQuery$Line" "first" "I"]
def wsX4_tellWindows : List Cond := .code yX4_tellWindows cX4_tellWindows 7 (some .int) :: ((wsX4_tellWindows_r1 ++ wsX4_tellWindows_r2) ++ wsX40 ++ wsX10 ++ wsX20 ++ wsX30)
def wsX4_dropEvents_r1 : List Cond := [Cond.fieldLink RX4 40 "StreamQuery" "lateness" "I", Cond.fieldLink RX4 10 "StreamQuery" "ofA" "LStreamQuery$Events;", Cond.fieldLink RX4 43 "StreamQuery" "span" "I", Cond.fieldLink RX4 33 "StreamQuery" "width" "I", Cond.methodLink RX4 107 Lib.Math.min.name, Cond.static Lib.Math.min.name, Cond.initialized "java/lang/Math", Cond.code Lib.Math.min.name Lib.Math.min.code 2 (some .int), Cond.fieldLink RX4 16 "StreamQuery" "ofB" "LStreamQuery$Events;", Cond.methodLink RX4 174 yX4_mark, Cond.instanceMethod yX4_mark, Cond.selects RX4 yX4_mark yX4_mark, Cond.initialized RX4, Cond.code yX4_mark cX4_mark 1 (some .int), Cond.fieldLink RX4 97 "StreamQuery" "markOfA" "I", Cond.fieldLink RX4 104 "StreamQuery" "markOfB" "I", Cond.methodLink RX4 185 yX4_beginningAbove, Cond.instanceMethod yX4_beginningAbove, Cond.selects RX4 yX4_beginningAbove yX4_beginningAbove, Cond.code yX4_beginningAbove cX4_beginningAbove 2 (some .int), Cond.fieldLink RX4 37 "StreamQuery" "slide" "I", Cond.methodLink RX4 194 yJ9_floorDiv_7cf53, Cond.static yJ9_floorDiv_7cf53, Cond.initialized RJ9]
def wsX4_dropEvents_r2 : List Cond := [Cond.code yJ9_floorDiv_7cf53 cJ9_floorDiv_7cf53 3 (some .int), Cond.methodLink RX4 208 yX0_dropBelow, Cond.instanceMethod yX0_dropBelow, Cond.selects RX0 yX0_dropBelow yX0_dropBelow, Cond.initialized RX0, Cond.code yX0_dropBelow cX0_dropBelow 4 none, Cond.fieldLink RX0 21 "StreamQuery$Events" "size" "I", Cond.fieldLink RX0 9 "StreamQuery$Events" "times" "[I", Cond.fieldLink RX0 15 "StreamQuery$Events" "keys" "[I", Cond.fieldLink RX0 18 "StreamQuery$Events" "values" "[I", Cond.methodLink RX0 39 yX0_add, Cond.instanceMethod yX0_add, Cond.selects RX0 yX0_add yX0_add, Cond.code yX0_add cX0_add 4 none]
def wsX4_dropEvents : List Cond := .code yX4_dropEvents cX4_dropEvents 2 none :: ((wsX4_dropEvents_r1 ++ wsX4_dropEvents_r2) ++ wsX40 ++ wsX00)
def wsX4_markA_r1 : List Cond := [Cond.fieldLink RX4 97 "StreamQuery" "markOfA" "I", Cond.fieldLink RX4 104 "StreamQuery" "markOfB" "I", Cond.methodLink RX4 107 Lib.Math.min.name, Cond.static Lib.Math.min.name, Cond.initialized "java/lang/Math", Cond.code Lib.Math.min.name Lib.Math.min.code 2 (some .int), Cond.methodLink RX4 100 yX4_refusalOfMark, Cond.static yX4_refusalOfMark, Cond.initialized RX4, Cond.code yX4_refusalOfMark cX4_refusalOfMark 2 (some .int), Cond.methodLink RX4 170 yX4_isTime, Cond.static yX4_isTime, Cond.code yX4_isTime cX4_isTime 1 (some .boolean), Cond.constant RX4 168 (-1000000000), Cond.constant RX4 169 (1000000000), Cond.methodLink RX4 60 yX4_isWithin, Cond.static yX4_isWithin, Cond.code yX4_isWithin cX4_isWithin 3 (some .boolean), Cond.methodLink RX4 112 yX4_tellWindows, Cond.instanceMethod yX4_tellWindows, Cond.selects RX4 yX4_tellWindows yX4_tellWindows, Cond.code yX4_tellWindows cX4_tellWindows 7 (some .int), Cond.fieldLink RX4 40 "StreamQuery" "lateness" "I", Cond.fieldLink RX4 22 "StreamQuery" "groups" "LStreamQuery$Groups;"]
def wsX4_markA_r2 : List Cond := [Cond.fieldLink RX4 29 "StreamQuery" "queue" "LStreamQuery$Line;", Cond.fieldLink RX4 49 "StreamQuery" "line" "I", Cond.fieldLink RX4 156 "StreamQuery" "groupsTold" "I", Cond.methodLink RX4 197 yX2_manyUpTo, Cond.instanceMethod yX2_manyUpTo, Cond.selects RX2 yX2_manyUpTo yX2_manyUpTo, Cond.initialized RX2, Cond.code yX2_manyUpTo cX2_manyUpTo 4 (some .int), Cond.fieldLink RX2 15 "StreamQuery$Groups" "head" "LStreamQuery$Group;", Cond.methodLink RX4 118 yX3_size, Cond.instanceMethod yX3_size, Cond.selects RX3 yX3_size yX3_size, Cond.initialized RX3, Cond.code yX3_size cX3_size 1 (some .int), Cond.fieldLink RX3 19 "StreamQuery$Line" "size" "I", Cond.methodLink RX4 150 yX2_windowsUpTo, Cond.instanceMethod yX2_windowsUpTo, Cond.selects RX2 yX2_windowsUpTo yX2_windowsUpTo, Cond.code yX2_windowsUpTo cX2_windowsUpTo 5 (some .int), Cond.methodLink RX4 200 yX2_takeFirst, Cond.instanceMethod yX2_takeFirst, Cond.selects RX2 yX2_takeFirst yX2_takeFirst, Cond.code yX2_takeFirst cX2_takeFirst 2 (some (.object "StreamQuery$Group")), Cond.methodLink RX4 83 yX3_add]
def wsX4_markA_r3 : List Cond := [Cond.instanceMethod yX3_add, Cond.selects RX3 yX3_add yX3_add, Cond.code yX3_add cX3_add 8 none, Cond.fieldLink RX3 11 "StreamQuery$Line" "cells" "[I", Cond.methodLink RX3 26 yX3_rowOf, Cond.instanceMethod yX3_rowOf, Cond.selects RX3 yX3_rowOf yX3_rowOf, Cond.code yX3_rowOf cX3_rowOf 2 (some .int), Cond.fieldLink RX3 15 "StreamQuery$Line" "first" "I", Cond.methodLink RX4 115 yX4_dropEvents, Cond.instanceMethod yX4_dropEvents, Cond.selects RX4 yX4_dropEvents yX4_dropEvents, Cond.code yX4_dropEvents cX4_dropEvents 2 none, Cond.fieldLink RX4 10 "StreamQuery" "ofA" "LStreamQuery$Events;", Cond.fieldLink RX4 43 "StreamQuery" "span" "I", Cond.fieldLink RX4 33 "StreamQuery" "width" "I", Cond.fieldLink RX4 16 "StreamQuery" "ofB" "LStreamQuery$Events;", Cond.methodLink RX4 174 yX4_mark, Cond.instanceMethod yX4_mark, Cond.selects RX4 yX4_mark yX4_mark, Cond.code yX4_mark cX4_mark 1 (some .int), Cond.methodLink RX4 185 yX4_beginningAbove, Cond.instanceMethod yX4_beginningAbove, Cond.selects RX4 yX4_beginningAbove yX4_beginningAbove]
def wsX4_markA_r4 : List Cond := [Cond.code yX4_beginningAbove cX4_beginningAbove 2 (some .int), Cond.fieldLink RX4 37 "StreamQuery" "slide" "I", Cond.methodLink RX4 194 yJ9_floorDiv_7cf53, Cond.static yJ9_floorDiv_7cf53, Cond.initialized RJ9, Cond.code yJ9_floorDiv_7cf53 cJ9_floorDiv_7cf53 3 (some .int), Cond.methodLink RX4 208 yX0_dropBelow, Cond.instanceMethod yX0_dropBelow, Cond.selects RX0 yX0_dropBelow yX0_dropBelow, Cond.initialized RX0, Cond.code yX0_dropBelow cX0_dropBelow 4 none, Cond.fieldLink RX0 21 "StreamQuery$Events" "size" "I", Cond.fieldLink RX0 9 "StreamQuery$Events" "times" "[I", Cond.fieldLink RX0 15 "StreamQuery$Events" "keys" "[I", Cond.fieldLink RX0 18 "StreamQuery$Events" "values" "[I", Cond.methodLink RX0 39 yX0_add, Cond.instanceMethod yX0_add, Cond.selects RX0 yX0_add yX0_add, Cond.code yX0_add cX0_add 4 none]
def wsX4_markA : List Cond := .code yX4_markA cX4_markA 4 (some .int) :: ((wsX4_markA_r1 ++ (wsX4_markA_r2 ++ (wsX4_markA_r3 ++ wsX4_markA_r4))) ++ wsX40 ++ wsX10 ++ wsX20 ++ wsX30 ++ wsX00)
def wsX4_markB_r1 : List Cond := [Cond.fieldLink RX4 104 "StreamQuery" "markOfB" "I", Cond.fieldLink RX4 97 "StreamQuery" "markOfA" "I", Cond.methodLink RX4 107 Lib.Math.min.name, Cond.static Lib.Math.min.name, Cond.initialized "java/lang/Math", Cond.code Lib.Math.min.name Lib.Math.min.code 2 (some .int), Cond.methodLink RX4 100 yX4_refusalOfMark, Cond.static yX4_refusalOfMark, Cond.initialized RX4, Cond.code yX4_refusalOfMark cX4_refusalOfMark 2 (some .int), Cond.methodLink RX4 170 yX4_isTime, Cond.static yX4_isTime, Cond.code yX4_isTime cX4_isTime 1 (some .boolean), Cond.constant RX4 168 (-1000000000), Cond.constant RX4 169 (1000000000), Cond.methodLink RX4 60 yX4_isWithin, Cond.static yX4_isWithin, Cond.code yX4_isWithin cX4_isWithin 3 (some .boolean), Cond.methodLink RX4 112 yX4_tellWindows, Cond.instanceMethod yX4_tellWindows, Cond.selects RX4 yX4_tellWindows yX4_tellWindows, Cond.code yX4_tellWindows cX4_tellWindows 7 (some .int), Cond.fieldLink RX4 40 "StreamQuery" "lateness" "I", Cond.fieldLink RX4 22 "StreamQuery" "groups" "LStreamQuery$Groups;"]
def wsX4_markB_r2 : List Cond := [Cond.fieldLink RX4 29 "StreamQuery" "queue" "LStreamQuery$Line;", Cond.fieldLink RX4 49 "StreamQuery" "line" "I", Cond.fieldLink RX4 156 "StreamQuery" "groupsTold" "I", Cond.methodLink RX4 197 yX2_manyUpTo, Cond.instanceMethod yX2_manyUpTo, Cond.selects RX2 yX2_manyUpTo yX2_manyUpTo, Cond.initialized RX2, Cond.code yX2_manyUpTo cX2_manyUpTo 4 (some .int), Cond.fieldLink RX2 15 "StreamQuery$Groups" "head" "LStreamQuery$Group;", Cond.methodLink RX4 118 yX3_size, Cond.instanceMethod yX3_size, Cond.selects RX3 yX3_size yX3_size, Cond.initialized RX3, Cond.code yX3_size cX3_size 1 (some .int), Cond.fieldLink RX3 19 "StreamQuery$Line" "size" "I", Cond.methodLink RX4 150 yX2_windowsUpTo, Cond.instanceMethod yX2_windowsUpTo, Cond.selects RX2 yX2_windowsUpTo yX2_windowsUpTo, Cond.code yX2_windowsUpTo cX2_windowsUpTo 5 (some .int), Cond.methodLink RX4 200 yX2_takeFirst, Cond.instanceMethod yX2_takeFirst, Cond.selects RX2 yX2_takeFirst yX2_takeFirst, Cond.code yX2_takeFirst cX2_takeFirst 2 (some (.object "StreamQuery$Group")), Cond.methodLink RX4 83 yX3_add]
def wsX4_markB_r3 : List Cond := [Cond.instanceMethod yX3_add, Cond.selects RX3 yX3_add yX3_add, Cond.code yX3_add cX3_add 8 none, Cond.fieldLink RX3 11 "StreamQuery$Line" "cells" "[I", Cond.methodLink RX3 26 yX3_rowOf, Cond.instanceMethod yX3_rowOf, Cond.selects RX3 yX3_rowOf yX3_rowOf, Cond.code yX3_rowOf cX3_rowOf 2 (some .int), Cond.fieldLink RX3 15 "StreamQuery$Line" "first" "I", Cond.methodLink RX4 115 yX4_dropEvents, Cond.instanceMethod yX4_dropEvents, Cond.selects RX4 yX4_dropEvents yX4_dropEvents, Cond.code yX4_dropEvents cX4_dropEvents 2 none, Cond.fieldLink RX4 10 "StreamQuery" "ofA" "LStreamQuery$Events;", Cond.fieldLink RX4 43 "StreamQuery" "span" "I", Cond.fieldLink RX4 33 "StreamQuery" "width" "I", Cond.fieldLink RX4 16 "StreamQuery" "ofB" "LStreamQuery$Events;", Cond.methodLink RX4 174 yX4_mark, Cond.instanceMethod yX4_mark, Cond.selects RX4 yX4_mark yX4_mark, Cond.code yX4_mark cX4_mark 1 (some .int), Cond.methodLink RX4 185 yX4_beginningAbove, Cond.instanceMethod yX4_beginningAbove, Cond.selects RX4 yX4_beginningAbove yX4_beginningAbove]
def wsX4_markB_r4 : List Cond := [Cond.code yX4_beginningAbove cX4_beginningAbove 2 (some .int), Cond.fieldLink RX4 37 "StreamQuery" "slide" "I", Cond.methodLink RX4 194 yJ9_floorDiv_7cf53, Cond.static yJ9_floorDiv_7cf53, Cond.initialized RJ9, Cond.code yJ9_floorDiv_7cf53 cJ9_floorDiv_7cf53 3 (some .int), Cond.methodLink RX4 208 yX0_dropBelow, Cond.instanceMethod yX0_dropBelow, Cond.selects RX0 yX0_dropBelow yX0_dropBelow, Cond.initialized RX0, Cond.code yX0_dropBelow cX0_dropBelow 4 none, Cond.fieldLink RX0 21 "StreamQuery$Events" "size" "I", Cond.fieldLink RX0 9 "StreamQuery$Events" "times" "[I", Cond.fieldLink RX0 15 "StreamQuery$Events" "keys" "[I", Cond.fieldLink RX0 18 "StreamQuery$Events" "values" "[I", Cond.methodLink RX0 39 yX0_add, Cond.instanceMethod yX0_add, Cond.selects RX0 yX0_add yX0_add, Cond.code yX0_add cX0_add 4 none]
def wsX4_markB : List Cond := .code yX4_markB cX4_markB 4 (some .int) :: ((wsX4_markB_r1 ++ (wsX4_markB_r2 ++ (wsX4_markB_r3 ++ wsX4_markB_r4))) ++ wsX40 ++ wsX10 ++ wsX20 ++ wsX30 ++ wsX00)
def wsX4_available : List Cond := .code yX4_available cX4_available 1 (some .int) :: ([.fieldLink RX4 29 "StreamQuery" "queue" "LStreamQuery$Line;", .methodLink RX4 118 yX3_size, .instanceMethod yX3_size, .selects RX3 yX3_size yX3_size, .initialized RX3, .code yX3_size cX3_size 1 (some .int), .fieldLink RX3 19 "StreamQuery$Line" "size" "I"] ++ wsX40 ++ wsX30)
def wsX4_kind : List Cond := .code yX4_kind cX4_kind 2 (some .int) :: ([.fieldLink RX4 29 "StreamQuery" "queue" "LStreamQuery$Line;", .methodLink RX4 119 yX3_cell, .instanceMethod yX3_cell, .selects RX3 yX3_cell yX3_cell, .initialized RX3, .code yX3_cell cX3_cell 4 (some .int), .fieldLink RX3 19 "StreamQuery$Line" "size" "I", .fieldLink RX3 11 "StreamQuery$Line" "cells" "[I", .static yX4_isWithin, .initialized RX4, .code yX4_isWithin cX4_isWithin 3 (some .boolean), .methodLink RX3 26 yX3_rowOf, .instanceMethod yX3_rowOf, .selects RX3 yX3_rowOf yX3_rowOf, .code yX3_rowOf cX3_rowOf 2 (some .int), .fieldLink RX3 15 "StreamQuery$Line" "first" "I"] ++ wsX40 ++ wsX30)
def wsX4_field : List Cond := .code yX4_field cX4_field 3 (some .int) :: ([.fieldLink RX4 29 "StreamQuery" "queue" "LStreamQuery$Line;", .methodLink RX4 60 yX4_isWithin, .static yX4_isWithin, .initialized RX4, .code yX4_isWithin cX4_isWithin 3 (some .boolean), .methodLink RX4 119 yX3_cell, .instanceMethod yX3_cell, .selects RX3 yX3_cell yX3_cell, .initialized RX3, .code yX3_cell cX3_cell 4 (some .int), .fieldLink RX3 19 "StreamQuery$Line" "size" "I", .fieldLink RX3 11 "StreamQuery$Line" "cells" "[I", .methodLink RX3 26 yX3_rowOf, .instanceMethod yX3_rowOf, .selects RX3 yX3_rowOf yX3_rowOf, .code yX3_rowOf cX3_rowOf 2 (some .int), .fieldLink RX3 15 "StreamQuery$Line" "first" "I"] ++ wsX40 ++ wsX30)
def wsX4_pop : List Cond := .code yX4_pop cX4_pop 1 (some .boolean) :: ([.fieldLink RX4 29 "StreamQuery" "queue" "LStreamQuery$Line;", .methodLink RX4 122 yX3_dropFirst, .instanceMethod yX3_dropFirst, .selects RX3 yX3_dropFirst yX3_dropFirst, .initialized RX3, .code yX3_dropFirst cX3_dropFirst 1 (some .boolean), .fieldLink RX3 19 "StreamQuery$Line" "size" "I", .fieldLink RX3 15 "StreamQuery$Line" "first" "I"] ++ wsX40 ++ wsX30)
def wsX4_look : List Cond := .code yX4_look cX4_look 5 (some .int) :: ([.fieldLink RX4 22 "StreamQuery" "groups" "LStreamQuery$Groups;", .methodLink RX4 126 yX2_find, .instanceMethod yX2_find, .selects RX2 yX2_find yX2_find, .initialized RX2, .code yX2_find cX2_find 4 (some (.object "StreamQuery$Group")), .fieldLink RX2 15 "StreamQuery$Groups" "head" "LStreamQuery$Group;", .methodLink RX2 24 yX2_lastBefore, .static yX2_lastBefore, .code yX2_lastBefore cX2_lastBefore 4 (some (.object "StreamQuery$Group")), .methodLink RX2 36 yX1_isBefore, .instanceMethod yX1_isBefore, .selects RX1 yX1_isBefore yX1_isBefore, .initialized RX1, .code yX1_isBefore cX1_isBefore 3 (some .boolean), .fieldLink RX1 22 "StreamQuery$Group" "end" "I", .fieldLink RX1 25 "StreamQuery$Group" "key" "I", .methodLink RX2 28 yX1_isOf, .instanceMethod yX1_isOf, .selects RX1 yX1_isOf yX1_isOf, .code yX1_isOf cX1_isOf 3 (some .boolean)] ++ wsX40 ++ wsX10 ++ wsX20)
def wsX4_event_r1 : List Cond := [Cond.fieldLink RX4 10 "StreamQuery" "ofA" "LStreamQuery$Events;", Cond.fieldLink RX4 16 "StreamQuery" "ofB" "LStreamQuery$Events;", Cond.methodLink RX4 60 yX4_isWithin, Cond.static yX4_isWithin, Cond.initialized RX4, Cond.code yX4_isWithin cX4_isWithin 3 (some .boolean), Cond.methodLink RX4 76 yX0_time, Cond.instanceMethod yX0_time, Cond.selects RX0 yX0_time yX0_time, Cond.initialized RX0, Cond.code yX0_time cX0_time 2 (some .int), Cond.fieldLink RX0 9 "StreamQuery$Events" "times" "[I", Cond.methodLink RX0 25 yX0_has, Cond.instanceMethod yX0_has, Cond.selects RX0 yX0_has yX0_has, Cond.code yX0_has cX0_has 2 (some .boolean), Cond.fieldLink RX0 21 "StreamQuery$Events" "size" "I", Cond.methodLink RX4 141 yX0_key, Cond.instanceMethod yX0_key, Cond.selects RX0 yX0_key yX0_key, Cond.code yX0_key cX0_key 2 (some .int), Cond.fieldLink RX0 15 "StreamQuery$Events" "keys" "[I", Cond.methodLink RX4 80 yX0_value, Cond.instanceMethod yX0_value]
def wsX4_event_r2 : List Cond := [Cond.selects RX0 yX0_value yX0_value, Cond.code yX0_value cX0_value 2 (some .int), Cond.fieldLink RX0 18 "StreamQuery$Events" "values" "[I"]
def wsX4_event : List Cond := .code yX4_event cX4_event 5 (some .int) :: ((wsX4_event_r1 ++ wsX4_event_r2) ++ wsX40 ++ wsX00)
def wsX4_count : List Cond := .code yX4_count cX4_count 2 (some .int) :: ([.fieldLink RX4 10 "StreamQuery" "ofA" "LStreamQuery$Events;", .fieldLink RX4 16 "StreamQuery" "ofB" "LStreamQuery$Events;", .fieldLink RX4 144 "StreamQuery" "lateEvents" "I", .fieldLink RX4 97 "StreamQuery" "markOfA" "I", .fieldLink RX4 104 "StreamQuery" "markOfB" "I", .fieldLink RX4 22 "StreamQuery" "groups" "LStreamQuery$Groups;", .constant RX4 149 (2147483647), .fieldLink RX4 153 "StreamQuery" "pairsTold" "I", .fieldLink RX4 156 "StreamQuery" "groupsTold" "I", .fieldLink RX4 159 "StreamQuery" "eventsTaken" "I", .methodLink RX4 68 yX0_size, .instanceMethod yX0_size, .selects RX0 yX0_size yX0_size, .initialized RX0, .code yX0_size cX0_size 1 (some .int), .fieldLink RX0 21 "StreamQuery$Events" "size" "I", .methodLink RX4 150 yX2_windowsUpTo, .instanceMethod yX2_windowsUpTo, .selects RX2 yX2_windowsUpTo yX2_windowsUpTo, .initialized RX2, .code yX2_windowsUpTo cX2_windowsUpTo 5 (some .int), .fieldLink RX2 15 "StreamQuery$Groups" "head" "LStreamQuery$Group;"] ++ wsX40 ++ wsX00 ++ wsX20 ++ wsX10)
def wsX5_forget : List Cond := .code yX5_forget cX5_forget 1 none :: ([.fieldLink RX5 32 "StreamQueryModel" "kept" "[I", .fieldLink RX5 35 "StreamQueryModel" "marks" "[I", .constant RX5 44 (-2000000000), .fieldLink RX5 45 "StreamQueryModel" "queued" "I", .fieldLink RX5 48 "StreamQueryModel" "late" "I", .fieldLink RX5 51 "StreamQueryModel" "pairs" "I", .fieldLink RX5 54 "StreamQueryModel" "told" "I", .fieldLink RX5 57 "StreamQueryModel" "taken" "I"] ++ wsX50)
def wsX5_init_r1 : List Cond := [Cond.methodLink RX5 1 objectInit, Cond.instanceMethod objectInit, Cond.code objectInit ⟨#[0xb1]⟩ 1 none, Cond.fieldLink RX5 7 "StreamQueryModel" "width" "I", Cond.fieldLink RX5 13 "StreamQueryModel" "slide" "I", Cond.fieldLink RX5 16 "StreamQueryModel" "room" "I", Cond.fieldLink RX5 19 "StreamQueryModel" "line" "I", Cond.arrayClass .int, Cond.fieldLink RX5 22 "StreamQueryModel" "times" "[I", Cond.fieldLink RX5 26 "StreamQueryModel" "keys" "[I", Cond.fieldLink RX5 29 "StreamQueryModel" "values" "[I", Cond.fieldLink RX5 32 "StreamQueryModel" "kept" "[I", Cond.fieldLink RX5 35 "StreamQueryModel" "marks" "[I", Cond.fieldLink RX5 38 "StreamQueryModel" "queue" "[I", Cond.methodLink RX5 41 yX5_forget, Cond.instanceMethod yX5_forget, Cond.selects RX5 yX5_forget yX5_forget, Cond.initialized RX5, Cond.code yX5_forget cX5_forget 1 none, Cond.constant RX5 44 (-2000000000), Cond.fieldLink RX5 45 "StreamQueryModel" "queued" "I", Cond.fieldLink RX5 48 "StreamQueryModel" "late" "I", Cond.fieldLink RX5 51 "StreamQueryModel" "pairs" "I", Cond.fieldLink RX5 54 "StreamQueryModel" "told" "I"]
def wsX5_init_r2 : List Cond := [Cond.fieldLink RX5 57 "StreamQueryModel" "taken" "I"]
def wsX5_init : List Cond := .code yX5_init cX5_init 1 none :: ((wsX5_init_r1 ++ wsX5_init_r2) ++ wsX50)
def wsX5_in : List Cond := .code yX5_in cX5_in 3 (some .boolean) :: ([])
def wsX5_set : List Cond := .code yX5_set cX5_set 8 (some .int) :: ([.constant RX5 60 (1000000), .constantLong RX5 65 (16), .fieldLink RX5 7 "StreamQueryModel" "width" "I", .fieldLink RX5 13 "StreamQueryModel" "slide" "I", .fieldLink RX5 67 "StreamQueryModel" "lateness" "I", .fieldLink RX5 70 "StreamQueryModel" "span" "I", .fieldLink RX5 16 "StreamQueryModel" "room" "I", .fieldLink RX5 19 "StreamQueryModel" "line" "I", .methodLink RX5 61 yX5_in, .static yX5_in, .initialized RX5, .code yX5_in cX5_in 3 (some .boolean), .methodLink RX5 41 yX5_forget, .instanceMethod yX5_forget, .selects RX5 yX5_forget yX5_forget, .code yX5_forget cX5_forget 1 none, .fieldLink RX5 32 "StreamQueryModel" "kept" "[I", .fieldLink RX5 35 "StreamQueryModel" "marks" "[I", .constant RX5 44 (-2000000000), .fieldLink RX5 45 "StreamQueryModel" "queued" "I", .fieldLink RX5 48 "StreamQueryModel" "late" "I", .fieldLink RX5 51 "StreamQueryModel" "pairs" "I", .fieldLink RX5 54 "StreamQueryModel" "told" "I", .fieldLink RX5 57 "StreamQueryModel" "taken" "I"] ++ wsX50)
def wsX5_isTime : List Cond := .code yX5_isTime cX5_isTime 1 (some .boolean) :: ([.constant RX5 73 (-1000000000), .constant RX5 74 (1000000000), .methodLink RX5 61 yX5_in, .static yX5_in, .initialized RX5, .code yX5_in cX5_in 3 (some .boolean)])
def wsX5_mark : List Cond := .code yX5_mark cX5_mark 1 (some .int) :: ([.fieldLink RX5 35 "StreamQueryModel" "marks" "[I"] ++ wsX50)
def wsX5_areNear : List Cond := .code yX5_areNear cX5_areNear 5 (some .boolean) :: ([.fieldLink RX5 22 "StreamQueryModel" "times" "[I", .fieldLink RX5 26 "StreamQueryModel" "keys" "[I", .fieldLink RX5 70 "StreamQueryModel" "span" "I"] ++ wsX50)
def wsX5_record : List Cond := .code yX5_record cX5_record 8 none :: ([.fieldLink RX5 45 "StreamQueryModel" "queued" "I", .fieldLink RX5 38 "StreamQueryModel" "queue" "[I"] ++ wsX50)
def wsX5_event : List Cond := .code yX5_event cX5_event 12 (some .int) :: ([.fieldLink RX5 32 "StreamQueryModel" "kept" "[I", .fieldLink RX5 22 "StreamQueryModel" "times" "[I", .fieldLink RX5 26 "StreamQueryModel" "keys" "[I", .fieldLink RX5 29 "StreamQueryModel" "values" "[I", .methodLink RX5 75 yX5_areNear, .instanceMethod yX5_areNear, .selects RX5 yX5_areNear yX5_areNear, .initialized RX5, .code yX5_areNear cX5_areNear 5 (some .boolean), .fieldLink RX5 70 "StreamQueryModel" "span" "I", .methodLink RX5 79 yX5_record, .instanceMethod yX5_record, .selects RX5 yX5_record yX5_record, .code yX5_record cX5_record 8 none, .fieldLink RX5 45 "StreamQueryModel" "queued" "I", .fieldLink RX5 38 "StreamQueryModel" "queue" "[I"] ++ wsX50)
def wsX5_take_r1 : List Cond := [Cond.fieldLink RX5 67 "StreamQueryModel" "lateness" "I", Cond.fieldLink RX5 48 "StreamQueryModel" "late" "I", Cond.fieldLink RX5 32 "StreamQueryModel" "kept" "[I", Cond.fieldLink RX5 16 "StreamQueryModel" "room" "I", Cond.fieldLink RX5 45 "StreamQueryModel" "queued" "I", Cond.fieldLink RX5 19 "StreamQueryModel" "line" "I", Cond.fieldLink RX5 51 "StreamQueryModel" "pairs" "I", Cond.fieldLink RX5 57 "StreamQueryModel" "taken" "I", Cond.methodLink RX5 83 yX5_isTime, Cond.static yX5_isTime, Cond.initialized RX5, Cond.code yX5_isTime cX5_isTime 1 (some .boolean), Cond.constant RX5 73 (-1000000000), Cond.constant RX5 74 (1000000000), Cond.methodLink RX5 61 yX5_in, Cond.static yX5_in, Cond.code yX5_in cX5_in 3 (some .boolean), Cond.methodLink RX5 87 yX5_mark, Cond.instanceMethod yX5_mark, Cond.selects RX5 yX5_mark yX5_mark, Cond.code yX5_mark cX5_mark 1 (some .int), Cond.fieldLink RX5 35 "StreamQueryModel" "marks" "[I", Cond.methodLink RX5 91 yX5_event, Cond.instanceMethod yX5_event]
def wsX5_take_r2 : List Cond := [Cond.selects RX5 yX5_event yX5_event, Cond.code yX5_event cX5_event 12 (some .int), Cond.fieldLink RX5 22 "StreamQueryModel" "times" "[I", Cond.fieldLink RX5 26 "StreamQueryModel" "keys" "[I", Cond.fieldLink RX5 29 "StreamQueryModel" "values" "[I", Cond.methodLink RX5 75 yX5_areNear, Cond.instanceMethod yX5_areNear, Cond.selects RX5 yX5_areNear yX5_areNear, Cond.code yX5_areNear cX5_areNear 5 (some .boolean), Cond.fieldLink RX5 70 "StreamQueryModel" "span" "I", Cond.methodLink RX5 79 yX5_record, Cond.instanceMethod yX5_record, Cond.selects RX5 yX5_record yX5_record, Cond.code yX5_record cX5_record 8 none, Cond.fieldLink RX5 38 "StreamQueryModel" "queue" "[I"]
def wsX5_take : List Cond := .code yX5_take cX5_take 6 (some .int) :: ((wsX5_take_r1 ++ wsX5_take_r2) ++ wsX50)
def wsX5_eventA_r1 : List Cond := [Cond.methodLink RX5 95 yX5_take, Cond.instanceMethod yX5_take, Cond.selects RX5 yX5_take yX5_take, Cond.initialized RX5, Cond.code yX5_take cX5_take 6 (some .int), Cond.fieldLink RX5 67 "StreamQueryModel" "lateness" "I", Cond.fieldLink RX5 48 "StreamQueryModel" "late" "I", Cond.fieldLink RX5 32 "StreamQueryModel" "kept" "[I", Cond.fieldLink RX5 16 "StreamQueryModel" "room" "I", Cond.fieldLink RX5 45 "StreamQueryModel" "queued" "I", Cond.fieldLink RX5 19 "StreamQueryModel" "line" "I", Cond.fieldLink RX5 51 "StreamQueryModel" "pairs" "I", Cond.fieldLink RX5 57 "StreamQueryModel" "taken" "I", Cond.methodLink RX5 83 yX5_isTime, Cond.static yX5_isTime, Cond.code yX5_isTime cX5_isTime 1 (some .boolean), Cond.constant RX5 73 (-1000000000), Cond.constant RX5 74 (1000000000), Cond.methodLink RX5 61 yX5_in, Cond.static yX5_in, Cond.code yX5_in cX5_in 3 (some .boolean), Cond.methodLink RX5 87 yX5_mark, Cond.instanceMethod yX5_mark, Cond.selects RX5 yX5_mark yX5_mark]
def wsX5_eventA_r2 : List Cond := [Cond.code yX5_mark cX5_mark 1 (some .int), Cond.fieldLink RX5 35 "StreamQueryModel" "marks" "[I", Cond.methodLink RX5 91 yX5_event, Cond.instanceMethod yX5_event, Cond.selects RX5 yX5_event yX5_event, Cond.code yX5_event cX5_event 12 (some .int), Cond.fieldLink RX5 22 "StreamQueryModel" "times" "[I", Cond.fieldLink RX5 26 "StreamQueryModel" "keys" "[I", Cond.fieldLink RX5 29 "StreamQueryModel" "values" "[I", Cond.methodLink RX5 75 yX5_areNear, Cond.instanceMethod yX5_areNear, Cond.selects RX5 yX5_areNear yX5_areNear, Cond.code yX5_areNear cX5_areNear 5 (some .boolean), Cond.fieldLink RX5 70 "StreamQueryModel" "span" "I", Cond.methodLink RX5 79 yX5_record, Cond.instanceMethod yX5_record, Cond.selects RX5 yX5_record yX5_record, Cond.code yX5_record cX5_record 8 none, Cond.fieldLink RX5 38 "StreamQueryModel" "queue" "[I"]
def wsX5_eventA : List Cond := .code yX5_eventA cX5_eventA 4 (some .int) :: ((wsX5_eventA_r1 ++ wsX5_eventA_r2) ++ wsX50)
def wsX5_eventB_r1 : List Cond := [Cond.methodLink RX5 95 yX5_take, Cond.instanceMethod yX5_take, Cond.selects RX5 yX5_take yX5_take, Cond.initialized RX5, Cond.code yX5_take cX5_take 6 (some .int), Cond.fieldLink RX5 67 "StreamQueryModel" "lateness" "I", Cond.fieldLink RX5 48 "StreamQueryModel" "late" "I", Cond.fieldLink RX5 32 "StreamQueryModel" "kept" "[I", Cond.fieldLink RX5 16 "StreamQueryModel" "room" "I", Cond.fieldLink RX5 45 "StreamQueryModel" "queued" "I", Cond.fieldLink RX5 19 "StreamQueryModel" "line" "I", Cond.fieldLink RX5 51 "StreamQueryModel" "pairs" "I", Cond.fieldLink RX5 57 "StreamQueryModel" "taken" "I", Cond.methodLink RX5 83 yX5_isTime, Cond.static yX5_isTime, Cond.code yX5_isTime cX5_isTime 1 (some .boolean), Cond.constant RX5 73 (-1000000000), Cond.constant RX5 74 (1000000000), Cond.methodLink RX5 61 yX5_in, Cond.static yX5_in, Cond.code yX5_in cX5_in 3 (some .boolean), Cond.methodLink RX5 87 yX5_mark, Cond.instanceMethod yX5_mark, Cond.selects RX5 yX5_mark yX5_mark]
def wsX5_eventB_r2 : List Cond := [Cond.code yX5_mark cX5_mark 1 (some .int), Cond.fieldLink RX5 35 "StreamQueryModel" "marks" "[I", Cond.methodLink RX5 91 yX5_event, Cond.instanceMethod yX5_event, Cond.selects RX5 yX5_event yX5_event, Cond.code yX5_event cX5_event 12 (some .int), Cond.fieldLink RX5 22 "StreamQueryModel" "times" "[I", Cond.fieldLink RX5 26 "StreamQueryModel" "keys" "[I", Cond.fieldLink RX5 29 "StreamQueryModel" "values" "[I", Cond.methodLink RX5 75 yX5_areNear, Cond.instanceMethod yX5_areNear, Cond.selects RX5 yX5_areNear yX5_areNear, Cond.code yX5_areNear cX5_areNear 5 (some .boolean), Cond.fieldLink RX5 70 "StreamQueryModel" "span" "I", Cond.methodLink RX5 79 yX5_record, Cond.instanceMethod yX5_record, Cond.selects RX5 yX5_record yX5_record, Cond.code yX5_record cX5_record 8 none, Cond.fieldLink RX5 38 "StreamQueryModel" "queue" "[I"]
def wsX5_eventB : List Cond := .code yX5_eventB cX5_eventB 4 (some .int) :: ((wsX5_eventB_r1 ++ wsX5_eventB_r2) ++ wsX50)
def wsX5_lastEnd : List Cond := .code yX5_lastEnd cX5_lastEnd 4 (some .long) :: ([.fieldLink RX5 22 "StreamQueryModel" "times" "[I", .fieldLink RX5 13 "StreamQueryModel" "slide" "I", .fieldLink RX5 7 "StreamQueryModel" "width" "I"] ++ wsX50)
def wsX5_isIn : List Cond := .code yX5_isIn cX5_isIn 4 (some .boolean) :: ([.fieldLink RX5 22 "StreamQueryModel" "times" "[I", .fieldLink RX5 7 "StreamQueryModel" "width" "I"] ++ wsX50)
def wsX5_isOver : List Cond := .code yX5_isOver cX5_isOver 5 (some .boolean) :: ([.fieldLink RX5 67 "StreamQueryModel" "lateness" "I"] ++ wsX50)
def wsX5_nextEnd : List Cond := .code yX5_nextEnd cX5_nextEnd 10 (some .long) :: ([.constantLong RX5 99 (4000000000), .fieldLink RX5 32 "StreamQueryModel" "kept" "[I", .fieldLink RX5 13 "StreamQueryModel" "slide" "I", .methodLink RX5 101 yX5_lastEnd, .instanceMethod yX5_lastEnd, .selects RX5 yX5_lastEnd yX5_lastEnd, .initialized RX5, .code yX5_lastEnd cX5_lastEnd 4 (some .long), .fieldLink RX5 22 "StreamQueryModel" "times" "[I", .fieldLink RX5 7 "StreamQueryModel" "width" "I", .methodLink RX5 105 yX5_isIn, .instanceMethod yX5_isIn, .selects RX5 yX5_isIn yX5_isIn, .code yX5_isIn cX5_isIn 4 (some .boolean)] ++ wsX50)
def wsX5_nextKey : List Cond := .code yX5_nextKey cX5_nextKey 8 (some .long) :: ([.constantLong RX5 99 (4000000000), .fieldLink RX5 32 "StreamQueryModel" "kept" "[I", .fieldLink RX5 26 "StreamQueryModel" "keys" "[I", .methodLink RX5 105 yX5_isIn, .instanceMethod yX5_isIn, .selects RX5 yX5_isIn yX5_isIn, .initialized RX5, .code yX5_isIn cX5_isIn 4 (some .boolean), .fieldLink RX5 22 "StreamQueryModel" "times" "[I", .fieldLink RX5 7 "StreamQueryModel" "width" "I"] ++ wsX50)
def wsX5_gather : List Cond := .code yX5_gather cX5_gather 5 none :: ([.fieldLink RX5 109 "StreamQueryModel" "sum" "I", .fieldLink RX5 112 "StreamQueryModel" "many" "I", .fieldLink RX5 115 "StreamQueryModel" "greatest" "I", .fieldLink RX5 32 "StreamQueryModel" "kept" "[I", .fieldLink RX5 26 "StreamQueryModel" "keys" "[I", .fieldLink RX5 29 "StreamQueryModel" "values" "[I", .methodLink RX5 105 yX5_isIn, .instanceMethod yX5_isIn, .selects RX5 yX5_isIn yX5_isIn, .initialized RX5, .code yX5_isIn cX5_isIn 4 (some .boolean), .fieldLink RX5 22 "StreamQueryModel" "times" "[I", .fieldLink RX5 7 "StreamQueryModel" "width" "I"] ++ wsX50)
def wsX5_goOver_r1 : List Cond := [Cond.fieldLink RX5 118 "StreamQueryModel" "records" "I", Cond.constantLong RX5 121 (-4000000000), Cond.constantLong RX5 99 (4000000000), Cond.fieldLink RX5 109 "StreamQueryModel" "sum" "I", Cond.fieldLink RX5 112 "StreamQueryModel" "many" "I", Cond.fieldLink RX5 115 "StreamQueryModel" "greatest" "I", Cond.methodLink RX5 123 yX5_nextEnd, Cond.instanceMethod yX5_nextEnd, Cond.selects RX5 yX5_nextEnd yX5_nextEnd, Cond.initialized RX5, Cond.code yX5_nextEnd cX5_nextEnd 10 (some .long), Cond.fieldLink RX5 32 "StreamQueryModel" "kept" "[I", Cond.fieldLink RX5 13 "StreamQueryModel" "slide" "I", Cond.methodLink RX5 101 yX5_lastEnd, Cond.instanceMethod yX5_lastEnd, Cond.selects RX5 yX5_lastEnd yX5_lastEnd, Cond.code yX5_lastEnd cX5_lastEnd 4 (some .long), Cond.fieldLink RX5 22 "StreamQueryModel" "times" "[I", Cond.fieldLink RX5 7 "StreamQueryModel" "width" "I", Cond.methodLink RX5 105 yX5_isIn, Cond.instanceMethod yX5_isIn, Cond.selects RX5 yX5_isIn yX5_isIn, Cond.code yX5_isIn cX5_isIn 4 (some .boolean), Cond.methodLink RX5 127 yX5_isOver]
def wsX5_goOver_r2 : List Cond := [Cond.instanceMethod yX5_isOver, Cond.selects RX5 yX5_isOver yX5_isOver, Cond.code yX5_isOver cX5_isOver 5 (some .boolean), Cond.fieldLink RX5 67 "StreamQueryModel" "lateness" "I", Cond.methodLink RX5 131 yX5_nextKey, Cond.instanceMethod yX5_nextKey, Cond.selects RX5 yX5_nextKey yX5_nextKey, Cond.code yX5_nextKey cX5_nextKey 8 (some .long), Cond.fieldLink RX5 26 "StreamQueryModel" "keys" "[I", Cond.methodLink RX5 135 yX5_gather, Cond.instanceMethod yX5_gather, Cond.selects RX5 yX5_gather yX5_gather, Cond.code yX5_gather cX5_gather 5 none, Cond.fieldLink RX5 29 "StreamQueryModel" "values" "[I", Cond.methodLink RX5 79 yX5_record, Cond.instanceMethod yX5_record, Cond.selects RX5 yX5_record yX5_record, Cond.code yX5_record cX5_record 8 none, Cond.fieldLink RX5 45 "StreamQueryModel" "queued" "I", Cond.fieldLink RX5 38 "StreamQueryModel" "queue" "[I"]
def wsX5_goOver : List Cond := .code yX5_goOver cX5_goOver 11 (some .int) :: ((wsX5_goOver_r1 ++ wsX5_goOver_r2) ++ wsX50)
def wsX5_isKept : List Cond := .code yX5_isKept cX5_isKept 3 (some .boolean) :: ([.fieldLink RX5 22 "StreamQueryModel" "times" "[I", .fieldLink RX5 70 "StreamQueryModel" "span" "I", .fieldLink RX5 67 "StreamQueryModel" "lateness" "I", .methodLink RX5 87 yX5_mark, .instanceMethod yX5_mark, .selects RX5 yX5_mark yX5_mark, .initialized RX5, .code yX5_mark cX5_mark 1 (some .int), .fieldLink RX5 35 "StreamQueryModel" "marks" "[I", .methodLink RX5 101 yX5_lastEnd, .instanceMethod yX5_lastEnd, .selects RX5 yX5_lastEnd yX5_lastEnd, .code yX5_lastEnd cX5_lastEnd 4 (some .long), .fieldLink RX5 13 "StreamQueryModel" "slide" "I", .fieldLink RX5 7 "StreamQueryModel" "width" "I", .methodLink RX5 127 yX5_isOver, .instanceMethod yX5_isOver, .selects RX5 yX5_isOver yX5_isOver, .code yX5_isOver cX5_isOver 5 (some .boolean)] ++ wsX50)
def wsX5_sweep_r1 : List Cond := [Cond.fieldLink RX5 32 "StreamQueryModel" "kept" "[I", Cond.fieldLink RX5 22 "StreamQueryModel" "times" "[I", Cond.fieldLink RX5 26 "StreamQueryModel" "keys" "[I", Cond.fieldLink RX5 29 "StreamQueryModel" "values" "[I", Cond.methodLink RX5 139 yX5_isKept, Cond.instanceMethod yX5_isKept, Cond.selects RX5 yX5_isKept yX5_isKept, Cond.initialized RX5, Cond.code yX5_isKept cX5_isKept 3 (some .boolean), Cond.fieldLink RX5 70 "StreamQueryModel" "span" "I", Cond.fieldLink RX5 67 "StreamQueryModel" "lateness" "I", Cond.methodLink RX5 87 yX5_mark, Cond.instanceMethod yX5_mark, Cond.selects RX5 yX5_mark yX5_mark, Cond.code yX5_mark cX5_mark 1 (some .int), Cond.fieldLink RX5 35 "StreamQueryModel" "marks" "[I", Cond.methodLink RX5 101 yX5_lastEnd, Cond.instanceMethod yX5_lastEnd, Cond.selects RX5 yX5_lastEnd yX5_lastEnd, Cond.code yX5_lastEnd cX5_lastEnd 4 (some .long), Cond.fieldLink RX5 13 "StreamQueryModel" "slide" "I", Cond.fieldLink RX5 7 "StreamQueryModel" "width" "I", Cond.methodLink RX5 127 yX5_isOver, Cond.instanceMethod yX5_isOver]
def wsX5_sweep_r2 : List Cond := [Cond.selects RX5 yX5_isOver yX5_isOver, Cond.code yX5_isOver cX5_isOver 5 (some .boolean)]
def wsX5_sweep : List Cond := .code yX5_sweep cX5_sweep 5 none :: ((wsX5_sweep_r1 ++ wsX5_sweep_r2) ++ wsX50)
def wsX5_pass_r1 : List Cond := [Cond.fieldLink RX5 35 "StreamQueryModel" "marks" "[I", Cond.fieldLink RX5 45 "StreamQueryModel" "queued" "I", Cond.fieldLink RX5 118 "StreamQueryModel" "records" "I", Cond.fieldLink RX5 19 "StreamQueryModel" "line" "I", Cond.fieldLink RX5 54 "StreamQueryModel" "told" "I", Cond.methodLink RX5 83 yX5_isTime, Cond.static yX5_isTime, Cond.initialized RX5, Cond.code yX5_isTime cX5_isTime 1 (some .boolean), Cond.constant RX5 73 (-1000000000), Cond.constant RX5 74 (1000000000), Cond.methodLink RX5 61 yX5_in, Cond.static yX5_in, Cond.code yX5_in cX5_in 3 (some .boolean), Cond.methodLink RX5 87 yX5_mark, Cond.instanceMethod yX5_mark, Cond.selects RX5 yX5_mark yX5_mark, Cond.code yX5_mark cX5_mark 1 (some .int), Cond.methodLink RX5 142 yX5_goOver, Cond.instanceMethod yX5_goOver, Cond.selects RX5 yX5_goOver yX5_goOver, Cond.code yX5_goOver cX5_goOver 11 (some .int), Cond.constantLong RX5 121 (-4000000000), Cond.constantLong RX5 99 (4000000000)]
def wsX5_pass_r2 : List Cond := [Cond.fieldLink RX5 109 "StreamQueryModel" "sum" "I", Cond.fieldLink RX5 112 "StreamQueryModel" "many" "I", Cond.fieldLink RX5 115 "StreamQueryModel" "greatest" "I", Cond.methodLink RX5 123 yX5_nextEnd, Cond.instanceMethod yX5_nextEnd, Cond.selects RX5 yX5_nextEnd yX5_nextEnd, Cond.code yX5_nextEnd cX5_nextEnd 10 (some .long), Cond.fieldLink RX5 32 "StreamQueryModel" "kept" "[I", Cond.fieldLink RX5 13 "StreamQueryModel" "slide" "I", Cond.methodLink RX5 101 yX5_lastEnd, Cond.instanceMethod yX5_lastEnd, Cond.selects RX5 yX5_lastEnd yX5_lastEnd, Cond.code yX5_lastEnd cX5_lastEnd 4 (some .long), Cond.fieldLink RX5 22 "StreamQueryModel" "times" "[I", Cond.fieldLink RX5 7 "StreamQueryModel" "width" "I", Cond.methodLink RX5 105 yX5_isIn, Cond.instanceMethod yX5_isIn, Cond.selects RX5 yX5_isIn yX5_isIn, Cond.code yX5_isIn cX5_isIn 4 (some .boolean), Cond.methodLink RX5 127 yX5_isOver, Cond.instanceMethod yX5_isOver, Cond.selects RX5 yX5_isOver yX5_isOver, Cond.code yX5_isOver cX5_isOver 5 (some .boolean), Cond.fieldLink RX5 67 "StreamQueryModel" "lateness" "I"]
def wsX5_pass_r3 : List Cond := [Cond.methodLink RX5 131 yX5_nextKey, Cond.instanceMethod yX5_nextKey, Cond.selects RX5 yX5_nextKey yX5_nextKey, Cond.code yX5_nextKey cX5_nextKey 8 (some .long), Cond.fieldLink RX5 26 "StreamQueryModel" "keys" "[I", Cond.methodLink RX5 135 yX5_gather, Cond.instanceMethod yX5_gather, Cond.selects RX5 yX5_gather yX5_gather, Cond.code yX5_gather cX5_gather 5 none, Cond.fieldLink RX5 29 "StreamQueryModel" "values" "[I", Cond.methodLink RX5 79 yX5_record, Cond.instanceMethod yX5_record, Cond.selects RX5 yX5_record yX5_record, Cond.code yX5_record cX5_record 8 none, Cond.fieldLink RX5 38 "StreamQueryModel" "queue" "[I", Cond.methodLink RX5 146 yX5_sweep, Cond.instanceMethod yX5_sweep, Cond.selects RX5 yX5_sweep yX5_sweep, Cond.code yX5_sweep cX5_sweep 5 none, Cond.methodLink RX5 139 yX5_isKept, Cond.instanceMethod yX5_isKept, Cond.selects RX5 yX5_isKept yX5_isKept, Cond.code yX5_isKept cX5_isKept 3 (some .boolean), Cond.fieldLink RX5 70 "StreamQueryModel" "span" "I"]
def wsX5_pass : List Cond := .code yX5_pass cX5_pass 6 (some .int) :: ((wsX5_pass_r1 ++ (wsX5_pass_r2 ++ wsX5_pass_r3)) ++ wsX50)
def wsX5_markA_r1 : List Cond := [Cond.methodLink RX5 150 yX5_pass, Cond.instanceMethod yX5_pass, Cond.selects RX5 yX5_pass yX5_pass, Cond.initialized RX5, Cond.code yX5_pass cX5_pass 6 (some .int), Cond.fieldLink RX5 35 "StreamQueryModel" "marks" "[I", Cond.fieldLink RX5 45 "StreamQueryModel" "queued" "I", Cond.fieldLink RX5 118 "StreamQueryModel" "records" "I", Cond.fieldLink RX5 19 "StreamQueryModel" "line" "I", Cond.fieldLink RX5 54 "StreamQueryModel" "told" "I", Cond.methodLink RX5 83 yX5_isTime, Cond.static yX5_isTime, Cond.code yX5_isTime cX5_isTime 1 (some .boolean), Cond.constant RX5 73 (-1000000000), Cond.constant RX5 74 (1000000000), Cond.methodLink RX5 61 yX5_in, Cond.static yX5_in, Cond.code yX5_in cX5_in 3 (some .boolean), Cond.methodLink RX5 87 yX5_mark, Cond.instanceMethod yX5_mark, Cond.selects RX5 yX5_mark yX5_mark, Cond.code yX5_mark cX5_mark 1 (some .int), Cond.methodLink RX5 142 yX5_goOver, Cond.instanceMethod yX5_goOver]
def wsX5_markA_r2 : List Cond := [Cond.selects RX5 yX5_goOver yX5_goOver, Cond.code yX5_goOver cX5_goOver 11 (some .int), Cond.constantLong RX5 121 (-4000000000), Cond.constantLong RX5 99 (4000000000), Cond.fieldLink RX5 109 "StreamQueryModel" "sum" "I", Cond.fieldLink RX5 112 "StreamQueryModel" "many" "I", Cond.fieldLink RX5 115 "StreamQueryModel" "greatest" "I", Cond.methodLink RX5 123 yX5_nextEnd, Cond.instanceMethod yX5_nextEnd, Cond.selects RX5 yX5_nextEnd yX5_nextEnd, Cond.code yX5_nextEnd cX5_nextEnd 10 (some .long), Cond.fieldLink RX5 32 "StreamQueryModel" "kept" "[I", Cond.fieldLink RX5 13 "StreamQueryModel" "slide" "I", Cond.methodLink RX5 101 yX5_lastEnd, Cond.instanceMethod yX5_lastEnd, Cond.selects RX5 yX5_lastEnd yX5_lastEnd, Cond.code yX5_lastEnd cX5_lastEnd 4 (some .long), Cond.fieldLink RX5 22 "StreamQueryModel" "times" "[I", Cond.fieldLink RX5 7 "StreamQueryModel" "width" "I", Cond.methodLink RX5 105 yX5_isIn, Cond.instanceMethod yX5_isIn, Cond.selects RX5 yX5_isIn yX5_isIn, Cond.code yX5_isIn cX5_isIn 4 (some .boolean), Cond.methodLink RX5 127 yX5_isOver]
def wsX5_markA_r3 : List Cond := [Cond.instanceMethod yX5_isOver, Cond.selects RX5 yX5_isOver yX5_isOver, Cond.code yX5_isOver cX5_isOver 5 (some .boolean), Cond.fieldLink RX5 67 "StreamQueryModel" "lateness" "I", Cond.methodLink RX5 131 yX5_nextKey, Cond.instanceMethod yX5_nextKey, Cond.selects RX5 yX5_nextKey yX5_nextKey, Cond.code yX5_nextKey cX5_nextKey 8 (some .long), Cond.fieldLink RX5 26 "StreamQueryModel" "keys" "[I", Cond.methodLink RX5 135 yX5_gather, Cond.instanceMethod yX5_gather, Cond.selects RX5 yX5_gather yX5_gather, Cond.code yX5_gather cX5_gather 5 none, Cond.fieldLink RX5 29 "StreamQueryModel" "values" "[I", Cond.methodLink RX5 79 yX5_record, Cond.instanceMethod yX5_record, Cond.selects RX5 yX5_record yX5_record, Cond.code yX5_record cX5_record 8 none, Cond.fieldLink RX5 38 "StreamQueryModel" "queue" "[I", Cond.methodLink RX5 146 yX5_sweep, Cond.instanceMethod yX5_sweep, Cond.selects RX5 yX5_sweep yX5_sweep, Cond.code yX5_sweep cX5_sweep 5 none, Cond.methodLink RX5 139 yX5_isKept]
def wsX5_markA_r4 : List Cond := [Cond.instanceMethod yX5_isKept, Cond.selects RX5 yX5_isKept yX5_isKept, Cond.code yX5_isKept cX5_isKept 3 (some .boolean), Cond.fieldLink RX5 70 "StreamQueryModel" "span" "I"]
def wsX5_markA : List Cond := .code yX5_markA cX5_markA 2 (some .int) :: ((wsX5_markA_r1 ++ (wsX5_markA_r2 ++ (wsX5_markA_r3 ++ wsX5_markA_r4))) ++ wsX50)
def wsX5_markB_r1 : List Cond := [Cond.methodLink RX5 150 yX5_pass, Cond.instanceMethod yX5_pass, Cond.selects RX5 yX5_pass yX5_pass, Cond.initialized RX5, Cond.code yX5_pass cX5_pass 6 (some .int), Cond.fieldLink RX5 35 "StreamQueryModel" "marks" "[I", Cond.fieldLink RX5 45 "StreamQueryModel" "queued" "I", Cond.fieldLink RX5 118 "StreamQueryModel" "records" "I", Cond.fieldLink RX5 19 "StreamQueryModel" "line" "I", Cond.fieldLink RX5 54 "StreamQueryModel" "told" "I", Cond.methodLink RX5 83 yX5_isTime, Cond.static yX5_isTime, Cond.code yX5_isTime cX5_isTime 1 (some .boolean), Cond.constant RX5 73 (-1000000000), Cond.constant RX5 74 (1000000000), Cond.methodLink RX5 61 yX5_in, Cond.static yX5_in, Cond.code yX5_in cX5_in 3 (some .boolean), Cond.methodLink RX5 87 yX5_mark, Cond.instanceMethod yX5_mark, Cond.selects RX5 yX5_mark yX5_mark, Cond.code yX5_mark cX5_mark 1 (some .int), Cond.methodLink RX5 142 yX5_goOver, Cond.instanceMethod yX5_goOver]
def wsX5_markB_r2 : List Cond := [Cond.selects RX5 yX5_goOver yX5_goOver, Cond.code yX5_goOver cX5_goOver 11 (some .int), Cond.constantLong RX5 121 (-4000000000), Cond.constantLong RX5 99 (4000000000), Cond.fieldLink RX5 109 "StreamQueryModel" "sum" "I", Cond.fieldLink RX5 112 "StreamQueryModel" "many" "I", Cond.fieldLink RX5 115 "StreamQueryModel" "greatest" "I", Cond.methodLink RX5 123 yX5_nextEnd, Cond.instanceMethod yX5_nextEnd, Cond.selects RX5 yX5_nextEnd yX5_nextEnd, Cond.code yX5_nextEnd cX5_nextEnd 10 (some .long), Cond.fieldLink RX5 32 "StreamQueryModel" "kept" "[I", Cond.fieldLink RX5 13 "StreamQueryModel" "slide" "I", Cond.methodLink RX5 101 yX5_lastEnd, Cond.instanceMethod yX5_lastEnd, Cond.selects RX5 yX5_lastEnd yX5_lastEnd, Cond.code yX5_lastEnd cX5_lastEnd 4 (some .long), Cond.fieldLink RX5 22 "StreamQueryModel" "times" "[I", Cond.fieldLink RX5 7 "StreamQueryModel" "width" "I", Cond.methodLink RX5 105 yX5_isIn, Cond.instanceMethod yX5_isIn, Cond.selects RX5 yX5_isIn yX5_isIn, Cond.code yX5_isIn cX5_isIn 4 (some .boolean), Cond.methodLink RX5 127 yX5_isOver]
def wsX5_markB_r3 : List Cond := [Cond.instanceMethod yX5_isOver, Cond.selects RX5 yX5_isOver yX5_isOver, Cond.code yX5_isOver cX5_isOver 5 (some .boolean), Cond.fieldLink RX5 67 "StreamQueryModel" "lateness" "I", Cond.methodLink RX5 131 yX5_nextKey, Cond.instanceMethod yX5_nextKey, Cond.selects RX5 yX5_nextKey yX5_nextKey, Cond.code yX5_nextKey cX5_nextKey 8 (some .long), Cond.fieldLink RX5 26 "StreamQueryModel" "keys" "[I", Cond.methodLink RX5 135 yX5_gather, Cond.instanceMethod yX5_gather, Cond.selects RX5 yX5_gather yX5_gather, Cond.code yX5_gather cX5_gather 5 none, Cond.fieldLink RX5 29 "StreamQueryModel" "values" "[I", Cond.methodLink RX5 79 yX5_record, Cond.instanceMethod yX5_record, Cond.selects RX5 yX5_record yX5_record, Cond.code yX5_record cX5_record 8 none, Cond.fieldLink RX5 38 "StreamQueryModel" "queue" "[I", Cond.methodLink RX5 146 yX5_sweep, Cond.instanceMethod yX5_sweep, Cond.selects RX5 yX5_sweep yX5_sweep, Cond.code yX5_sweep cX5_sweep 5 none, Cond.methodLink RX5 139 yX5_isKept]
def wsX5_markB_r4 : List Cond := [Cond.instanceMethod yX5_isKept, Cond.selects RX5 yX5_isKept yX5_isKept, Cond.code yX5_isKept cX5_isKept 3 (some .boolean), Cond.fieldLink RX5 70 "StreamQueryModel" "span" "I"]
def wsX5_markB : List Cond := .code yX5_markB cX5_markB 2 (some .int) :: ((wsX5_markB_r1 ++ (wsX5_markB_r2 ++ (wsX5_markB_r3 ++ wsX5_markB_r4))) ++ wsX50)
def wsX5_available : List Cond := .code yX5_available cX5_available 1 (some .int) :: ([.fieldLink RX5 45 "StreamQueryModel" "queued" "I"] ++ wsX50)
def wsX5_kind : List Cond := .code yX5_kind cX5_kind 2 (some .int) :: ([.fieldLink RX5 45 "StreamQueryModel" "queued" "I", .fieldLink RX5 38 "StreamQueryModel" "queue" "[I", .methodLink RX5 61 yX5_in, .static yX5_in, .initialized RX5, .code yX5_in cX5_in 3 (some .boolean)] ++ wsX50)
def wsX5_field : List Cond := .code yX5_field cX5_field 3 (some .int) :: ([.fieldLink RX5 45 "StreamQueryModel" "queued" "I", .fieldLink RX5 38 "StreamQueryModel" "queue" "[I", .methodLink RX5 61 yX5_in, .static yX5_in, .initialized RX5, .code yX5_in cX5_in 3 (some .boolean)] ++ wsX50)
def wsX5_pop : List Cond := .code yX5_pop cX5_pop 2 (some .boolean) :: ([.fieldLink RX5 45 "StreamQueryModel" "queued" "I", .fieldLink RX5 38 "StreamQueryModel" "queue" "[I"] ++ wsX50)
def wsX5_look_r1 : List Cond := [Cond.fieldLink RX5 7 "StreamQueryModel" "width" "I", Cond.fieldLink RX5 13 "StreamQueryModel" "slide" "I", Cond.fieldLink RX5 109 "StreamQueryModel" "sum" "I", Cond.fieldLink RX5 112 "StreamQueryModel" "many" "I", Cond.fieldLink RX5 115 "StreamQueryModel" "greatest" "I", Cond.methodLink RX5 87 yX5_mark, Cond.instanceMethod yX5_mark, Cond.selects RX5 yX5_mark yX5_mark, Cond.initialized RX5, Cond.code yX5_mark cX5_mark 1 (some .int), Cond.fieldLink RX5 35 "StreamQueryModel" "marks" "[I", Cond.methodLink RX5 127 yX5_isOver, Cond.instanceMethod yX5_isOver, Cond.selects RX5 yX5_isOver yX5_isOver, Cond.code yX5_isOver cX5_isOver 5 (some .boolean), Cond.fieldLink RX5 67 "StreamQueryModel" "lateness" "I", Cond.methodLink RX5 61 yX5_in, Cond.static yX5_in, Cond.code yX5_in cX5_in 3 (some .boolean), Cond.methodLink RX5 135 yX5_gather, Cond.instanceMethod yX5_gather, Cond.selects RX5 yX5_gather yX5_gather, Cond.code yX5_gather cX5_gather 5 none, Cond.fieldLink RX5 32 "StreamQueryModel" "kept" "[I"]
def wsX5_look_r2 : List Cond := [Cond.fieldLink RX5 26 "StreamQueryModel" "keys" "[I", Cond.fieldLink RX5 29 "StreamQueryModel" "values" "[I", Cond.methodLink RX5 105 yX5_isIn, Cond.instanceMethod yX5_isIn, Cond.selects RX5 yX5_isIn yX5_isIn, Cond.code yX5_isIn cX5_isIn 4 (some .boolean), Cond.fieldLink RX5 22 "StreamQueryModel" "times" "[I"]
def wsX5_look : List Cond := .code yX5_look cX5_look 6 (some .int) :: ((wsX5_look_r1 ++ wsX5_look_r2) ++ wsX50)
def wsX5_event_ : List Cond := .code yX5_event_ cX5_event_ 5 (some .int) :: ([.fieldLink RX5 32 "StreamQueryModel" "kept" "[I", .fieldLink RX5 22 "StreamQueryModel" "times" "[I", .fieldLink RX5 26 "StreamQueryModel" "keys" "[I", .fieldLink RX5 29 "StreamQueryModel" "values" "[I", .methodLink RX5 61 yX5_in, .static yX5_in, .initialized RX5, .code yX5_in cX5_in 3 (some .boolean)] ++ wsX50)
def wsX5_windows_r1 : List Cond := [Cond.constantLong RX5 121 (-4000000000), Cond.constantLong RX5 99 (4000000000), Cond.methodLink RX5 123 yX5_nextEnd, Cond.instanceMethod yX5_nextEnd, Cond.selects RX5 yX5_nextEnd yX5_nextEnd, Cond.initialized RX5, Cond.code yX5_nextEnd cX5_nextEnd 10 (some .long), Cond.fieldLink RX5 32 "StreamQueryModel" "kept" "[I", Cond.fieldLink RX5 13 "StreamQueryModel" "slide" "I", Cond.methodLink RX5 101 yX5_lastEnd, Cond.instanceMethod yX5_lastEnd, Cond.selects RX5 yX5_lastEnd yX5_lastEnd, Cond.code yX5_lastEnd cX5_lastEnd 4 (some .long), Cond.fieldLink RX5 22 "StreamQueryModel" "times" "[I", Cond.fieldLink RX5 7 "StreamQueryModel" "width" "I", Cond.methodLink RX5 105 yX5_isIn, Cond.instanceMethod yX5_isIn, Cond.selects RX5 yX5_isIn yX5_isIn, Cond.code yX5_isIn cX5_isIn 4 (some .boolean), Cond.methodLink RX5 87 yX5_mark, Cond.instanceMethod yX5_mark, Cond.selects RX5 yX5_mark yX5_mark, Cond.code yX5_mark cX5_mark 1 (some .int), Cond.fieldLink RX5 35 "StreamQueryModel" "marks" "[I"]
def wsX5_windows_r2 : List Cond := [Cond.methodLink RX5 127 yX5_isOver, Cond.instanceMethod yX5_isOver, Cond.selects RX5 yX5_isOver yX5_isOver, Cond.code yX5_isOver cX5_isOver 5 (some .boolean), Cond.fieldLink RX5 67 "StreamQueryModel" "lateness" "I"]
def wsX5_windows : List Cond := .code yX5_windows cX5_windows 4 (some .int) :: ((wsX5_windows_r1 ++ wsX5_windows_r2) ++ wsX50)
def wsX5_count_r1 : List Cond := [Cond.fieldLink RX5 32 "StreamQueryModel" "kept" "[I", Cond.fieldLink RX5 48 "StreamQueryModel" "late" "I", Cond.fieldLink RX5 35 "StreamQueryModel" "marks" "[I", Cond.fieldLink RX5 51 "StreamQueryModel" "pairs" "I", Cond.fieldLink RX5 54 "StreamQueryModel" "told" "I", Cond.fieldLink RX5 57 "StreamQueryModel" "taken" "I", Cond.methodLink RX5 154 yX5_windows, Cond.instanceMethod yX5_windows, Cond.selects RX5 yX5_windows yX5_windows, Cond.initialized RX5, Cond.code yX5_windows cX5_windows 4 (some .int), Cond.constantLong RX5 121 (-4000000000), Cond.constantLong RX5 99 (4000000000), Cond.methodLink RX5 123 yX5_nextEnd, Cond.instanceMethod yX5_nextEnd, Cond.selects RX5 yX5_nextEnd yX5_nextEnd, Cond.code yX5_nextEnd cX5_nextEnd 10 (some .long), Cond.fieldLink RX5 13 "StreamQueryModel" "slide" "I", Cond.methodLink RX5 101 yX5_lastEnd, Cond.instanceMethod yX5_lastEnd, Cond.selects RX5 yX5_lastEnd yX5_lastEnd, Cond.code yX5_lastEnd cX5_lastEnd 4 (some .long), Cond.fieldLink RX5 22 "StreamQueryModel" "times" "[I", Cond.fieldLink RX5 7 "StreamQueryModel" "width" "I"]
def wsX5_count_r2 : List Cond := [Cond.methodLink RX5 105 yX5_isIn, Cond.instanceMethod yX5_isIn, Cond.selects RX5 yX5_isIn yX5_isIn, Cond.code yX5_isIn cX5_isIn 4 (some .boolean), Cond.methodLink RX5 87 yX5_mark, Cond.instanceMethod yX5_mark, Cond.selects RX5 yX5_mark yX5_mark, Cond.code yX5_mark cX5_mark 1 (some .int), Cond.methodLink RX5 127 yX5_isOver, Cond.instanceMethod yX5_isOver, Cond.selects RX5 yX5_isOver yX5_isOver, Cond.code yX5_isOver cX5_isOver 5 (some .boolean), Cond.fieldLink RX5 67 "StreamQueryModel" "lateness" "I"]
def wsX5_count : List Cond := .code yX5_count cX5_count 2 (some .int) :: ((wsX5_count_r1 ++ wsX5_count_r2) ++ wsX50)
def wsJ9_abs_0f7a4 : List Cond := .code yJ9_abs_0f7a4 cJ9_abs_0f7a4 1 (some .int) :: ([])
def wsJ9_max_7cf53 : List Cond := .code yJ9_max_7cf53 cJ9_max_7cf53 2 (some .int) :: ([])
def wsJ9_min_7cf53 : List Cond := .code yJ9_min_7cf53 cJ9_min_7cf53 2 (some .int) :: ([])
def wsL_law_r1 : List Cond := [Cond.classLink RL 7 RX4, Cond.instantiable RX4 16, Cond.initialized RX4, Cond.classLink RL 10 RX5, Cond.instantiable RX5 21, Cond.initialized RX5, Cond.methodLink RL 9 yX4_init, Cond.instanceMethod yX4_init, Cond.code yX4_init cX4_init 1 none, Cond.methodLink RX4 1 objectInit, Cond.instanceMethod objectInit, Cond.code objectInit ⟨#[0xb1]⟩ 1 none, Cond.classLink RX4 7 RX0, Cond.instantiable RX0 4, Cond.initialized RX0, Cond.fieldLink RX4 10 "StreamQuery" "ofA" "LStreamQuery$Events;", Cond.fieldLink RX4 16 "StreamQuery" "ofB" "LStreamQuery$Events;", Cond.classLink RX4 19 RX2, Cond.instantiable RX2 1, Cond.initialized RX2, Cond.fieldLink RX4 22 "StreamQuery" "groups" "LStreamQuery$Groups;", Cond.classLink RX4 26 RX3, Cond.instantiable RX3 3, Cond.initialized RX3]
def wsL_law_r2 : List Cond := [Cond.fieldLink RX4 29 "StreamQuery" "queue" "LStreamQuery$Line;", Cond.fieldLink RX4 33 "StreamQuery" "width" "I", Cond.fieldLink RX4 37 "StreamQuery" "slide" "I", Cond.fieldLink RX4 40 "StreamQuery" "lateness" "I", Cond.fieldLink RX4 43 "StreamQuery" "span" "I", Cond.fieldLink RX4 46 "StreamQuery" "room" "I", Cond.fieldLink RX4 49 "StreamQuery" "line" "I", Cond.instanceMethod yX0_init, Cond.code yX0_init cX0_init 1 none, Cond.methodLink RX0 3 objectInit, Cond.arrayClass .int, Cond.fieldLink RX0 9 "StreamQuery$Events" "times" "[I", Cond.fieldLink RX0 15 "StreamQuery$Events" "keys" "[I", Cond.fieldLink RX0 18 "StreamQuery$Events" "values" "[I", Cond.fieldLink RX0 21 "StreamQuery$Events" "size" "I", Cond.instanceMethod yX2_init, Cond.code yX2_init cX2_init 1 none, Cond.methodLink RX2 1 objectInit, Cond.classLink RX2 7 RX1, Cond.instantiable RX1 6, Cond.initialized RX1, Cond.constant RX2 11 (-2147483648), Cond.fieldLink RX2 15 "StreamQuery$Groups" "head" "LStreamQuery$Group;", Cond.methodLink RX2 12 yX1_init]
def wsL_law_r3 : List Cond := [Cond.instanceMethod yX1_init, Cond.code yX1_init cX1_init 4 none, Cond.methodLink RX1 1 objectInit, Cond.fieldLink RX1 7 "StreamQuery$Group" "sum" "I", Cond.fieldLink RX1 13 "StreamQuery$Group" "many" "I", Cond.constant RX1 18 (-2147483648), Cond.fieldLink RX1 19 "StreamQuery$Group" "greatest" "I", Cond.fieldLink RX1 22 "StreamQuery$Group" "end" "I", Cond.fieldLink RX1 25 "StreamQuery$Group" "key" "I", Cond.fieldLink RX1 28 "StreamQuery$Group" "next" "LStreamQuery$Group;", Cond.instanceMethod yX3_init, Cond.code yX3_init cX3_init 1 none, Cond.methodLink RX3 3 objectInit, Cond.fieldLink RX3 11 "StreamQuery$Line" "cells" "[I", Cond.fieldLink RX3 15 "StreamQuery$Line" "first" "I", Cond.fieldLink RX3 19 "StreamQuery$Line" "size" "I", Cond.methodLink RX4 52 yX4_startAgain, Cond.instanceMethod yX4_startAgain, Cond.selects RX4 yX4_startAgain yX4_startAgain, Cond.code yX4_startAgain cX4_startAgain 1 none, Cond.constant RX4 167 (-2000000000), Cond.fieldLink RX4 97 "StreamQuery" "markOfA" "I", Cond.fieldLink RX4 104 "StreamQuery" "markOfB" "I", Cond.fieldLink RX4 144 "StreamQuery" "lateEvents" "I"]
def wsL_law_r4 : List Cond := [Cond.fieldLink RX4 153 "StreamQuery" "pairsTold" "I", Cond.fieldLink RX4 156 "StreamQuery" "groupsTold" "I", Cond.fieldLink RX4 159 "StreamQuery" "eventsTaken" "I", Cond.methodLink RX4 162 yX0_clear, Cond.instanceMethod yX0_clear, Cond.selects RX0 yX0_clear yX0_clear, Cond.code yX0_clear cX0_clear 1 none, Cond.methodLink RX4 165 yX2_clear, Cond.instanceMethod yX2_clear, Cond.selects RX2 yX2_clear yX2_clear, Cond.code yX2_clear cX2_clear 1 none, Cond.methodLink RX4 166 yX3_clear, Cond.instanceMethod yX3_clear, Cond.selects RX3 yX3_clear yX3_clear, Cond.code yX3_clear cX3_clear 1 none, Cond.methodLink RL 12 yX5_init, Cond.instanceMethod yX5_init, Cond.code yX5_init cX5_init 1 none, Cond.methodLink RX5 1 objectInit, Cond.fieldLink RX5 7 "StreamQueryModel" "width" "I", Cond.fieldLink RX5 13 "StreamQueryModel" "slide" "I", Cond.fieldLink RX5 16 "StreamQueryModel" "room" "I", Cond.fieldLink RX5 19 "StreamQueryModel" "line" "I", Cond.fieldLink RX5 22 "StreamQueryModel" "times" "[I"]
def wsL_law_r5 : List Cond := [Cond.fieldLink RX5 26 "StreamQueryModel" "keys" "[I", Cond.fieldLink RX5 29 "StreamQueryModel" "values" "[I", Cond.fieldLink RX5 32 "StreamQueryModel" "kept" "[I", Cond.fieldLink RX5 35 "StreamQueryModel" "marks" "[I", Cond.fieldLink RX5 38 "StreamQueryModel" "queue" "[I", Cond.methodLink RX5 41 yX5_forget, Cond.instanceMethod yX5_forget, Cond.selects RX5 yX5_forget yX5_forget, Cond.code yX5_forget cX5_forget 1 none, Cond.constant RX5 44 (-2000000000), Cond.fieldLink RX5 45 "StreamQueryModel" "queued" "I", Cond.fieldLink RX5 48 "StreamQueryModel" "late" "I", Cond.fieldLink RX5 51 "StreamQueryModel" "pairs" "I", Cond.fieldLink RX5 54 "StreamQueryModel" "told" "I", Cond.fieldLink RX5 57 "StreamQueryModel" "taken" "I", Cond.methodLink RL 13 yX4_set, Cond.instanceMethod yX4_set, Cond.selects RX4 yX4_set yX4_set, Cond.code yX4_set cX4_set 7 (some .int), Cond.constant RX4 59 (1000000), Cond.methodLink RX4 55 yX4_areWindows, Cond.static yX4_areWindows, Cond.code yX4_areWindows cX4_areWindows 2 (some .boolean), Cond.methodLink RX4 60 yX4_isWithin]
def wsL_law_r6 : List Cond := [Cond.static yX4_isWithin, Cond.code yX4_isWithin cX4_isWithin 3 (some .boolean), Cond.methodLink RL 17 yX5_set, Cond.instanceMethod yX5_set, Cond.selects RX5 yX5_set yX5_set, Cond.code yX5_set cX5_set 8 (some .int), Cond.constant RX5 60 (1000000), Cond.constantLong RX5 65 (16), Cond.fieldLink RX5 67 "StreamQueryModel" "lateness" "I", Cond.fieldLink RX5 70 "StreamQueryModel" "span" "I", Cond.methodLink RX5 61 yX5_in, Cond.static yX5_in, Cond.code yX5_in cX5_in 3 (some .boolean), Cond.methodLink RL 18 yX4_eventA, Cond.instanceMethod yX4_eventA, Cond.selects RX4 yX4_eventA yX4_eventA, Cond.code yX4_eventA cX4_eventA 6 (some .int), Cond.methodLink RX4 64 yX4_admit, Cond.instanceMethod yX4_admit, Cond.selects RX4 yX4_admit yX4_admit, Cond.code yX4_admit cX4_admit 5 (some .int), Cond.methodLink RX4 170 yX4_isTime, Cond.static yX4_isTime, Cond.code yX4_isTime cX4_isTime 1 (some .boolean)]
def wsL_law_r7 : List Cond := [Cond.constant RX4 168 (-1000000000), Cond.constant RX4 169 (1000000000), Cond.methodLink RX4 174 yX4_mark, Cond.instanceMethod yX4_mark, Cond.selects RX4 yX4_mark yX4_mark, Cond.code yX4_mark cX4_mark 1 (some .int), Cond.methodLink RX4 107 Lib.Math.min.name, Cond.static Lib.Math.min.name, Cond.initialized "java/lang/Math", Cond.code Lib.Math.min.name Lib.Math.min.code 2 (some .int), Cond.methodLink RX4 68 yX0_size, Cond.instanceMethod yX0_size, Cond.selects RX0 yX0_size yX0_size, Cond.code yX0_size cX0_size 1 (some .int), Cond.methodLink RX4 177 yX0_manyNear, Cond.instanceMethod yX0_manyNear, Cond.selects RX0 yX0_manyNear yX0_manyNear, Cond.code yX0_manyNear cX0_manyNear 6 (some .int), Cond.methodLink RX0 35 yX0_isNear, Cond.instanceMethod yX0_isNear, Cond.selects RX0 yX0_isNear yX0_isNear, Cond.code yX0_isNear cX0_isNear 5 (some .boolean), Cond.methodLink RX0 29 Lib.Math.abs.name, Cond.static Lib.Math.abs.name]
def wsL_law_r8 : List Cond := [Cond.code Lib.Math.abs.name Lib.Math.abs.code 1 (some .int), Cond.methodLink RX0 25 yX0_has, Cond.instanceMethod yX0_has, Cond.selects RX0 yX0_has yX0_has, Cond.code yX0_has cX0_has 2 (some .boolean), Cond.methodLink RX4 118 yX3_size, Cond.instanceMethod yX3_size, Cond.selects RX3 yX3_size yX3_size, Cond.code yX3_size cX3_size 1 (some .int), Cond.methodLink RX4 72 yX0_isNear, Cond.methodLink RX4 76 yX0_time, Cond.instanceMethod yX0_time, Cond.selects RX0 yX0_time yX0_time, Cond.code yX0_time cX0_time 2 (some .int), Cond.methodLink RX4 80 yX0_value, Cond.instanceMethod yX0_value, Cond.selects RX0 yX0_value yX0_value, Cond.code yX0_value cX0_value 2 (some .int), Cond.methodLink RX4 83 yX3_add, Cond.instanceMethod yX3_add, Cond.selects RX3 yX3_add yX3_add, Cond.code yX3_add cX3_add 8 none, Cond.methodLink RX3 26 yX3_rowOf, Cond.instanceMethod yX3_rowOf]
def wsL_law_r9 : List Cond := [Cond.selects RX3 yX3_rowOf yX3_rowOf, Cond.code yX3_rowOf cX3_rowOf 2 (some .int), Cond.methodLink RX4 87 yX0_add, Cond.instanceMethod yX0_add, Cond.selects RX0 yX0_add yX0_add, Cond.code yX0_add cX0_add 4 none, Cond.methodLink RX4 90 yX4_gather, Cond.instanceMethod yX4_gather, Cond.selects RX4 yX4_gather yX4_gather, Cond.code yX4_gather cX4_gather 7 none, Cond.methodLink RX4 181 yX2_head, Cond.instanceMethod yX2_head, Cond.selects RX2 yX2_head yX2_head, Cond.code yX2_head cX2_head 1 (some (.object "StreamQuery$Group")), Cond.methodLink RX4 185 yX4_beginningAbove, Cond.instanceMethod yX4_beginningAbove, Cond.selects RX4 yX4_beginningAbove yX4_beginningAbove, Cond.code yX4_beginningAbove cX4_beginningAbove 2 (some .int), Cond.methodLink RX4 194 yJ9_floorDiv_7cf53, Cond.static yJ9_floorDiv_7cf53, Cond.initialized RJ9, Cond.code yJ9_floorDiv_7cf53 cJ9_floorDiv_7cf53 3 (some .int), Cond.methodLink RX4 188 yX2_placeFrom, Cond.instanceMethod yX2_placeFrom]
def wsL_law_r10 : List Cond := [Cond.selects RX2 yX2_placeFrom yX2_placeFrom, Cond.code yX2_placeFrom cX2_placeFrom 6 (some (.object "StreamQuery$Group")), Cond.methodLink RX2 24 yX2_lastBefore, Cond.static yX2_lastBefore, Cond.code yX2_lastBefore cX2_lastBefore 4 (some (.object "StreamQuery$Group")), Cond.methodLink RX2 36 yX1_isBefore, Cond.instanceMethod yX1_isBefore, Cond.selects RX1 yX1_isBefore yX1_isBefore, Cond.code yX1_isBefore cX1_isBefore 3 (some .boolean), Cond.methodLink RX2 28 yX1_isOf, Cond.instanceMethod yX1_isOf, Cond.selects RX1 yX1_isOf yX1_isOf, Cond.code yX1_isOf cX1_isOf 3 (some .boolean), Cond.methodLink RX4 192 yX1_gather, Cond.instanceMethod yX1_gather, Cond.selects RX1 yX1_gather yX1_gather, Cond.code yX1_gather cX1_gather 2 none, Cond.methodLink RX1 32 Lib.Math.max.name, Cond.static Lib.Math.max.name, Cond.code Lib.Math.max.name Lib.Math.max.code 2 (some .int), Cond.methodLink RX4 93 yX4_countTaken, Cond.instanceMethod yX4_countTaken, Cond.selects RX4 yX4_countTaken yX4_countTaken, Cond.code yX4_countTaken cX4_countTaken 2 none]
def wsL_law_r11 : List Cond := [Cond.methodLink RL 22 yX5_eventA, Cond.instanceMethod yX5_eventA, Cond.selects RX5 yX5_eventA yX5_eventA, Cond.code yX5_eventA cX5_eventA 4 (some .int), Cond.methodLink RX5 95 yX5_take, Cond.instanceMethod yX5_take, Cond.selects RX5 yX5_take yX5_take, Cond.code yX5_take cX5_take 6 (some .int), Cond.methodLink RX5 83 yX5_isTime, Cond.static yX5_isTime, Cond.code yX5_isTime cX5_isTime 1 (some .boolean), Cond.constant RX5 73 (-1000000000), Cond.constant RX5 74 (1000000000), Cond.methodLink RX5 87 yX5_mark, Cond.instanceMethod yX5_mark, Cond.selects RX5 yX5_mark yX5_mark, Cond.code yX5_mark cX5_mark 1 (some .int), Cond.methodLink RX5 91 yX5_event, Cond.instanceMethod yX5_event, Cond.selects RX5 yX5_event yX5_event, Cond.code yX5_event cX5_event 12 (some .int), Cond.methodLink RX5 75 yX5_areNear, Cond.instanceMethod yX5_areNear, Cond.selects RX5 yX5_areNear yX5_areNear]
def wsL_law_r12 : List Cond := [Cond.code yX5_areNear cX5_areNear 5 (some .boolean), Cond.methodLink RX5 79 yX5_record, Cond.instanceMethod yX5_record, Cond.selects RX5 yX5_record yX5_record, Cond.code yX5_record cX5_record 8 none, Cond.methodLink RL 23 yX4_eventB, Cond.instanceMethod yX4_eventB, Cond.selects RX4 yX4_eventB yX4_eventB, Cond.code yX4_eventB cX4_eventB 6 (some .int), Cond.methodLink RL 26 yX5_eventB, Cond.instanceMethod yX5_eventB, Cond.selects RX5 yX5_eventB yX5_eventB, Cond.code yX5_eventB cX5_eventB 4 (some .int), Cond.methodLink RL 27 yX4_markA, Cond.instanceMethod yX4_markA, Cond.selects RX4 yX4_markA yX4_markA, Cond.code yX4_markA cX4_markA 4 (some .int), Cond.methodLink RX4 100 yX4_refusalOfMark, Cond.static yX4_refusalOfMark, Cond.code yX4_refusalOfMark cX4_refusalOfMark 2 (some .int), Cond.methodLink RX4 112 yX4_tellWindows, Cond.instanceMethod yX4_tellWindows, Cond.selects RX4 yX4_tellWindows yX4_tellWindows, Cond.code yX4_tellWindows cX4_tellWindows 7 (some .int)]
def wsL_law_r13 : List Cond := [Cond.methodLink RX4 197 yX2_manyUpTo, Cond.instanceMethod yX2_manyUpTo, Cond.selects RX2 yX2_manyUpTo yX2_manyUpTo, Cond.code yX2_manyUpTo cX2_manyUpTo 4 (some .int), Cond.methodLink RX4 150 yX2_windowsUpTo, Cond.instanceMethod yX2_windowsUpTo, Cond.selects RX2 yX2_windowsUpTo yX2_windowsUpTo, Cond.code yX2_windowsUpTo cX2_windowsUpTo 5 (some .int), Cond.methodLink RX4 200 yX2_takeFirst, Cond.instanceMethod yX2_takeFirst, Cond.selects RX2 yX2_takeFirst yX2_takeFirst, Cond.code yX2_takeFirst cX2_takeFirst 2 (some (.object "StreamQuery$Group")), Cond.methodLink RX4 115 yX4_dropEvents, Cond.instanceMethod yX4_dropEvents, Cond.selects RX4 yX4_dropEvents yX4_dropEvents, Cond.code yX4_dropEvents cX4_dropEvents 2 none, Cond.methodLink RX4 208 yX0_dropBelow, Cond.instanceMethod yX0_dropBelow, Cond.selects RX0 yX0_dropBelow yX0_dropBelow, Cond.code yX0_dropBelow cX0_dropBelow 4 none, Cond.methodLink RX0 39 yX0_add, Cond.methodLink RL 31 yX5_markA, Cond.instanceMethod yX5_markA, Cond.selects RX5 yX5_markA yX5_markA]
def wsL_law_r14 : List Cond := [Cond.code yX5_markA cX5_markA 2 (some .int), Cond.methodLink RX5 150 yX5_pass, Cond.instanceMethod yX5_pass, Cond.selects RX5 yX5_pass yX5_pass, Cond.code yX5_pass cX5_pass 6 (some .int), Cond.fieldLink RX5 118 "StreamQueryModel" "records" "I", Cond.methodLink RX5 142 yX5_goOver, Cond.instanceMethod yX5_goOver, Cond.selects RX5 yX5_goOver yX5_goOver, Cond.code yX5_goOver cX5_goOver 11 (some .int), Cond.constantLong RX5 121 (-4000000000), Cond.constantLong RX5 99 (4000000000), Cond.fieldLink RX5 109 "StreamQueryModel" "sum" "I", Cond.fieldLink RX5 112 "StreamQueryModel" "many" "I", Cond.fieldLink RX5 115 "StreamQueryModel" "greatest" "I", Cond.methodLink RX5 123 yX5_nextEnd, Cond.instanceMethod yX5_nextEnd, Cond.selects RX5 yX5_nextEnd yX5_nextEnd, Cond.code yX5_nextEnd cX5_nextEnd 10 (some .long), Cond.methodLink RX5 101 yX5_lastEnd, Cond.instanceMethod yX5_lastEnd, Cond.selects RX5 yX5_lastEnd yX5_lastEnd, Cond.code yX5_lastEnd cX5_lastEnd 4 (some .long), Cond.methodLink RX5 105 yX5_isIn]
def wsL_law_r15 : List Cond := [Cond.instanceMethod yX5_isIn, Cond.selects RX5 yX5_isIn yX5_isIn, Cond.code yX5_isIn cX5_isIn 4 (some .boolean), Cond.methodLink RX5 127 yX5_isOver, Cond.instanceMethod yX5_isOver, Cond.selects RX5 yX5_isOver yX5_isOver, Cond.code yX5_isOver cX5_isOver 5 (some .boolean), Cond.methodLink RX5 131 yX5_nextKey, Cond.instanceMethod yX5_nextKey, Cond.selects RX5 yX5_nextKey yX5_nextKey, Cond.code yX5_nextKey cX5_nextKey 8 (some .long), Cond.methodLink RX5 135 yX5_gather, Cond.instanceMethod yX5_gather, Cond.selects RX5 yX5_gather yX5_gather, Cond.code yX5_gather cX5_gather 5 none, Cond.methodLink RX5 146 yX5_sweep, Cond.instanceMethod yX5_sweep, Cond.selects RX5 yX5_sweep yX5_sweep, Cond.code yX5_sweep cX5_sweep 5 none, Cond.methodLink RX5 139 yX5_isKept, Cond.instanceMethod yX5_isKept, Cond.selects RX5 yX5_isKept yX5_isKept, Cond.code yX5_isKept cX5_isKept 3 (some .boolean), Cond.methodLink RL 32 yX4_markB]
def wsL_law_r16 : List Cond := [Cond.instanceMethod yX4_markB, Cond.selects RX4 yX4_markB yX4_markB, Cond.code yX4_markB cX4_markB 4 (some .int), Cond.methodLink RL 35 yX5_markB, Cond.instanceMethod yX5_markB, Cond.selects RX5 yX5_markB yX5_markB, Cond.code yX5_markB cX5_markB 2 (some .int), Cond.methodLink RL 36 yX4_mark, Cond.methodLink RL 40 yX5_mark, Cond.methodLink RL 41 yX4_available, Cond.instanceMethod yX4_available, Cond.selects RX4 yX4_available yX4_available, Cond.code yX4_available cX4_available 1 (some .int), Cond.methodLink RL 44 yX5_available, Cond.instanceMethod yX5_available, Cond.selects RX5 yX5_available yX5_available, Cond.code yX5_available cX5_available 1 (some .int), Cond.methodLink RL 45 yX4_kind, Cond.instanceMethod yX4_kind, Cond.selects RX4 yX4_kind yX4_kind, Cond.code yX4_kind cX4_kind 2 (some .int), Cond.methodLink RX4 119 yX3_cell, Cond.instanceMethod yX3_cell, Cond.selects RX3 yX3_cell yX3_cell]
def wsL_law_r17 : List Cond := [Cond.code yX3_cell cX3_cell 4 (some .int), Cond.methodLink RL 48 yX5_kind, Cond.instanceMethod yX5_kind, Cond.selects RX5 yX5_kind yX5_kind, Cond.code yX5_kind cX5_kind 2 (some .int), Cond.methodLink RL 49 yX4_field, Cond.instanceMethod yX4_field, Cond.selects RX4 yX4_field yX4_field, Cond.code yX4_field cX4_field 3 (some .int), Cond.methodLink RL 53 yX5_field, Cond.instanceMethod yX5_field, Cond.selects RX5 yX5_field yX5_field, Cond.code yX5_field cX5_field 3 (some .int), Cond.methodLink RL 54 yX4_pop, Cond.instanceMethod yX4_pop, Cond.selects RX4 yX4_pop yX4_pop, Cond.code yX4_pop cX4_pop 1 (some .boolean), Cond.methodLink RX4 122 yX3_dropFirst, Cond.instanceMethod yX3_dropFirst, Cond.selects RX3 yX3_dropFirst yX3_dropFirst, Cond.code yX3_dropFirst cX3_dropFirst 1 (some .boolean), Cond.methodLink RL 58 yX5_pop, Cond.instanceMethod yX5_pop, Cond.selects RX5 yX5_pop yX5_pop]
def wsL_law_r18 : List Cond := [Cond.code yX5_pop cX5_pop 2 (some .boolean), Cond.methodLink RL 59 yX4_look, Cond.instanceMethod yX4_look, Cond.selects RX4 yX4_look yX4_look, Cond.code yX4_look cX4_look 5 (some .int), Cond.methodLink RX4 126 yX2_find, Cond.instanceMethod yX2_find, Cond.selects RX2 yX2_find yX2_find, Cond.code yX2_find cX2_find 4 (some (.object "StreamQuery$Group")), Cond.methodLink RL 62 yX5_look, Cond.instanceMethod yX5_look, Cond.selects RX5 yX5_look yX5_look, Cond.code yX5_look cX5_look 6 (some .int), Cond.methodLink RL 63 yX4_event, Cond.instanceMethod yX4_event, Cond.selects RX4 yX4_event yX4_event, Cond.code yX4_event cX4_event 5 (some .int), Cond.methodLink RX4 141 yX0_key, Cond.instanceMethod yX0_key, Cond.selects RX0 yX0_key yX0_key, Cond.code yX0_key cX0_key 2 (some .int), Cond.methodLink RL 66 yX5_event_, Cond.instanceMethod yX5_event_, Cond.selects RX5 yX5_event_ yX5_event_]
def wsL_law_r19 : List Cond := [Cond.code yX5_event_ cX5_event_ 5 (some .int), Cond.methodLink RL 67 yX4_count, Cond.instanceMethod yX4_count, Cond.selects RX4 yX4_count yX4_count, Cond.code yX4_count cX4_count 2 (some .int), Cond.constant RX4 149 (2147483647), Cond.methodLink RL 70 yX5_count, Cond.instanceMethod yX5_count, Cond.selects RX5 yX5_count yX5_count, Cond.code yX5_count cX5_count 2 (some .int), Cond.methodLink RX5 154 yX5_windows, Cond.instanceMethod yX5_windows, Cond.selects RX5 yX5_windows yX5_windows, Cond.code yX5_windows cX5_windows 4 (some .int)]
def wsL_law : List Cond := (wsL_law_r1 ++ (wsL_law_r2 ++ (wsL_law_r3 ++ (wsL_law_r4 ++ (wsL_law_r5 ++ (wsL_law_r6 ++ (wsL_law_r7 ++ (wsL_law_r8 ++ (wsL_law_r9 ++ (wsL_law_r10 ++ (wsL_law_r11 ++ (wsL_law_r12 ++ (wsL_law_r13 ++ (wsL_law_r14 ++ (wsL_law_r15 ++ (wsL_law_r16 ++ (wsL_law_r17 ++ (wsL_law_r18 ++ wsL_law_r19)))))))))))))))))) ++ wsX40 ++ wsX50 ++ wsX00 ++ wsX20 ++ wsX30 ++ wsX10 ++ ([] : List Cond)
end
section
set_option maxRecDepth 20000 in
theorem wsL_in1 : ∀ w ∈ wsL_law_r1, w ∈ lw_tbl := by decide +kernel
set_option maxRecDepth 20000 in
theorem wsL_in2 : ∀ w ∈ wsL_law_r2, w ∈ lw_tbl := by decide +kernel
set_option maxRecDepth 20000 in
theorem wsL_in3 : ∀ w ∈ wsL_law_r3, w ∈ lw_tbl := by decide +kernel
set_option maxRecDepth 20000 in
theorem wsL_in4 : ∀ w ∈ wsL_law_r4, w ∈ lw_tbl := by decide +kernel
set_option maxRecDepth 20000 in
theorem wsL_in5 : ∀ w ∈ wsL_law_r5, w ∈ lw_tbl := by decide +kernel
set_option maxRecDepth 20000 in
theorem wsL_in6 : ∀ w ∈ wsL_law_r6, w ∈ lw_tbl := by decide +kernel
set_option maxRecDepth 20000 in
theorem wsL_in7 : ∀ w ∈ wsL_law_r7, w ∈ lw_tbl := by decide +kernel
set_option maxRecDepth 20000 in
theorem wsL_in8 : ∀ w ∈ wsL_law_r8, w ∈ lw_tbl := by decide +kernel
set_option maxRecDepth 20000 in
theorem wsL_in9 : ∀ w ∈ wsL_law_r9, w ∈ lw_tbl := by decide +kernel
set_option maxRecDepth 20000 in
theorem wsL_in10 : ∀ w ∈ wsL_law_r10, w ∈ lw_tbl := by decide +kernel
set_option maxRecDepth 20000 in
theorem wsL_in11 : ∀ w ∈ wsL_law_r11, w ∈ lw_tbl := by decide +kernel
set_option maxRecDepth 20000 in
theorem wsL_in12 : ∀ w ∈ wsL_law_r12, w ∈ lw_tbl := by decide +kernel
set_option maxRecDepth 20000 in
theorem wsL_in13 : ∀ w ∈ wsL_law_r13, w ∈ lw_tbl := by decide +kernel
set_option maxRecDepth 20000 in
theorem wsL_in14 : ∀ w ∈ wsL_law_r14, w ∈ lw_tbl := by decide +kernel
set_option maxRecDepth 20000 in
theorem wsL_in15 : ∀ w ∈ wsL_law_r15, w ∈ lw_tbl := by decide +kernel
set_option maxRecDepth 20000 in
theorem wsL_in16 : ∀ w ∈ wsL_law_r16, w ∈ lw_tbl := by decide +kernel
set_option maxRecDepth 20000 in
theorem wsL_in17 : ∀ w ∈ wsL_law_r17, w ∈ lw_tbl := by decide +kernel
set_option maxRecDepth 20000 in
theorem wsL_in18 : ∀ w ∈ wsL_law_r18, w ∈ lw_tbl := by decide +kernel
set_option maxRecDepth 20000 in
theorem wsL_in19 : ∀ w ∈ wsL_law_r19, w ∈ lw_tbl := by decide +kernel
set_option maxRecDepth 20000 in
theorem wsL_inX4 : ∀ w ∈ wsX40, w ∈ lw_tbl := by decide +kernel
set_option maxRecDepth 20000 in
theorem wsL_inX5 : ∀ w ∈ wsX50, w ∈ lw_tbl := by decide +kernel
set_option maxRecDepth 20000 in
theorem wsL_inX0 : ∀ w ∈ wsX00, w ∈ lw_tbl := by decide +kernel
set_option maxRecDepth 20000 in
theorem wsL_inX2 : ∀ w ∈ wsX20, w ∈ lw_tbl := by decide +kernel
set_option maxRecDepth 20000 in
theorem wsL_inX3 : ∀ w ∈ wsX30, w ∈ lw_tbl := by decide +kernel
set_option maxRecDepth 20000 in
theorem wsL_inX1 : ∀ w ∈ wsX10, w ∈ lw_tbl := by decide +kernel
theorem wsL_law_in : ∀ w ∈ wsL_law, w ∈ lw_tbl := List.forall_mem_append.mpr ⟨List.forall_mem_append.mpr ⟨List.forall_mem_append.mpr ⟨List.forall_mem_append.mpr ⟨List.forall_mem_append.mpr ⟨List.forall_mem_append.mpr ⟨List.forall_mem_append.mpr ⟨List.forall_mem_append.mpr ⟨wsL_in1, List.forall_mem_append.mpr ⟨wsL_in2, List.forall_mem_append.mpr ⟨wsL_in3, List.forall_mem_append.mpr ⟨wsL_in4, List.forall_mem_append.mpr ⟨wsL_in5, List.forall_mem_append.mpr ⟨wsL_in6, List.forall_mem_append.mpr ⟨wsL_in7, List.forall_mem_append.mpr ⟨wsL_in8, List.forall_mem_append.mpr ⟨wsL_in9, List.forall_mem_append.mpr ⟨wsL_in10, List.forall_mem_append.mpr ⟨wsL_in11, List.forall_mem_append.mpr ⟨wsL_in12, List.forall_mem_append.mpr ⟨wsL_in13, List.forall_mem_append.mpr ⟨wsL_in14, List.forall_mem_append.mpr ⟨wsL_in15, List.forall_mem_append.mpr ⟨wsL_in16, List.forall_mem_append.mpr ⟨wsL_in17, List.forall_mem_append.mpr ⟨wsL_in18, wsL_in19⟩⟩⟩⟩⟩⟩⟩⟩⟩⟩⟩⟩⟩⟩⟩⟩⟩⟩, wsL_inX4⟩, wsL_inX5⟩, wsL_inX0⟩, wsL_inX2⟩, wsL_inX3⟩, wsL_inX1⟩, fun _ h => absurd h List.not_mem_nil⟩
theorem inlX0 : ∀ w ∈ wsX00, w ∈ wsL_law := fun _ h => List.mem_append_left _ (List.mem_append_left _ (List.mem_append_left _ (List.mem_append_left _ (List.mem_append_right _ h))))
theorem inX0 : ∀ w ∈ wsX00, w ∈ lw_tbl := fun w h => wsL_law_in w (inlX0 w h)
theorem inlX1 : ∀ w ∈ wsX10, w ∈ wsL_law := fun _ h => List.mem_append_left _ (List.mem_append_right _ h)
theorem inX1 : ∀ w ∈ wsX10, w ∈ lw_tbl := fun w h => wsL_law_in w (inlX1 w h)
theorem inlX2 : ∀ w ∈ wsX20, w ∈ wsL_law := fun _ h => List.mem_append_left _ (List.mem_append_left _ (List.mem_append_left _ (List.mem_append_right _ h)))
theorem inX2 : ∀ w ∈ wsX20, w ∈ lw_tbl := fun w h => wsL_law_in w (inlX2 w h)
theorem inlX3 : ∀ w ∈ wsX30, w ∈ wsL_law := fun _ h => List.mem_append_left _ (List.mem_append_left _ (List.mem_append_right _ h))
theorem inX3 : ∀ w ∈ wsX30, w ∈ lw_tbl := fun w h => wsL_law_in w (inlX3 w h)
theorem inlX4 : ∀ w ∈ wsX40, w ∈ wsL_law := fun _ h => List.mem_append_left _ (List.mem_append_left _ (List.mem_append_left _ (List.mem_append_left _ (List.mem_append_left _ (List.mem_append_left _ (List.mem_append_right _ h))))))
theorem inX4 : ∀ w ∈ wsX40, w ∈ lw_tbl := fun w h => wsL_law_in w (inlX4 w h)
theorem inlX5 : ∀ w ∈ wsX50, w ∈ wsL_law := fun _ h => List.mem_append_left _ (List.mem_append_left _ (List.mem_append_left _ (List.mem_append_left _ (List.mem_append_left _ (List.mem_append_right _ h)))))
theorem inX5 : ∀ w ∈ wsX50, w ∈ lw_tbl := fun w h => wsL_law_in w (inlX5 w h)
theorem inJ9 : ∀ w ∈ wsJ90, w ∈ lw_tbl := by decide +kernel
end
section
theorem dX0_init_0 : decode cX0_init 0 = .ok (.aload_n 0, 1) := by decide +kernel
theorem dX0_init_1 : decode cX0_init 1 = .ok (.invokespecial 3, 3) := by decide +kernel
theorem dX0_init_4 : decode cX0_init 4 = .ok (.aload_n 0, 1) := by decide +kernel
theorem dX0_init_5 : decode cX0_init 5 = .ok (.sipush 200, 3) := by decide +kernel
theorem dX0_init_8 : decode cX0_init 8 = .ok (.newarray .int, 2) := by decide +kernel
theorem dX0_init_10 : decode cX0_init 10 = .ok (.putfield 9, 3) := by decide +kernel
theorem dX0_init_13 : decode cX0_init 13 = .ok (.aload_n 0, 1) := by decide +kernel
theorem dX0_init_14 : decode cX0_init 14 = .ok (.sipush 200, 3) := by decide +kernel
theorem dX0_init_17 : decode cX0_init 17 = .ok (.newarray .int, 2) := by decide +kernel
theorem dX0_init_19 : decode cX0_init 19 = .ok (.putfield 15, 3) := by decide +kernel
theorem dX0_init_22 : decode cX0_init 22 = .ok (.aload_n 0, 1) := by decide +kernel
theorem dX0_init_23 : decode cX0_init 23 = .ok (.sipush 200, 3) := by decide +kernel
theorem dX0_init_26 : decode cX0_init 26 = .ok (.newarray .int, 2) := by decide +kernel
theorem dX0_init_28 : decode cX0_init 28 = .ok (.putfield 18, 3) := by decide +kernel
theorem dX0_init_31 : decode cX0_init 31 = .ok (.aload_n 0, 1) := by decide +kernel
theorem dX0_init_32 : decode cX0_init 32 = .ok (.iconst 0, 1) := by decide +kernel
theorem dX0_init_33 : decode cX0_init 33 = .ok (.putfield 21, 3) := by decide +kernel
theorem dX0_init_36 : decode cX0_init 36 = .ok (.return_, 1) := by decide +kernel
theorem dX0_clear_0 : decode cX0_clear 0 = .ok (.aload_n 0, 1) := by decide +kernel
theorem dX0_clear_1 : decode cX0_clear 1 = .ok (.iconst 0, 1) := by decide +kernel
theorem dX0_clear_2 : decode cX0_clear 2 = .ok (.putfield 21, 3) := by decide +kernel
theorem dX0_clear_5 : decode cX0_clear 5 = .ok (.return_, 1) := by decide +kernel
theorem dX0_size_0 : decode cX0_size 0 = .ok (.aload_n 0, 1) := by decide +kernel
theorem dX0_size_1 : decode cX0_size 1 = .ok (.getfield 21, 3) := by decide +kernel
theorem dX0_size_4 : decode cX0_size 4 = .ok (.ireturn, 1) := by decide +kernel
set_option maxRecDepth 20000 in
theorem ggX0_time_X0_has : GoodIn wsX0_time wsX0_has := goodIn_r _ [6, 7, 8, 9, 10, 11] (by decide +kernel) (by decide +kernel)
set_option maxRecDepth 20000 in
theorem gX0_time_X0_has : GoodIn wsX0_time (wsV RX0 25 RX0 yX0_has wsX0_has) := goodIn_app (goodIn_of _ (by decide +kernel)) ggX0_time_X0_has
theorem dX0_time_0 : decode cX0_time 0 = .ok (.aload_n 0, 1) := by decide +kernel
theorem dX0_time_1 : decode cX0_time 1 = .ok (.iload_n 1, 1) := by decide +kernel
theorem dX0_time_2 : decode cX0_time 2 = .ok (.invokevirtual 25, 3) := by decide +kernel
theorem dX0_time_5 : decode cX0_time 5 = .ok (.ifCond .eq 12, 3) := by decide +kernel
theorem dX0_time_8 : decode cX0_time 8 = .ok (.aload_n 0, 1) := by decide +kernel
theorem dX0_time_9 : decode cX0_time 9 = .ok (.getfield 9, 3) := by decide +kernel
theorem dX0_time_12 : decode cX0_time 12 = .ok (.iload_n 1, 1) := by decide +kernel
theorem dX0_time_13 : decode cX0_time 13 = .ok (.iaload, 1) := by decide +kernel
theorem dX0_time_14 : decode cX0_time 14 = .ok (.goto 4, 3) := by decide +kernel
theorem dX0_time_17 : decode cX0_time 17 = .ok (.iconst 0, 1) := by decide +kernel
theorem dX0_time_18 : decode cX0_time 18 = .ok (.ireturn, 1) := by decide +kernel
set_option maxRecDepth 20000 in
theorem ggX0_key_X0_has : GoodIn wsX0_key wsX0_has := goodIn_r _ [6, 7, 8, 9, 10, 11] (by decide +kernel) (by decide +kernel)
set_option maxRecDepth 20000 in
theorem gX0_key_X0_has : GoodIn wsX0_key (wsV RX0 25 RX0 yX0_has wsX0_has) := goodIn_app (goodIn_of _ (by decide +kernel)) ggX0_key_X0_has
theorem dX0_key_0 : decode cX0_key 0 = .ok (.aload_n 0, 1) := by decide +kernel
theorem dX0_key_1 : decode cX0_key 1 = .ok (.iload_n 1, 1) := by decide +kernel
theorem dX0_key_2 : decode cX0_key 2 = .ok (.invokevirtual 25, 3) := by decide +kernel
theorem dX0_key_5 : decode cX0_key 5 = .ok (.ifCond .eq 12, 3) := by decide +kernel
theorem dX0_key_8 : decode cX0_key 8 = .ok (.aload_n 0, 1) := by decide +kernel
theorem dX0_key_9 : decode cX0_key 9 = .ok (.getfield 15, 3) := by decide +kernel
theorem dX0_key_12 : decode cX0_key 12 = .ok (.iload_n 1, 1) := by decide +kernel
theorem dX0_key_13 : decode cX0_key 13 = .ok (.iaload, 1) := by decide +kernel
theorem dX0_key_14 : decode cX0_key 14 = .ok (.goto 4, 3) := by decide +kernel
theorem dX0_key_17 : decode cX0_key 17 = .ok (.iconst 0, 1) := by decide +kernel
theorem dX0_key_18 : decode cX0_key 18 = .ok (.ireturn, 1) := by decide +kernel
set_option maxRecDepth 20000 in
theorem ggX0_value_X0_has : GoodIn wsX0_value wsX0_has := goodIn_r _ [6, 7, 8, 9, 10, 11] (by decide +kernel) (by decide +kernel)
set_option maxRecDepth 20000 in
theorem gX0_value_X0_has : GoodIn wsX0_value (wsV RX0 25 RX0 yX0_has wsX0_has) := goodIn_app (goodIn_of _ (by decide +kernel)) ggX0_value_X0_has
theorem dX0_value_0 : decode cX0_value 0 = .ok (.aload_n 0, 1) := by decide +kernel
theorem dX0_value_1 : decode cX0_value 1 = .ok (.iload_n 1, 1) := by decide +kernel
theorem dX0_value_2 : decode cX0_value 2 = .ok (.invokevirtual 25, 3) := by decide +kernel
theorem dX0_value_5 : decode cX0_value 5 = .ok (.ifCond .eq 12, 3) := by decide +kernel
theorem dX0_value_8 : decode cX0_value 8 = .ok (.aload_n 0, 1) := by decide +kernel
theorem dX0_value_9 : decode cX0_value 9 = .ok (.getfield 18, 3) := by decide +kernel
theorem dX0_value_12 : decode cX0_value 12 = .ok (.iload_n 1, 1) := by decide +kernel
theorem dX0_value_13 : decode cX0_value 13 = .ok (.iaload, 1) := by decide +kernel
theorem dX0_value_14 : decode cX0_value 14 = .ok (.goto 4, 3) := by decide +kernel
theorem dX0_value_17 : decode cX0_value 17 = .ok (.iconst 0, 1) := by decide +kernel
theorem dX0_value_18 : decode cX0_value 18 = .ok (.ireturn, 1) := by decide +kernel
theorem dX0_add_0 : decode cX0_add 0 = .ok (.aload_n 0, 1) := by decide +kernel
theorem dX0_add_1 : decode cX0_add 1 = .ok (.getfield 21, 3) := by decide +kernel
theorem dX0_add_4 : decode cX0_add 4 = .ok (.sipush 200, 3) := by decide +kernel
theorem dX0_add_7 : decode cX0_add 7 = .ok (.if_icmp .lt 4, 3) := by decide +kernel
theorem dX0_add_10 : decode cX0_add 10 = .ok (.return_, 1) := by decide +kernel
theorem dX0_add_11 : decode cX0_add 11 = .ok (.aload_n 0, 1) := by decide +kernel
theorem dX0_add_12 : decode cX0_add 12 = .ok (.getfield 9, 3) := by decide +kernel
theorem dX0_add_15 : decode cX0_add 15 = .ok (.aload_n 0, 1) := by decide +kernel
theorem dX0_add_16 : decode cX0_add 16 = .ok (.getfield 21, 3) := by decide +kernel
theorem dX0_add_19 : decode cX0_add 19 = .ok (.iload_n 1, 1) := by decide +kernel
theorem dX0_add_20 : decode cX0_add 20 = .ok (.iastore, 1) := by decide +kernel
theorem dX0_add_21 : decode cX0_add 21 = .ok (.aload_n 0, 1) := by decide +kernel
theorem dX0_add_22 : decode cX0_add 22 = .ok (.getfield 15, 3) := by decide +kernel
theorem dX0_add_25 : decode cX0_add 25 = .ok (.aload_n 0, 1) := by decide +kernel
theorem dX0_add_26 : decode cX0_add 26 = .ok (.getfield 21, 3) := by decide +kernel
theorem dX0_add_29 : decode cX0_add 29 = .ok (.iload_n 2, 1) := by decide +kernel
theorem dX0_add_30 : decode cX0_add 30 = .ok (.iastore, 1) := by decide +kernel
theorem dX0_add_31 : decode cX0_add 31 = .ok (.aload_n 0, 1) := by decide +kernel
theorem dX0_add_32 : decode cX0_add 32 = .ok (.getfield 18, 3) := by decide +kernel
theorem dX0_add_35 : decode cX0_add 35 = .ok (.aload_n 0, 1) := by decide +kernel
theorem dX0_add_36 : decode cX0_add 36 = .ok (.getfield 21, 3) := by decide +kernel
theorem dX0_add_39 : decode cX0_add 39 = .ok (.iload_n 3, 1) := by decide +kernel
theorem dX0_add_40 : decode cX0_add 40 = .ok (.iastore, 1) := by decide +kernel
theorem dX0_add_41 : decode cX0_add 41 = .ok (.aload_n 0, 1) := by decide +kernel
theorem dX0_add_42 : decode cX0_add 42 = .ok (.dup, 1) := by decide +kernel
theorem dX0_add_43 : decode cX0_add 43 = .ok (.getfield 21, 3) := by decide +kernel
theorem dX0_add_46 : decode cX0_add 46 = .ok (.iconst 1, 1) := by decide +kernel
theorem dX0_add_47 : decode cX0_add 47 = .ok (.iadd, 1) := by decide +kernel
theorem dX0_add_48 : decode cX0_add 48 = .ok (.putfield 21, 3) := by decide +kernel
theorem dX0_add_51 : decode cX0_add 51 = .ok (.return_, 1) := by decide +kernel
set_option maxRecDepth 20000 in
theorem ggX0_isNear_X0_has : GoodIn wsX0_isNear wsX0_has := goodIn_r _ [11, 12, 13, 14, 15, 16] (by decide +kernel) (by decide +kernel)
set_option maxRecDepth 20000 in
theorem gX0_isNear_X0_has : GoodIn wsX0_isNear (wsV RX0 25 RX0 yX0_has wsX0_has) := goodIn_app (goodIn_of _ (by decide +kernel)) ggX0_isNear_X0_has
theorem dX0_isNear_0 : decode cX0_isNear 0 = .ok (.aload_n 0, 1) := by decide +kernel
theorem dX0_isNear_1 : decode cX0_isNear 1 = .ok (.iload_n 1, 1) := by decide +kernel
theorem dX0_isNear_2 : decode cX0_isNear 2 = .ok (.invokevirtual 25, 3) := by decide +kernel
theorem dX0_isNear_5 : decode cX0_isNear 5 = .ok (.ifCond .eq 33, 3) := by decide +kernel
theorem dX0_isNear_8 : decode cX0_isNear 8 = .ok (.aload_n 0, 1) := by decide +kernel
theorem dX0_isNear_9 : decode cX0_isNear 9 = .ok (.getfield 15, 3) := by decide +kernel
theorem dX0_isNear_12 : decode cX0_isNear 12 = .ok (.iload_n 1, 1) := by decide +kernel
theorem dX0_isNear_13 : decode cX0_isNear 13 = .ok (.iaload, 1) := by decide +kernel
theorem dX0_isNear_14 : decode cX0_isNear 14 = .ok (.iload_n 3, 1) := by decide +kernel
theorem dX0_isNear_15 : decode cX0_isNear 15 = .ok (.if_icmp .ne 23, 3) := by decide +kernel
theorem dX0_isNear_18 : decode cX0_isNear 18 = .ok (.aload_n 0, 1) := by decide +kernel
theorem dX0_isNear_19 : decode cX0_isNear 19 = .ok (.getfield 9, 3) := by decide +kernel
theorem dX0_isNear_22 : decode cX0_isNear 22 = .ok (.iload_n 1, 1) := by decide +kernel
theorem dX0_isNear_23 : decode cX0_isNear 23 = .ok (.iaload, 1) := by decide +kernel
theorem dX0_isNear_24 : decode cX0_isNear 24 = .ok (.iload_n 2, 1) := by decide +kernel
theorem dX0_isNear_25 : decode cX0_isNear 25 = .ok (.isub, 1) := by decide +kernel
theorem dX0_isNear_26 : decode cX0_isNear 26 = .ok (.invokestatic 29, 3) := by decide +kernel
theorem dX0_isNear_29 : decode cX0_isNear 29 = .ok (.iload 4, 2) := by decide +kernel
theorem dX0_isNear_31 : decode cX0_isNear 31 = .ok (.if_icmp .gt 7, 3) := by decide +kernel
theorem dX0_isNear_34 : decode cX0_isNear 34 = .ok (.iconst 1, 1) := by decide +kernel
theorem dX0_isNear_35 : decode cX0_isNear 35 = .ok (.goto 4, 3) := by decide +kernel
theorem dX0_isNear_38 : decode cX0_isNear 38 = .ok (.iconst 0, 1) := by decide +kernel
theorem dX0_isNear_39 : decode cX0_isNear 39 = .ok (.ireturn, 1) := by decide +kernel
set_option maxRecDepth 20000 in
theorem ggX0_manyNear_X0_isNear : GoodIn wsX0_manyNear wsX0_isNear := goodIn_r _ [6, 7, 8, 9, 10, 11, 12, 13, 14, 15, 5, 16, 1, 17, 18, 19, 20] (by decide +kernel) (by decide +kernel)
set_option maxRecDepth 20000 in
theorem gX0_manyNear_X0_isNear : GoodIn wsX0_manyNear (wsV RX0 35 RX0 yX0_isNear wsX0_isNear) := goodIn_app (goodIn_of _ (by decide +kernel)) ggX0_manyNear_X0_isNear
theorem dX0_manyNear_0 : decode cX0_manyNear 0 = .ok (.iconst 0, 1) := by decide +kernel
theorem dX0_manyNear_1 : decode cX0_manyNear 1 = .ok (.istore 4, 2) := by decide +kernel
theorem dX0_manyNear_3 : decode cX0_manyNear 3 = .ok (.iconst 0, 1) := by decide +kernel
theorem dX0_manyNear_4 : decode cX0_manyNear 4 = .ok (.istore 5, 2) := by decide +kernel
theorem dX0_manyNear_6 : decode cX0_manyNear 6 = .ok (.iload 5, 2) := by decide +kernel
theorem dX0_manyNear_8 : decode cX0_manyNear 8 = .ok (.aload_n 0, 1) := by decide +kernel
theorem dX0_manyNear_9 : decode cX0_manyNear 9 = .ok (.getfield 21, 3) := by decide +kernel
theorem dX0_manyNear_12 : decode cX0_manyNear 12 = .ok (.if_icmp .ge 24, 3) := by decide +kernel
theorem dX0_manyNear_15 : decode cX0_manyNear 15 = .ok (.aload_n 0, 1) := by decide +kernel
theorem dX0_manyNear_16 : decode cX0_manyNear 16 = .ok (.iload 5, 2) := by decide +kernel
theorem dX0_manyNear_18 : decode cX0_manyNear 18 = .ok (.iload_n 1, 1) := by decide +kernel
theorem dX0_manyNear_19 : decode cX0_manyNear 19 = .ok (.iload_n 2, 1) := by decide +kernel
theorem dX0_manyNear_20 : decode cX0_manyNear 20 = .ok (.iload_n 3, 1) := by decide +kernel
theorem dX0_manyNear_21 : decode cX0_manyNear 21 = .ok (.invokevirtual 35, 3) := by decide +kernel
theorem dX0_manyNear_24 : decode cX0_manyNear 24 = .ok (.ifCond .eq 6, 3) := by decide +kernel
theorem dX0_manyNear_27 : decode cX0_manyNear 27 = .ok (.iinc 4 1, 3) := by decide +kernel
theorem dX0_manyNear_30 : decode cX0_manyNear 30 = .ok (.iinc 5 1, 3) := by decide +kernel
theorem dX0_manyNear_33 : decode cX0_manyNear 33 = .ok (.goto (-27), 3) := by decide +kernel
theorem dX0_manyNear_36 : decode cX0_manyNear 36 = .ok (.iload 4, 2) := by decide +kernel
theorem dX0_manyNear_38 : decode cX0_manyNear 38 = .ok (.ireturn, 1) := by decide +kernel
set_option maxRecDepth 20000 in
theorem ggX0_dropBelow_X0_add : GoodIn wsX0_dropBelow wsX0_add := goodIn_r _ [9, 1, 2, 3, 4, 10, 11, 12, 13] (by decide +kernel) (by decide +kernel)
set_option maxRecDepth 20000 in
theorem gX0_dropBelow_X0_add : GoodIn wsX0_dropBelow (wsV RX0 39 RX0 yX0_add wsX0_add) := goodIn_app (goodIn_of _ (by decide +kernel)) ggX0_dropBelow_X0_add
theorem dX0_dropBelow_0 : decode cX0_dropBelow 0 = .ok (.aload_n 0, 1) := by decide +kernel
theorem dX0_dropBelow_1 : decode cX0_dropBelow 1 = .ok (.getfield 21, 3) := by decide +kernel
theorem dX0_dropBelow_4 : decode cX0_dropBelow 4 = .ok (.istore_n 2, 1) := by decide +kernel
theorem dX0_dropBelow_5 : decode cX0_dropBelow 5 = .ok (.aload_n 0, 1) := by decide +kernel
theorem dX0_dropBelow_6 : decode cX0_dropBelow 6 = .ok (.iconst 0, 1) := by decide +kernel
theorem dX0_dropBelow_7 : decode cX0_dropBelow 7 = .ok (.putfield 21, 3) := by decide +kernel
theorem dX0_dropBelow_10 : decode cX0_dropBelow 10 = .ok (.iconst 0, 1) := by decide +kernel
theorem dX0_dropBelow_11 : decode cX0_dropBelow 11 = .ok (.istore_n 3, 1) := by decide +kernel
theorem dX0_dropBelow_12 : decode cX0_dropBelow 12 = .ok (.iload_n 3, 1) := by decide +kernel
theorem dX0_dropBelow_13 : decode cX0_dropBelow 13 = .ok (.iload_n 2, 1) := by decide +kernel
theorem dX0_dropBelow_14 : decode cX0_dropBelow 14 = .ok (.if_icmp .ge 41, 3) := by decide +kernel
theorem dX0_dropBelow_17 : decode cX0_dropBelow 17 = .ok (.aload_n 0, 1) := by decide +kernel
theorem dX0_dropBelow_18 : decode cX0_dropBelow 18 = .ok (.getfield 9, 3) := by decide +kernel
theorem dX0_dropBelow_21 : decode cX0_dropBelow 21 = .ok (.iload_n 3, 1) := by decide +kernel
theorem dX0_dropBelow_22 : decode cX0_dropBelow 22 = .ok (.iaload, 1) := by decide +kernel
theorem dX0_dropBelow_23 : decode cX0_dropBelow 23 = .ok (.iload_n 1, 1) := by decide +kernel
theorem dX0_dropBelow_24 : decode cX0_dropBelow 24 = .ok (.if_icmp .lt 25, 3) := by decide +kernel
theorem dX0_dropBelow_27 : decode cX0_dropBelow 27 = .ok (.aload_n 0, 1) := by decide +kernel
theorem dX0_dropBelow_28 : decode cX0_dropBelow 28 = .ok (.aload_n 0, 1) := by decide +kernel
theorem dX0_dropBelow_29 : decode cX0_dropBelow 29 = .ok (.getfield 9, 3) := by decide +kernel
theorem dX0_dropBelow_32 : decode cX0_dropBelow 32 = .ok (.iload_n 3, 1) := by decide +kernel
theorem dX0_dropBelow_33 : decode cX0_dropBelow 33 = .ok (.iaload, 1) := by decide +kernel
theorem dX0_dropBelow_34 : decode cX0_dropBelow 34 = .ok (.aload_n 0, 1) := by decide +kernel
theorem dX0_dropBelow_35 : decode cX0_dropBelow 35 = .ok (.getfield 15, 3) := by decide +kernel
theorem dX0_dropBelow_38 : decode cX0_dropBelow 38 = .ok (.iload_n 3, 1) := by decide +kernel
theorem dX0_dropBelow_39 : decode cX0_dropBelow 39 = .ok (.iaload, 1) := by decide +kernel
theorem dX0_dropBelow_40 : decode cX0_dropBelow 40 = .ok (.aload_n 0, 1) := by decide +kernel
theorem dX0_dropBelow_41 : decode cX0_dropBelow 41 = .ok (.getfield 18, 3) := by decide +kernel
theorem dX0_dropBelow_44 : decode cX0_dropBelow 44 = .ok (.iload_n 3, 1) := by decide +kernel
theorem dX0_dropBelow_45 : decode cX0_dropBelow 45 = .ok (.iaload, 1) := by decide +kernel
theorem dX0_dropBelow_46 : decode cX0_dropBelow 46 = .ok (.invokevirtual 39, 3) := by decide +kernel
theorem dX0_dropBelow_49 : decode cX0_dropBelow 49 = .ok (.iinc 3 1, 3) := by decide +kernel
theorem dX0_dropBelow_52 : decode cX0_dropBelow 52 = .ok (.goto (-40), 3) := by decide +kernel
theorem dX0_dropBelow_55 : decode cX0_dropBelow 55 = .ok (.return_, 1) := by decide +kernel
theorem dX0_has_0 : decode cX0_has 0 = .ok (.iconst 0, 1) := by decide +kernel
theorem dX0_has_1 : decode cX0_has 1 = .ok (.iload_n 1, 1) := by decide +kernel
theorem dX0_has_2 : decode cX0_has 2 = .ok (.if_icmp .gt 15, 3) := by decide +kernel
theorem dX0_has_5 : decode cX0_has 5 = .ok (.iload_n 1, 1) := by decide +kernel
theorem dX0_has_6 : decode cX0_has 6 = .ok (.aload_n 0, 1) := by decide +kernel
theorem dX0_has_7 : decode cX0_has 7 = .ok (.getfield 21, 3) := by decide +kernel
theorem dX0_has_10 : decode cX0_has 10 = .ok (.if_icmp .ge 7, 3) := by decide +kernel
theorem dX0_has_13 : decode cX0_has 13 = .ok (.iconst 1, 1) := by decide +kernel
theorem dX0_has_14 : decode cX0_has 14 = .ok (.goto 4, 3) := by decide +kernel
theorem dX0_has_17 : decode cX0_has 17 = .ok (.iconst 0, 1) := by decide +kernel
theorem dX0_has_18 : decode cX0_has 18 = .ok (.ireturn, 1) := by decide +kernel
theorem dX1_init_0 : decode cX1_init 0 = .ok (.aload_n 0, 1) := by decide +kernel
theorem dX1_init_1 : decode cX1_init 1 = .ok (.invokespecial 1, 3) := by decide +kernel
theorem dX1_init_4 : decode cX1_init 4 = .ok (.aload_n 0, 1) := by decide +kernel
theorem dX1_init_5 : decode cX1_init 5 = .ok (.iconst 0, 1) := by decide +kernel
theorem dX1_init_6 : decode cX1_init 6 = .ok (.putfield 7, 3) := by decide +kernel
theorem dX1_init_9 : decode cX1_init 9 = .ok (.aload_n 0, 1) := by decide +kernel
theorem dX1_init_10 : decode cX1_init 10 = .ok (.iconst 0, 1) := by decide +kernel
theorem dX1_init_11 : decode cX1_init 11 = .ok (.putfield 13, 3) := by decide +kernel
theorem dX1_init_14 : decode cX1_init 14 = .ok (.aload_n 0, 1) := by decide +kernel
theorem dX1_init_15 : decode cX1_init 15 = .ok (.ldc 18, 2) := by decide +kernel
theorem dX1_init_17 : decode cX1_init 17 = .ok (.putfield 19, 3) := by decide +kernel
theorem dX1_init_20 : decode cX1_init 20 = .ok (.aload_n 0, 1) := by decide +kernel
theorem dX1_init_21 : decode cX1_init 21 = .ok (.iload_n 1, 1) := by decide +kernel
theorem dX1_init_22 : decode cX1_init 22 = .ok (.putfield 22, 3) := by decide +kernel
theorem dX1_init_25 : decode cX1_init 25 = .ok (.aload_n 0, 1) := by decide +kernel
theorem dX1_init_26 : decode cX1_init 26 = .ok (.iload_n 2, 1) := by decide +kernel
theorem dX1_init_27 : decode cX1_init 27 = .ok (.putfield 25, 3) := by decide +kernel
theorem dX1_init_30 : decode cX1_init 30 = .ok (.aload_n 0, 1) := by decide +kernel
theorem dX1_init_31 : decode cX1_init 31 = .ok (.aload_n 3, 1) := by decide +kernel
theorem dX1_init_32 : decode cX1_init 32 = .ok (.putfield 28, 3) := by decide +kernel
theorem dX1_init_35 : decode cX1_init 35 = .ok (.return_, 1) := by decide +kernel
theorem dX1_gather_0 : decode cX1_gather 0 = .ok (.aload_n 0, 1) := by decide +kernel
theorem dX1_gather_1 : decode cX1_gather 1 = .ok (.dup, 1) := by decide +kernel
theorem dX1_gather_2 : decode cX1_gather 2 = .ok (.getfield 7, 3) := by decide +kernel
theorem dX1_gather_5 : decode cX1_gather 5 = .ok (.iload_n 1, 1) := by decide +kernel
theorem dX1_gather_6 : decode cX1_gather 6 = .ok (.iadd, 1) := by decide +kernel
theorem dX1_gather_7 : decode cX1_gather 7 = .ok (.putfield 7, 3) := by decide +kernel
theorem dX1_gather_10 : decode cX1_gather 10 = .ok (.aload_n 0, 1) := by decide +kernel
theorem dX1_gather_11 : decode cX1_gather 11 = .ok (.dup, 1) := by decide +kernel
theorem dX1_gather_12 : decode cX1_gather 12 = .ok (.getfield 13, 3) := by decide +kernel
theorem dX1_gather_15 : decode cX1_gather 15 = .ok (.iconst 1, 1) := by decide +kernel
theorem dX1_gather_16 : decode cX1_gather 16 = .ok (.iadd, 1) := by decide +kernel
theorem dX1_gather_17 : decode cX1_gather 17 = .ok (.putfield 13, 3) := by decide +kernel
theorem dX1_gather_20 : decode cX1_gather 20 = .ok (.aload_n 0, 1) := by decide +kernel
theorem dX1_gather_21 : decode cX1_gather 21 = .ok (.aload_n 0, 1) := by decide +kernel
theorem dX1_gather_22 : decode cX1_gather 22 = .ok (.getfield 19, 3) := by decide +kernel
theorem dX1_gather_25 : decode cX1_gather 25 = .ok (.iload_n 1, 1) := by decide +kernel
theorem dX1_gather_26 : decode cX1_gather 26 = .ok (.invokestatic 32, 3) := by decide +kernel
theorem dX1_gather_29 : decode cX1_gather 29 = .ok (.putfield 19, 3) := by decide +kernel
theorem dX1_gather_32 : decode cX1_gather 32 = .ok (.return_, 1) := by decide +kernel
theorem dX1_isBefore_0 : decode cX1_isBefore 0 = .ok (.aload_n 0, 1) := by decide +kernel
theorem dX1_isBefore_1 : decode cX1_isBefore 1 = .ok (.getfield 22, 3) := by decide +kernel
theorem dX1_isBefore_4 : decode cX1_isBefore 4 = .ok (.iload_n 1, 1) := by decide +kernel
theorem dX1_isBefore_5 : decode cX1_isBefore 5 = .ok (.if_icmp .lt 19, 3) := by decide +kernel
theorem dX1_isBefore_8 : decode cX1_isBefore 8 = .ok (.aload_n 0, 1) := by decide +kernel
theorem dX1_isBefore_9 : decode cX1_isBefore 9 = .ok (.getfield 22, 3) := by decide +kernel
theorem dX1_isBefore_12 : decode cX1_isBefore 12 = .ok (.iload_n 1, 1) := by decide +kernel
theorem dX1_isBefore_13 : decode cX1_isBefore 13 = .ok (.if_icmp .ne 15, 3) := by decide +kernel
theorem dX1_isBefore_16 : decode cX1_isBefore 16 = .ok (.aload_n 0, 1) := by decide +kernel
theorem dX1_isBefore_17 : decode cX1_isBefore 17 = .ok (.getfield 25, 3) := by decide +kernel
theorem dX1_isBefore_20 : decode cX1_isBefore 20 = .ok (.iload_n 2, 1) := by decide +kernel
theorem dX1_isBefore_21 : decode cX1_isBefore 21 = .ok (.if_icmp .ge 7, 3) := by decide +kernel
theorem dX1_isBefore_24 : decode cX1_isBefore 24 = .ok (.iconst 1, 1) := by decide +kernel
theorem dX1_isBefore_25 : decode cX1_isBefore 25 = .ok (.goto 4, 3) := by decide +kernel
theorem dX1_isBefore_28 : decode cX1_isBefore 28 = .ok (.iconst 0, 1) := by decide +kernel
theorem dX1_isBefore_29 : decode cX1_isBefore 29 = .ok (.ireturn, 1) := by decide +kernel
theorem dX1_isOf_0 : decode cX1_isOf 0 = .ok (.aload_n 0, 1) := by decide +kernel
theorem dX1_isOf_1 : decode cX1_isOf 1 = .ok (.getfield 22, 3) := by decide +kernel
theorem dX1_isOf_4 : decode cX1_isOf 4 = .ok (.iload_n 1, 1) := by decide +kernel
theorem dX1_isOf_5 : decode cX1_isOf 5 = .ok (.if_icmp .ne 15, 3) := by decide +kernel
theorem dX1_isOf_8 : decode cX1_isOf 8 = .ok (.aload_n 0, 1) := by decide +kernel
theorem dX1_isOf_9 : decode cX1_isOf 9 = .ok (.getfield 25, 3) := by decide +kernel
theorem dX1_isOf_12 : decode cX1_isOf 12 = .ok (.iload_n 2, 1) := by decide +kernel
theorem dX1_isOf_13 : decode cX1_isOf 13 = .ok (.if_icmp .ne 7, 3) := by decide +kernel
theorem dX1_isOf_16 : decode cX1_isOf 16 = .ok (.iconst 1, 1) := by decide +kernel
theorem dX1_isOf_17 : decode cX1_isOf 17 = .ok (.goto 4, 3) := by decide +kernel
theorem dX1_isOf_20 : decode cX1_isOf 20 = .ok (.iconst 0, 1) := by decide +kernel
theorem dX1_isOf_21 : decode cX1_isOf 21 = .ok (.ireturn, 1) := by decide +kernel
set_option maxRecDepth 20000 in
theorem ggX2_init_X1_init : GoodIn wsX2_init wsX1_init := goodIn_r _ [11, 12, 2, 3, 13, 14, 15, 16, 17, 18, 19, 20, 21, 22, 23, 24, 25] (by decide +kernel) (by decide +kernel)
set_option maxRecDepth 20000 in
theorem gX2_init_X1_init : GoodIn wsX2_init (wsX1_init) := ggX2_init_X1_init
theorem dX2_init_0 : decode cX2_init 0 = .ok (.aload_n 0, 1) := by decide +kernel
theorem dX2_init_1 : decode cX2_init 1 = .ok (.invokespecial 1, 3) := by decide +kernel
theorem dX2_init_4 : decode cX2_init 4 = .ok (.aload_n 0, 1) := by decide +kernel
theorem dX2_init_5 : decode cX2_init 5 = .ok (.new 7, 3) := by decide +kernel
theorem dX2_init_8 : decode cX2_init 8 = .ok (.dup, 1) := by decide +kernel
theorem dX2_init_9 : decode cX2_init 9 = .ok (.ldc 11, 2) := by decide +kernel
theorem dX2_init_11 : decode cX2_init 11 = .ok (.ldc 11, 2) := by decide +kernel
theorem dX2_init_13 : decode cX2_init 13 = .ok (.aconst_null, 1) := by decide +kernel
theorem dX2_init_14 : decode cX2_init 14 = .ok (.invokespecial 12, 3) := by decide +kernel
theorem dX2_init_17 : decode cX2_init 17 = .ok (.putfield 15, 3) := by decide +kernel
theorem dX2_init_20 : decode cX2_init 20 = .ok (.return_, 1) := by decide +kernel
theorem dX2_clear_0 : decode cX2_clear 0 = .ok (.aload_n 0, 1) := by decide +kernel
theorem dX2_clear_1 : decode cX2_clear 1 = .ok (.getfield 15, 3) := by decide +kernel
theorem dX2_clear_4 : decode cX2_clear 4 = .ok (.aconst_null, 1) := by decide +kernel
theorem dX2_clear_5 : decode cX2_clear 5 = .ok (.putfield 21, 3) := by decide +kernel
theorem dX2_clear_8 : decode cX2_clear 8 = .ok (.return_, 1) := by decide +kernel
theorem dX2_head_0 : decode cX2_head 0 = .ok (.aload_n 0, 1) := by decide +kernel
theorem dX2_head_1 : decode cX2_head 1 = .ok (.getfield 15, 3) := by decide +kernel
theorem dX2_head_4 : decode cX2_head 4 = .ok (.areturn, 1) := by decide +kernel
set_option maxRecDepth 20000 in
theorem ggX2_find_X2_lastBefore : GoodIn wsX2_find wsX2_lastBefore := goodIn_r _ [5, 6, 7, 8, 9, 10, 11, 12, 18, 19, 20, 21, 22, 23] (by decide +kernel) (by decide +kernel)
set_option maxRecDepth 20000 in
theorem gX2_find_X2_lastBefore : GoodIn wsX2_find (va_wsS RX2 24 yX2_lastBefore wsX2_lastBefore) := goodIn_app (goodIn_of _ (by decide +kernel)) ggX2_find_X2_lastBefore
set_option maxRecDepth 20000 in
theorem ggX2_find_X1_isOf : GoodIn wsX2_find wsX1_isOf := goodIn_r _ [16, 11, 12, 18, 19, 20, 21, 22, 23] (by decide +kernel) (by decide +kernel)
set_option maxRecDepth 20000 in
theorem gX2_find_X1_isOf : GoodIn wsX2_find (wsV RX2 28 RX1 yX1_isOf wsX1_isOf) := goodIn_app (goodIn_of _ (by decide +kernel)) ggX2_find_X1_isOf
theorem dX2_find_0 : decode cX2_find 0 = .ok (.aload_n 0, 1) := by decide +kernel
theorem dX2_find_1 : decode cX2_find 1 = .ok (.getfield 15, 3) := by decide +kernel
theorem dX2_find_4 : decode cX2_find 4 = .ok (.iload_n 1, 1) := by decide +kernel
theorem dX2_find_5 : decode cX2_find 5 = .ok (.iload_n 2, 1) := by decide +kernel
theorem dX2_find_6 : decode cX2_find 6 = .ok (.invokestatic 24, 3) := by decide +kernel
theorem dX2_find_9 : decode cX2_find 9 = .ok (.getfield 21, 3) := by decide +kernel
theorem dX2_find_12 : decode cX2_find 12 = .ok (.astore_n 3, 1) := by decide +kernel
theorem dX2_find_13 : decode cX2_find 13 = .ok (.aload_n 3, 1) := by decide +kernel
theorem dX2_find_14 : decode cX2_find 14 = .ok (.ifnull 16, 3) := by decide +kernel
theorem dX2_find_17 : decode cX2_find 17 = .ok (.aload_n 3, 1) := by decide +kernel
theorem dX2_find_18 : decode cX2_find 18 = .ok (.iload_n 1, 1) := by decide +kernel
theorem dX2_find_19 : decode cX2_find 19 = .ok (.iload_n 2, 1) := by decide +kernel
theorem dX2_find_20 : decode cX2_find 20 = .ok (.invokevirtual 28, 3) := by decide +kernel
theorem dX2_find_23 : decode cX2_find 23 = .ok (.ifCond .eq 7, 3) := by decide +kernel
theorem dX2_find_26 : decode cX2_find 26 = .ok (.aload_n 3, 1) := by decide +kernel
theorem dX2_find_27 : decode cX2_find 27 = .ok (.goto 4, 3) := by decide +kernel
theorem dX2_find_30 : decode cX2_find 30 = .ok (.aconst_null, 1) := by decide +kernel
theorem dX2_find_31 : decode cX2_find 31 = .ok (.areturn, 1) := by decide +kernel
set_option maxRecDepth 20000 in
theorem ggX2_placeFrom_X2_lastBefore : GoodIn wsX2_placeFrom wsX2_lastBefore := goodIn_r _ [7, 8, 9, 10, 3, 11, 12, 13, 29, 30, 31, 32, 33, 34] (by decide +kernel) (by decide +kernel)
set_option maxRecDepth 20000 in
theorem gX2_placeFrom_X2_lastBefore : GoodIn wsX2_placeFrom (va_wsS RX2 24 yX2_lastBefore wsX2_lastBefore) := goodIn_app (goodIn_of _ (by decide +kernel)) ggX2_placeFrom_X2_lastBefore
set_option maxRecDepth 20000 in
theorem ggX2_placeFrom_X1_isOf : GoodIn wsX2_placeFrom wsX1_isOf := goodIn_r _ [17, 12, 13, 29, 30, 31, 32, 33, 34] (by decide +kernel) (by decide +kernel)
set_option maxRecDepth 20000 in
theorem gX2_placeFrom_X1_isOf : GoodIn wsX2_placeFrom (wsV RX2 28 RX1 yX1_isOf wsX1_isOf) := goodIn_app (goodIn_of _ (by decide +kernel)) ggX2_placeFrom_X1_isOf
set_option maxRecDepth 20000 in
theorem ggX2_placeFrom_X1_init : GoodIn wsX2_placeFrom wsX1_init := goodIn_r _ [20, 21, 22, 23, 24, 25, 26, 27, 12, 13, 28, 29, 30, 31, 32, 33, 34] (by decide +kernel) (by decide +kernel)
set_option maxRecDepth 20000 in
theorem gX2_placeFrom_X1_init : GoodIn wsX2_placeFrom (wsX1_init) := ggX2_placeFrom_X1_init
theorem dX2_placeFrom_0 : decode cX2_placeFrom 0 = .ok (.aload_n 1, 1) := by decide +kernel
theorem dX2_placeFrom_1 : decode cX2_placeFrom 1 = .ok (.iload_n 2, 1) := by decide +kernel
theorem dX2_placeFrom_2 : decode cX2_placeFrom 2 = .ok (.iload_n 3, 1) := by decide +kernel
theorem dX2_placeFrom_3 : decode cX2_placeFrom 3 = .ok (.invokestatic 24, 3) := by decide +kernel
theorem dX2_placeFrom_6 : decode cX2_placeFrom 6 = .ok (.astore 4, 2) := by decide +kernel
theorem dX2_placeFrom_8 : decode cX2_placeFrom 8 = .ok (.aload 4, 2) := by decide +kernel
theorem dX2_placeFrom_10 : decode cX2_placeFrom 10 = .ok (.getfield 21, 3) := by decide +kernel
theorem dX2_placeFrom_13 : decode cX2_placeFrom 13 = .ok (.astore 5, 2) := by decide +kernel
theorem dX2_placeFrom_15 : decode cX2_placeFrom 15 = .ok (.aload 5, 2) := by decide +kernel
theorem dX2_placeFrom_17 : decode cX2_placeFrom 17 = .ok (.ifnull 13, 3) := by decide +kernel
theorem dX2_placeFrom_20 : decode cX2_placeFrom 20 = .ok (.aload 5, 2) := by decide +kernel
theorem dX2_placeFrom_22 : decode cX2_placeFrom 22 = .ok (.iload_n 2, 1) := by decide +kernel
theorem dX2_placeFrom_23 : decode cX2_placeFrom 23 = .ok (.iload_n 3, 1) := by decide +kernel
theorem dX2_placeFrom_24 : decode cX2_placeFrom 24 = .ok (.invokevirtual 28, 3) := by decide +kernel
theorem dX2_placeFrom_27 : decode cX2_placeFrom 27 = .ok (.ifCond .ne 23, 3) := by decide +kernel
theorem dX2_placeFrom_30 : decode cX2_placeFrom 30 = .ok (.new 7, 3) := by decide +kernel
theorem dX2_placeFrom_33 : decode cX2_placeFrom 33 = .ok (.dup, 1) := by decide +kernel
theorem dX2_placeFrom_34 : decode cX2_placeFrom 34 = .ok (.iload_n 2, 1) := by decide +kernel
theorem dX2_placeFrom_35 : decode cX2_placeFrom 35 = .ok (.iload_n 3, 1) := by decide +kernel
theorem dX2_placeFrom_36 : decode cX2_placeFrom 36 = .ok (.aload 5, 2) := by decide +kernel
theorem dX2_placeFrom_38 : decode cX2_placeFrom 38 = .ok (.invokespecial 12, 3) := by decide +kernel
theorem dX2_placeFrom_41 : decode cX2_placeFrom 41 = .ok (.astore 5, 2) := by decide +kernel
theorem dX2_placeFrom_43 : decode cX2_placeFrom 43 = .ok (.aload 4, 2) := by decide +kernel
theorem dX2_placeFrom_45 : decode cX2_placeFrom 45 = .ok (.aload 5, 2) := by decide +kernel
theorem dX2_placeFrom_47 : decode cX2_placeFrom 47 = .ok (.putfield 21, 3) := by decide +kernel
theorem dX2_placeFrom_50 : decode cX2_placeFrom 50 = .ok (.aload 5, 2) := by decide +kernel
theorem dX2_placeFrom_52 : decode cX2_placeFrom 52 = .ok (.areturn, 1) := by decide +kernel
theorem dX2_manyUpTo_0 : decode cX2_manyUpTo 0 = .ok (.iconst 0, 1) := by decide +kernel
theorem dX2_manyUpTo_1 : decode cX2_manyUpTo 1 = .ok (.istore_n 2, 1) := by decide +kernel
theorem dX2_manyUpTo_2 : decode cX2_manyUpTo 2 = .ok (.aload_n 0, 1) := by decide +kernel
theorem dX2_manyUpTo_3 : decode cX2_manyUpTo 3 = .ok (.getfield 15, 3) := by decide +kernel
theorem dX2_manyUpTo_6 : decode cX2_manyUpTo 6 = .ok (.getfield 21, 3) := by decide +kernel
theorem dX2_manyUpTo_9 : decode cX2_manyUpTo 9 = .ok (.astore_n 3, 1) := by decide +kernel
theorem dX2_manyUpTo_10 : decode cX2_manyUpTo 10 = .ok (.aload_n 3, 1) := by decide +kernel
theorem dX2_manyUpTo_11 : decode cX2_manyUpTo 11 = .ok (.ifnull 22, 3) := by decide +kernel
theorem dX2_manyUpTo_14 : decode cX2_manyUpTo 14 = .ok (.aload_n 3, 1) := by decide +kernel
theorem dX2_manyUpTo_15 : decode cX2_manyUpTo 15 = .ok (.getfield 32, 3) := by decide +kernel
theorem dX2_manyUpTo_18 : decode cX2_manyUpTo 18 = .ok (.iload_n 1, 1) := by decide +kernel
theorem dX2_manyUpTo_19 : decode cX2_manyUpTo 19 = .ok (.if_icmp .gt 14, 3) := by decide +kernel
theorem dX2_manyUpTo_22 : decode cX2_manyUpTo 22 = .ok (.iinc 2 1, 3) := by decide +kernel
theorem dX2_manyUpTo_25 : decode cX2_manyUpTo 25 = .ok (.aload_n 3, 1) := by decide +kernel
theorem dX2_manyUpTo_26 : decode cX2_manyUpTo 26 = .ok (.getfield 21, 3) := by decide +kernel
theorem dX2_manyUpTo_29 : decode cX2_manyUpTo 29 = .ok (.astore_n 3, 1) := by decide +kernel
theorem dX2_manyUpTo_30 : decode cX2_manyUpTo 30 = .ok (.goto (-20), 3) := by decide +kernel
theorem dX2_manyUpTo_33 : decode cX2_manyUpTo 33 = .ok (.iload_n 2, 1) := by decide +kernel
theorem dX2_manyUpTo_34 : decode cX2_manyUpTo 34 = .ok (.ireturn, 1) := by decide +kernel
theorem dX2_windowsUpTo_0 : decode cX2_windowsUpTo 0 = .ok (.iconst 0, 1) := by decide +kernel
theorem dX2_windowsUpTo_1 : decode cX2_windowsUpTo 1 = .ok (.istore_n 2, 1) := by decide +kernel
theorem dX2_windowsUpTo_2 : decode cX2_windowsUpTo 2 = .ok (.aload_n 0, 1) := by decide +kernel
theorem dX2_windowsUpTo_3 : decode cX2_windowsUpTo 3 = .ok (.getfield 15, 3) := by decide +kernel
theorem dX2_windowsUpTo_6 : decode cX2_windowsUpTo 6 = .ok (.astore_n 3, 1) := by decide +kernel
theorem dX2_windowsUpTo_7 : decode cX2_windowsUpTo 7 = .ok (.aload_n 0, 1) := by decide +kernel
theorem dX2_windowsUpTo_8 : decode cX2_windowsUpTo 8 = .ok (.getfield 15, 3) := by decide +kernel
theorem dX2_windowsUpTo_11 : decode cX2_windowsUpTo 11 = .ok (.getfield 21, 3) := by decide +kernel
theorem dX2_windowsUpTo_14 : decode cX2_windowsUpTo 14 = .ok (.astore 4, 2) := by decide +kernel
theorem dX2_windowsUpTo_16 : decode cX2_windowsUpTo 16 = .ok (.aload 4, 2) := by decide +kernel
theorem dX2_windowsUpTo_18 : decode cX2_windowsUpTo 18 = .ok (.ifnull 40, 3) := by decide +kernel
theorem dX2_windowsUpTo_21 : decode cX2_windowsUpTo 21 = .ok (.aload 4, 2) := by decide +kernel
theorem dX2_windowsUpTo_23 : decode cX2_windowsUpTo 23 = .ok (.getfield 32, 3) := by decide +kernel
theorem dX2_windowsUpTo_26 : decode cX2_windowsUpTo 26 = .ok (.iload_n 1, 1) := by decide +kernel
theorem dX2_windowsUpTo_27 : decode cX2_windowsUpTo 27 = .ok (.if_icmp .gt 31, 3) := by decide +kernel
theorem dX2_windowsUpTo_30 : decode cX2_windowsUpTo 30 = .ok (.aload_n 3, 1) := by decide +kernel
theorem dX2_windowsUpTo_31 : decode cX2_windowsUpTo 31 = .ok (.getfield 32, 3) := by decide +kernel
theorem dX2_windowsUpTo_34 : decode cX2_windowsUpTo 34 = .ok (.aload 4, 2) := by decide +kernel
theorem dX2_windowsUpTo_36 : decode cX2_windowsUpTo 36 = .ok (.getfield 32, 3) := by decide +kernel
theorem dX2_windowsUpTo_39 : decode cX2_windowsUpTo 39 = .ok (.if_icmp .eq 6, 3) := by decide +kernel
theorem dX2_windowsUpTo_42 : decode cX2_windowsUpTo 42 = .ok (.iinc 2 1, 3) := by decide +kernel
theorem dX2_windowsUpTo_45 : decode cX2_windowsUpTo 45 = .ok (.aload 4, 2) := by decide +kernel
theorem dX2_windowsUpTo_47 : decode cX2_windowsUpTo 47 = .ok (.astore_n 3, 1) := by decide +kernel
theorem dX2_windowsUpTo_48 : decode cX2_windowsUpTo 48 = .ok (.aload 4, 2) := by decide +kernel
theorem dX2_windowsUpTo_50 : decode cX2_windowsUpTo 50 = .ok (.getfield 21, 3) := by decide +kernel
theorem dX2_windowsUpTo_53 : decode cX2_windowsUpTo 53 = .ok (.astore 4, 2) := by decide +kernel
theorem dX2_windowsUpTo_55 : decode cX2_windowsUpTo 55 = .ok (.goto (-39), 3) := by decide +kernel
theorem dX2_windowsUpTo_58 : decode cX2_windowsUpTo 58 = .ok (.iload_n 2, 1) := by decide +kernel
theorem dX2_windowsUpTo_59 : decode cX2_windowsUpTo 59 = .ok (.ireturn, 1) := by decide +kernel
theorem dX2_takeFirst_0 : decode cX2_takeFirst 0 = .ok (.aload_n 0, 1) := by decide +kernel
theorem dX2_takeFirst_1 : decode cX2_takeFirst 1 = .ok (.getfield 15, 3) := by decide +kernel
theorem dX2_takeFirst_4 : decode cX2_takeFirst 4 = .ok (.getfield 21, 3) := by decide +kernel
theorem dX2_takeFirst_7 : decode cX2_takeFirst 7 = .ok (.astore_n 1, 1) := by decide +kernel
theorem dX2_takeFirst_8 : decode cX2_takeFirst 8 = .ok (.aload_n 1, 1) := by decide +kernel
theorem dX2_takeFirst_9 : decode cX2_takeFirst 9 = .ok (.ifnull 14, 3) := by decide +kernel
theorem dX2_takeFirst_12 : decode cX2_takeFirst 12 = .ok (.aload_n 0, 1) := by decide +kernel
theorem dX2_takeFirst_13 : decode cX2_takeFirst 13 = .ok (.getfield 15, 3) := by decide +kernel
theorem dX2_takeFirst_16 : decode cX2_takeFirst 16 = .ok (.aload_n 1, 1) := by decide +kernel
theorem dX2_takeFirst_17 : decode cX2_takeFirst 17 = .ok (.getfield 21, 3) := by decide +kernel
theorem dX2_takeFirst_20 : decode cX2_takeFirst 20 = .ok (.putfield 21, 3) := by decide +kernel
theorem dX2_takeFirst_23 : decode cX2_takeFirst 23 = .ok (.aload_n 1, 1) := by decide +kernel
theorem dX2_takeFirst_24 : decode cX2_takeFirst 24 = .ok (.areturn, 1) := by decide +kernel
set_option maxRecDepth 20000 in
theorem ggX2_lastBefore_X1_isBefore : GoodIn wsX2_lastBefore wsX1_isBefore := goodIn_r _ [5, 6, 7, 8, 9, 10, 11, 12, 13] (by decide +kernel) (by decide +kernel)
set_option maxRecDepth 20000 in
theorem gX2_lastBefore_X1_isBefore : GoodIn wsX2_lastBefore (wsV RX2 36 RX1 yX1_isBefore wsX1_isBefore) := goodIn_app (goodIn_of _ (by decide +kernel)) ggX2_lastBefore_X1_isBefore
theorem dX2_lastBefore_0 : decode cX2_lastBefore 0 = .ok (.aload_n 0, 1) := by decide +kernel
theorem dX2_lastBefore_1 : decode cX2_lastBefore 1 = .ok (.astore_n 3, 1) := by decide +kernel
theorem dX2_lastBefore_2 : decode cX2_lastBefore 2 = .ok (.aload_n 3, 1) := by decide +kernel
theorem dX2_lastBefore_3 : decode cX2_lastBefore 3 = .ok (.getfield 21, 3) := by decide +kernel
theorem dX2_lastBefore_6 : decode cX2_lastBefore 6 = .ok (.ifnull 23, 3) := by decide +kernel
theorem dX2_lastBefore_9 : decode cX2_lastBefore 9 = .ok (.aload_n 3, 1) := by decide +kernel
theorem dX2_lastBefore_10 : decode cX2_lastBefore 10 = .ok (.getfield 21, 3) := by decide +kernel
theorem dX2_lastBefore_13 : decode cX2_lastBefore 13 = .ok (.iload_n 1, 1) := by decide +kernel
theorem dX2_lastBefore_14 : decode cX2_lastBefore 14 = .ok (.iload_n 2, 1) := by decide +kernel
theorem dX2_lastBefore_15 : decode cX2_lastBefore 15 = .ok (.invokevirtual 36, 3) := by decide +kernel
theorem dX2_lastBefore_18 : decode cX2_lastBefore 18 = .ok (.ifCond .eq 11, 3) := by decide +kernel
theorem dX2_lastBefore_21 : decode cX2_lastBefore 21 = .ok (.aload_n 3, 1) := by decide +kernel
theorem dX2_lastBefore_22 : decode cX2_lastBefore 22 = .ok (.getfield 21, 3) := by decide +kernel
theorem dX2_lastBefore_25 : decode cX2_lastBefore 25 = .ok (.astore_n 3, 1) := by decide +kernel
theorem dX2_lastBefore_26 : decode cX2_lastBefore 26 = .ok (.goto (-24), 3) := by decide +kernel
theorem dX2_lastBefore_29 : decode cX2_lastBefore 29 = .ok (.aload_n 3, 1) := by decide +kernel
theorem dX2_lastBefore_30 : decode cX2_lastBefore 30 = .ok (.areturn, 1) := by decide +kernel
theorem dX3_init_0 : decode cX3_init 0 = .ok (.aload_n 0, 1) := by decide +kernel
theorem dX3_init_1 : decode cX3_init 1 = .ok (.invokespecial 3, 3) := by decide +kernel
theorem dX3_init_4 : decode cX3_init 4 = .ok (.aload_n 0, 1) := by decide +kernel
theorem dX3_init_5 : decode cX3_init 5 = .ok (.sipush 2400, 3) := by decide +kernel
theorem dX3_init_8 : decode cX3_init 8 = .ok (.newarray .int, 2) := by decide +kernel
theorem dX3_init_10 : decode cX3_init 10 = .ok (.putfield 11, 3) := by decide +kernel
theorem dX3_init_13 : decode cX3_init 13 = .ok (.aload_n 0, 1) := by decide +kernel
theorem dX3_init_14 : decode cX3_init 14 = .ok (.iconst 0, 1) := by decide +kernel
theorem dX3_init_15 : decode cX3_init 15 = .ok (.putfield 15, 3) := by decide +kernel
theorem dX3_init_18 : decode cX3_init 18 = .ok (.aload_n 0, 1) := by decide +kernel
theorem dX3_init_19 : decode cX3_init 19 = .ok (.iconst 0, 1) := by decide +kernel
theorem dX3_init_20 : decode cX3_init 20 = .ok (.putfield 19, 3) := by decide +kernel
theorem dX3_init_23 : decode cX3_init 23 = .ok (.return_, 1) := by decide +kernel
theorem dX3_clear_0 : decode cX3_clear 0 = .ok (.aload_n 0, 1) := by decide +kernel
theorem dX3_clear_1 : decode cX3_clear 1 = .ok (.iconst 0, 1) := by decide +kernel
theorem dX3_clear_2 : decode cX3_clear 2 = .ok (.putfield 15, 3) := by decide +kernel
theorem dX3_clear_5 : decode cX3_clear 5 = .ok (.aload_n 0, 1) := by decide +kernel
theorem dX3_clear_6 : decode cX3_clear 6 = .ok (.iconst 0, 1) := by decide +kernel
theorem dX3_clear_7 : decode cX3_clear 7 = .ok (.putfield 19, 3) := by decide +kernel
theorem dX3_clear_10 : decode cX3_clear 10 = .ok (.return_, 1) := by decide +kernel
theorem dX3_size_0 : decode cX3_size 0 = .ok (.aload_n 0, 1) := by decide +kernel
theorem dX3_size_1 : decode cX3_size 1 = .ok (.getfield 19, 3) := by decide +kernel
theorem dX3_size_4 : decode cX3_size 4 = .ok (.ireturn, 1) := by decide +kernel
set_option maxRecDepth 20000 in
theorem ggX3_cell_X4_isWithin : GoodIn wsX3_cell wsX4_isWithin := goodIn_r _ [5] (by decide +kernel) (by decide +kernel)
set_option maxRecDepth 20000 in
theorem gX3_cell_X4_isWithin_n22 : GoodIn wsX3_cell (wsX4_isWithin) := ggX3_cell_X4_isWithin
set_option maxRecDepth 20000 in
theorem ggX3_cell_X3_rowOf : GoodIn wsX3_cell wsX3_rowOf := goodIn_r _ [10, 11, 12, 13, 14] (by decide +kernel) (by decide +kernel)
set_option maxRecDepth 20000 in
theorem gX3_cell_X3_rowOf : GoodIn wsX3_cell (wsV RX3 26 RX3 yX3_rowOf wsX3_rowOf) := goodIn_app (goodIn_of _ (by decide +kernel)) ggX3_cell_X3_rowOf
theorem dX3_cell_0 : decode cX3_cell 0 = .ok (.iload_n 1, 1) := by decide +kernel
theorem dX3_cell_1 : decode cX3_cell 1 = .ok (.iconst 0, 1) := by decide +kernel
theorem dX3_cell_2 : decode cX3_cell 2 = .ok (.aload_n 0, 1) := by decide +kernel
theorem dX3_cell_3 : decode cX3_cell 3 = .ok (.getfield 19, 3) := by decide +kernel
theorem dX3_cell_6 : decode cX3_cell 6 = .ok (.iconst 1, 1) := by decide +kernel
theorem dX3_cell_7 : decode cX3_cell 7 = .ok (.isub, 1) := by decide +kernel
theorem dX3_cell_8 : decode cX3_cell 8 = .ok (.invokestatic 22, 3) := by decide +kernel
theorem dX3_cell_11 : decode cX3_cell 11 = .ok (.ifCond .eq 16, 3) := by decide +kernel
theorem dX3_cell_14 : decode cX3_cell 14 = .ok (.iload_n 2, 1) := by decide +kernel
theorem dX3_cell_15 : decode cX3_cell 15 = .ok (.iconst 0, 1) := by decide +kernel
theorem dX3_cell_16 : decode cX3_cell 16 = .ok (.iconst 5, 1) := by decide +kernel
theorem dX3_cell_17 : decode cX3_cell 17 = .ok (.invokestatic 22, 3) := by decide +kernel
theorem dX3_cell_20 : decode cX3_cell 20 = .ok (.ifCond .eq 7, 3) := by decide +kernel
theorem dX3_cell_23 : decode cX3_cell 23 = .ok (.iconst 1, 1) := by decide +kernel
theorem dX3_cell_24 : decode cX3_cell 24 = .ok (.goto 4, 3) := by decide +kernel
theorem dX3_cell_27 : decode cX3_cell 27 = .ok (.iconst 0, 1) := by decide +kernel
theorem dX3_cell_28 : decode cX3_cell 28 = .ok (.istore_n 3, 1) := by decide +kernel
theorem dX3_cell_29 : decode cX3_cell 29 = .ok (.iload_n 3, 1) := by decide +kernel
theorem dX3_cell_30 : decode cX3_cell 30 = .ok (.ifCond .eq 18, 3) := by decide +kernel
theorem dX3_cell_33 : decode cX3_cell 33 = .ok (.aload_n 0, 1) := by decide +kernel
theorem dX3_cell_34 : decode cX3_cell 34 = .ok (.getfield 11, 3) := by decide +kernel
theorem dX3_cell_37 : decode cX3_cell 37 = .ok (.aload_n 0, 1) := by decide +kernel
theorem dX3_cell_38 : decode cX3_cell 38 = .ok (.iload_n 1, 1) := by decide +kernel
theorem dX3_cell_39 : decode cX3_cell 39 = .ok (.invokevirtual 26, 3) := by decide +kernel
theorem dX3_cell_42 : decode cX3_cell 42 = .ok (.iload_n 2, 1) := by decide +kernel
theorem dX3_cell_43 : decode cX3_cell 43 = .ok (.iadd, 1) := by decide +kernel
theorem dX3_cell_44 : decode cX3_cell 44 = .ok (.iaload, 1) := by decide +kernel
theorem dX3_cell_45 : decode cX3_cell 45 = .ok (.goto 4, 3) := by decide +kernel
theorem dX3_cell_48 : decode cX3_cell 48 = .ok (.iconst 0, 1) := by decide +kernel
theorem dX3_cell_49 : decode cX3_cell 49 = .ok (.ireturn, 1) := by decide +kernel
set_option maxRecDepth 20000 in
theorem ggX3_add_X3_rowOf : GoodIn wsX3_add wsX3_rowOf := goodIn_r _ [7, 8, 9, 10, 11] (by decide +kernel) (by decide +kernel)
set_option maxRecDepth 20000 in
theorem gX3_add_X3_rowOf : GoodIn wsX3_add (wsV RX3 26 RX3 yX3_rowOf wsX3_rowOf) := goodIn_app (goodIn_of _ (by decide +kernel)) ggX3_add_X3_rowOf
theorem dX3_add_0 : decode cX3_add 0 = .ok (.aload_n 0, 1) := by decide +kernel
theorem dX3_add_1 : decode cX3_add 1 = .ok (.getfield 19, 3) := by decide +kernel
theorem dX3_add_4 : decode cX3_add 4 = .ok (.sipush 400, 3) := by decide +kernel
theorem dX3_add_7 : decode cX3_add 7 = .ok (.if_icmp .lt 4, 3) := by decide +kernel
theorem dX3_add_10 : decode cX3_add 10 = .ok (.return_, 1) := by decide +kernel
theorem dX3_add_11 : decode cX3_add 11 = .ok (.aload_n 0, 1) := by decide +kernel
theorem dX3_add_12 : decode cX3_add 12 = .ok (.aload_n 0, 1) := by decide +kernel
theorem dX3_add_13 : decode cX3_add 13 = .ok (.getfield 19, 3) := by decide +kernel
theorem dX3_add_16 : decode cX3_add 16 = .ok (.invokevirtual 26, 3) := by decide +kernel
theorem dX3_add_19 : decode cX3_add 19 = .ok (.istore 7, 2) := by decide +kernel
theorem dX3_add_21 : decode cX3_add 21 = .ok (.aload_n 0, 1) := by decide +kernel
theorem dX3_add_22 : decode cX3_add 22 = .ok (.getfield 11, 3) := by decide +kernel
theorem dX3_add_25 : decode cX3_add 25 = .ok (.iload 7, 2) := by decide +kernel
theorem dX3_add_27 : decode cX3_add 27 = .ok (.iload_n 1, 1) := by decide +kernel
theorem dX3_add_28 : decode cX3_add 28 = .ok (.iastore, 1) := by decide +kernel
theorem dX3_add_29 : decode cX3_add 29 = .ok (.aload_n 0, 1) := by decide +kernel
theorem dX3_add_30 : decode cX3_add 30 = .ok (.getfield 11, 3) := by decide +kernel
theorem dX3_add_33 : decode cX3_add 33 = .ok (.iload 7, 2) := by decide +kernel
theorem dX3_add_35 : decode cX3_add 35 = .ok (.iconst 1, 1) := by decide +kernel
theorem dX3_add_36 : decode cX3_add 36 = .ok (.iadd, 1) := by decide +kernel
theorem dX3_add_37 : decode cX3_add 37 = .ok (.iload_n 2, 1) := by decide +kernel
theorem dX3_add_38 : decode cX3_add 38 = .ok (.iastore, 1) := by decide +kernel
theorem dX3_add_39 : decode cX3_add 39 = .ok (.aload_n 0, 1) := by decide +kernel
theorem dX3_add_40 : decode cX3_add 40 = .ok (.getfield 11, 3) := by decide +kernel
theorem dX3_add_43 : decode cX3_add 43 = .ok (.iload 7, 2) := by decide +kernel
theorem dX3_add_45 : decode cX3_add 45 = .ok (.iconst 2, 1) := by decide +kernel
theorem dX3_add_46 : decode cX3_add 46 = .ok (.iadd, 1) := by decide +kernel
theorem dX3_add_47 : decode cX3_add 47 = .ok (.iload_n 3, 1) := by decide +kernel
theorem dX3_add_48 : decode cX3_add 48 = .ok (.iastore, 1) := by decide +kernel
theorem dX3_add_49 : decode cX3_add 49 = .ok (.aload_n 0, 1) := by decide +kernel
theorem dX3_add_50 : decode cX3_add 50 = .ok (.getfield 11, 3) := by decide +kernel
theorem dX3_add_53 : decode cX3_add 53 = .ok (.iload 7, 2) := by decide +kernel
theorem dX3_add_55 : decode cX3_add 55 = .ok (.iconst 3, 1) := by decide +kernel
theorem dX3_add_56 : decode cX3_add 56 = .ok (.iadd, 1) := by decide +kernel
theorem dX3_add_57 : decode cX3_add 57 = .ok (.iload 4, 2) := by decide +kernel
theorem dX3_add_59 : decode cX3_add 59 = .ok (.iastore, 1) := by decide +kernel
theorem dX3_add_60 : decode cX3_add 60 = .ok (.aload_n 0, 1) := by decide +kernel
theorem dX3_add_61 : decode cX3_add 61 = .ok (.getfield 11, 3) := by decide +kernel
theorem dX3_add_64 : decode cX3_add 64 = .ok (.iload 7, 2) := by decide +kernel
theorem dX3_add_66 : decode cX3_add 66 = .ok (.iconst 4, 1) := by decide +kernel
theorem dX3_add_67 : decode cX3_add 67 = .ok (.iadd, 1) := by decide +kernel
theorem dX3_add_68 : decode cX3_add 68 = .ok (.iload 5, 2) := by decide +kernel
theorem dX3_add_70 : decode cX3_add 70 = .ok (.iastore, 1) := by decide +kernel
theorem dX3_add_71 : decode cX3_add 71 = .ok (.aload_n 0, 1) := by decide +kernel
theorem dX3_add_72 : decode cX3_add 72 = .ok (.getfield 11, 3) := by decide +kernel
theorem dX3_add_75 : decode cX3_add 75 = .ok (.iload 7, 2) := by decide +kernel
theorem dX3_add_77 : decode cX3_add 77 = .ok (.iconst 5, 1) := by decide +kernel
theorem dX3_add_78 : decode cX3_add 78 = .ok (.iadd, 1) := by decide +kernel
theorem dX3_add_79 : decode cX3_add 79 = .ok (.iload 6, 2) := by decide +kernel
theorem dX3_add_81 : decode cX3_add 81 = .ok (.iastore, 1) := by decide +kernel
theorem dX3_add_82 : decode cX3_add 82 = .ok (.aload_n 0, 1) := by decide +kernel
theorem dX3_add_83 : decode cX3_add 83 = .ok (.dup, 1) := by decide +kernel
theorem dX3_add_84 : decode cX3_add 84 = .ok (.getfield 19, 3) := by decide +kernel
theorem dX3_add_87 : decode cX3_add 87 = .ok (.iconst 1, 1) := by decide +kernel
theorem dX3_add_88 : decode cX3_add 88 = .ok (.iadd, 1) := by decide +kernel
theorem dX3_add_89 : decode cX3_add 89 = .ok (.putfield 19, 3) := by decide +kernel
theorem dX3_add_92 : decode cX3_add 92 = .ok (.return_, 1) := by decide +kernel
theorem dX3_dropFirst_0 : decode cX3_dropFirst 0 = .ok (.aload_n 0, 1) := by decide +kernel
theorem dX3_dropFirst_1 : decode cX3_dropFirst 1 = .ok (.getfield 19, 3) := by decide +kernel
theorem dX3_dropFirst_4 : decode cX3_dropFirst 4 = .ok (.ifCond .ne 5, 3) := by decide +kernel
theorem dX3_dropFirst_7 : decode cX3_dropFirst 7 = .ok (.iconst 0, 1) := by decide +kernel
theorem dX3_dropFirst_8 : decode cX3_dropFirst 8 = .ok (.ireturn, 1) := by decide +kernel
theorem dX3_dropFirst_9 : decode cX3_dropFirst 9 = .ok (.aload_n 0, 1) := by decide +kernel
theorem dX3_dropFirst_10 : decode cX3_dropFirst 10 = .ok (.aload_n 0, 1) := by decide +kernel
theorem dX3_dropFirst_11 : decode cX3_dropFirst 11 = .ok (.getfield 15, 3) := by decide +kernel
theorem dX3_dropFirst_14 : decode cX3_dropFirst 14 = .ok (.iconst 1, 1) := by decide +kernel
theorem dX3_dropFirst_15 : decode cX3_dropFirst 15 = .ok (.iadd, 1) := by decide +kernel
theorem dX3_dropFirst_16 : decode cX3_dropFirst 16 = .ok (.sipush 400, 3) := by decide +kernel
theorem dX3_dropFirst_19 : decode cX3_dropFirst 19 = .ok (.irem, 1) := by decide +kernel
theorem dX3_dropFirst_20 : decode cX3_dropFirst 20 = .ok (.putfield 15, 3) := by decide +kernel
theorem dX3_dropFirst_23 : decode cX3_dropFirst 23 = .ok (.aload_n 0, 1) := by decide +kernel
theorem dX3_dropFirst_24 : decode cX3_dropFirst 24 = .ok (.dup, 1) := by decide +kernel
theorem dX3_dropFirst_25 : decode cX3_dropFirst 25 = .ok (.getfield 19, 3) := by decide +kernel
theorem dX3_dropFirst_28 : decode cX3_dropFirst 28 = .ok (.iconst 1, 1) := by decide +kernel
theorem dX3_dropFirst_29 : decode cX3_dropFirst 29 = .ok (.isub, 1) := by decide +kernel
theorem dX3_dropFirst_30 : decode cX3_dropFirst 30 = .ok (.putfield 19, 3) := by decide +kernel
theorem dX3_dropFirst_33 : decode cX3_dropFirst 33 = .ok (.iconst 1, 1) := by decide +kernel
theorem dX3_dropFirst_34 : decode cX3_dropFirst 34 = .ok (.ireturn, 1) := by decide +kernel
theorem dX3_rowOf_0 : decode cX3_rowOf 0 = .ok (.aload_n 0, 1) := by decide +kernel
theorem dX3_rowOf_1 : decode cX3_rowOf 1 = .ok (.getfield 15, 3) := by decide +kernel
theorem dX3_rowOf_4 : decode cX3_rowOf 4 = .ok (.iload_n 1, 1) := by decide +kernel
theorem dX3_rowOf_5 : decode cX3_rowOf 5 = .ok (.iadd, 1) := by decide +kernel
theorem dX3_rowOf_6 : decode cX3_rowOf 6 = .ok (.sipush 400, 3) := by decide +kernel
theorem dX3_rowOf_9 : decode cX3_rowOf 9 = .ok (.irem, 1) := by decide +kernel
theorem dX3_rowOf_10 : decode cX3_rowOf 10 = .ok (.bipush 6, 2) := by decide +kernel
theorem dX3_rowOf_12 : decode cX3_rowOf 12 = .ok (.imul, 1) := by decide +kernel
theorem dX3_rowOf_13 : decode cX3_rowOf 13 = .ok (.ireturn, 1) := by decide +kernel
set_option maxRecDepth 20000 in
theorem ggX4_init_X0_init : GoodIn wsX4_init wsX0_init := goodIn_r _ [24, 25, 2, 3, 26, 27, 28, 29, 30, 80, 81, 82, 83] (by decide +kernel) (by decide +kernel)
set_option maxRecDepth 20000 in
theorem gX4_init_X0_init_n9 : GoodIn wsX4_init (wsX0_init) := ggX4_init_X0_init
set_option maxRecDepth 20000 in
theorem ggX4_init_X2_init : GoodIn wsX4_init wsX2_init := goodIn_r _ [32, 33, 2, 3, 34, 35, 36, 37, 38, 39, 40, 41, 42, 43, 44, 45, 46, 47, 48, 49, 104, 105, 106, 107, 108, 109, 100] (by decide +kernel) (by decide +kernel)
set_option maxRecDepth 20000 in
theorem gX4_init_X2_init_n21 : GoodIn wsX4_init (wsX2_init) := ggX4_init_X2_init
set_option maxRecDepth 20000 in
theorem ggX4_init_X3_init : GoodIn wsX4_init wsX3_init := goodIn_r _ [51, 52, 2, 3, 26, 53, 54, 55, 101, 102, 103] (by decide +kernel) (by decide +kernel)
set_option maxRecDepth 20000 in
theorem gX4_init_X3_init_n28 : GoodIn wsX4_init (wsX3_init) := ggX4_init_X3_init
set_option maxRecDepth 20000 in
theorem ggX4_init_X4_startAgain : GoodIn wsX4_init wsX4_startAgain := goodIn_r _ [60, 7, 8, 12, 16, 61, 62, 63, 64, 65, 66, 67, 68, 69, 70, 6, 71, 30, 72, 73, 74, 11, 75, 38, 76, 77, 78, 15, 79, 54, 55, 84, 85, 86, 87, 88, 89, 90, 91, 92, 93, 94, 95, 96, 97, 98, 99, 80, 81, 82, 83, 100, 104, 105, 106, 107, 108, 109, 101, 102, 103] (by decide +kernel) (by decide +kernel)
set_option maxRecDepth 20000 in
theorem gX4_init_X4_startAgain : GoodIn wsX4_init (wsV RX4 52 RX4 yX4_startAgain wsX4_startAgain) := goodIn_app (goodIn_of _ (by decide +kernel)) ggX4_init_X4_startAgain
theorem dX4_init_0 : decode cX4_init 0 = .ok (.aload_n 0, 1) := by decide +kernel
theorem dX4_init_1 : decode cX4_init 1 = .ok (.invokespecial 1, 3) := by decide +kernel
theorem dX4_init_4 : decode cX4_init 4 = .ok (.aload_n 0, 1) := by decide +kernel
theorem dX4_init_5 : decode cX4_init 5 = .ok (.new 7, 3) := by decide +kernel
theorem dX4_init_8 : decode cX4_init 8 = .ok (.dup, 1) := by decide +kernel
theorem dX4_init_9 : decode cX4_init 9 = .ok (.invokespecial 9, 3) := by decide +kernel
theorem dX4_init_12 : decode cX4_init 12 = .ok (.putfield 10, 3) := by decide +kernel
theorem dX4_init_15 : decode cX4_init 15 = .ok (.aload_n 0, 1) := by decide +kernel
theorem dX4_init_16 : decode cX4_init 16 = .ok (.new 7, 3) := by decide +kernel
theorem dX4_init_19 : decode cX4_init 19 = .ok (.dup, 1) := by decide +kernel
theorem dX4_init_20 : decode cX4_init 20 = .ok (.invokespecial 9, 3) := by decide +kernel
theorem dX4_init_23 : decode cX4_init 23 = .ok (.putfield 16, 3) := by decide +kernel
theorem dX4_init_26 : decode cX4_init 26 = .ok (.aload_n 0, 1) := by decide +kernel
theorem dX4_init_27 : decode cX4_init 27 = .ok (.new 19, 3) := by decide +kernel
theorem dX4_init_30 : decode cX4_init 30 = .ok (.dup, 1) := by decide +kernel
theorem dX4_init_31 : decode cX4_init 31 = .ok (.invokespecial 21, 3) := by decide +kernel
theorem dX4_init_34 : decode cX4_init 34 = .ok (.putfield 22, 3) := by decide +kernel
theorem dX4_init_37 : decode cX4_init 37 = .ok (.aload_n 0, 1) := by decide +kernel
theorem dX4_init_38 : decode cX4_init 38 = .ok (.new 26, 3) := by decide +kernel
theorem dX4_init_41 : decode cX4_init 41 = .ok (.dup, 1) := by decide +kernel
theorem dX4_init_42 : decode cX4_init 42 = .ok (.invokespecial 28, 3) := by decide +kernel
theorem dX4_init_45 : decode cX4_init 45 = .ok (.putfield 29, 3) := by decide +kernel
theorem dX4_init_48 : decode cX4_init 48 = .ok (.aload_n 0, 1) := by decide +kernel
theorem dX4_init_49 : decode cX4_init 49 = .ok (.bipush 10, 2) := by decide +kernel
theorem dX4_init_51 : decode cX4_init 51 = .ok (.putfield 33, 3) := by decide +kernel
theorem dX4_init_54 : decode cX4_init 54 = .ok (.aload_n 0, 1) := by decide +kernel
theorem dX4_init_55 : decode cX4_init 55 = .ok (.bipush 10, 2) := by decide +kernel
theorem dX4_init_57 : decode cX4_init 57 = .ok (.putfield 37, 3) := by decide +kernel
theorem dX4_init_60 : decode cX4_init 60 = .ok (.aload_n 0, 1) := by decide +kernel
theorem dX4_init_61 : decode cX4_init 61 = .ok (.iconst 0, 1) := by decide +kernel
theorem dX4_init_62 : decode cX4_init 62 = .ok (.putfield 40, 3) := by decide +kernel
theorem dX4_init_65 : decode cX4_init 65 = .ok (.aload_n 0, 1) := by decide +kernel
theorem dX4_init_66 : decode cX4_init 66 = .ok (.iconst 0, 1) := by decide +kernel
theorem dX4_init_67 : decode cX4_init 67 = .ok (.putfield 43, 3) := by decide +kernel
theorem dX4_init_70 : decode cX4_init 70 = .ok (.aload_n 0, 1) := by decide +kernel
theorem dX4_init_71 : decode cX4_init 71 = .ok (.bipush 100, 2) := by decide +kernel
theorem dX4_init_73 : decode cX4_init 73 = .ok (.putfield 46, 3) := by decide +kernel
theorem dX4_init_76 : decode cX4_init 76 = .ok (.aload_n 0, 1) := by decide +kernel
theorem dX4_init_77 : decode cX4_init 77 = .ok (.sipush 200, 3) := by decide +kernel
theorem dX4_init_80 : decode cX4_init 80 = .ok (.putfield 49, 3) := by decide +kernel
theorem dX4_init_83 : decode cX4_init 83 = .ok (.aload_n 0, 1) := by decide +kernel
theorem dX4_init_84 : decode cX4_init 84 = .ok (.invokevirtual 52, 3) := by decide +kernel
theorem dX4_init_87 : decode cX4_init 87 = .ok (.return_, 1) := by decide +kernel
set_option maxRecDepth 20000 in
theorem ggX4_set_X4_areWindows : GoodIn wsX4_set wsX4_areWindows := goodIn_r _ [11, 1, 12, 13, 10, 14] (by decide +kernel) (by decide +kernel)
set_option maxRecDepth 20000 in
theorem gX4_set_X4_areWindows : GoodIn wsX4_set (va_wsS RX4 55 yX4_areWindows wsX4_areWindows) := goodIn_app (goodIn_of _ (by decide +kernel)) ggX4_set_X4_areWindows
set_option maxRecDepth 20000 in
theorem ggX4_set_X4_isWithin : GoodIn wsX4_set wsX4_isWithin := goodIn_r _ [14] (by decide +kernel) (by decide +kernel)
set_option maxRecDepth 20000 in
theorem gX4_set_X4_isWithin : GoodIn wsX4_set (va_wsS RX4 60 yX4_isWithin wsX4_isWithin) := goodIn_app (goodIn_of _ (by decide +kernel)) ggX4_set_X4_isWithin
set_option maxRecDepth 20000 in
theorem ggX4_set_X4_startAgain : GoodIn wsX4_set wsX4_startAgain := goodIn_r _ [18, 19, 20, 21, 22, 23, 24, 25, 26, 27, 28, 29, 30, 31, 32, 33, 34, 35, 36, 37, 38, 39, 40, 41, 42, 43, 44, 45, 46, 47, 48, 49, 50, 51, 52, 53, 54, 55, 56, 57, 58, 59, 60, 61, 62, 63, 64, 65, 66, 67, 68, 69, 70, 71, 72, 73, 74, 75, 76, 77, 78] (by decide +kernel) (by decide +kernel)
set_option maxRecDepth 20000 in
theorem gX4_set_X4_startAgain : GoodIn wsX4_set (wsV RX4 52 RX4 yX4_startAgain wsX4_startAgain) := goodIn_app (goodIn_of _ (by decide +kernel)) ggX4_set_X4_startAgain
theorem dX4_set_0 : decode cX4_set 0 = .ok (.iload_n 1, 1) := by decide +kernel
theorem dX4_set_1 : decode cX4_set 1 = .ok (.iload_n 2, 1) := by decide +kernel
theorem dX4_set_2 : decode cX4_set 2 = .ok (.invokestatic 55, 3) := by decide +kernel
theorem dX4_set_5 : decode cX4_set 5 = .ok (.ifCond .eq 48, 3) := by decide +kernel
theorem dX4_set_8 : decode cX4_set 8 = .ok (.iload_n 3, 1) := by decide +kernel
theorem dX4_set_9 : decode cX4_set 9 = .ok (.iconst 0, 1) := by decide +kernel
theorem dX4_set_10 : decode cX4_set 10 = .ok (.ldc 59, 2) := by decide +kernel
theorem dX4_set_12 : decode cX4_set 12 = .ok (.invokestatic 60, 3) := by decide +kernel
theorem dX4_set_15 : decode cX4_set 15 = .ok (.ifCond .eq 38, 3) := by decide +kernel
theorem dX4_set_18 : decode cX4_set 18 = .ok (.iload 4, 2) := by decide +kernel
theorem dX4_set_20 : decode cX4_set 20 = .ok (.iconst 0, 1) := by decide +kernel
theorem dX4_set_21 : decode cX4_set 21 = .ok (.ldc 59, 2) := by decide +kernel
theorem dX4_set_23 : decode cX4_set 23 = .ok (.invokestatic 60, 3) := by decide +kernel
theorem dX4_set_26 : decode cX4_set 26 = .ok (.ifCond .eq 27, 3) := by decide +kernel
theorem dX4_set_29 : decode cX4_set 29 = .ok (.iload 5, 2) := by decide +kernel
theorem dX4_set_31 : decode cX4_set 31 = .ok (.iconst 1, 1) := by decide +kernel
theorem dX4_set_32 : decode cX4_set 32 = .ok (.sipush 200, 3) := by decide +kernel
theorem dX4_set_35 : decode cX4_set 35 = .ok (.invokestatic 60, 3) := by decide +kernel
theorem dX4_set_38 : decode cX4_set 38 = .ok (.ifCond .eq 15, 3) := by decide +kernel
theorem dX4_set_41 : decode cX4_set 41 = .ok (.iload 6, 2) := by decide +kernel
theorem dX4_set_43 : decode cX4_set 43 = .ok (.iconst 1, 1) := by decide +kernel
theorem dX4_set_44 : decode cX4_set 44 = .ok (.sipush 400, 3) := by decide +kernel
theorem dX4_set_47 : decode cX4_set 47 = .ok (.invokestatic 60, 3) := by decide +kernel
theorem dX4_set_50 : decode cX4_set 50 = .ok (.ifCond .ne 6, 3) := by decide +kernel
theorem dX4_set_53 : decode cX4_set 53 = .ok (.bipush (-2), 2) := by decide +kernel
theorem dX4_set_55 : decode cX4_set 55 = .ok (.ireturn, 1) := by decide +kernel
theorem dX4_set_56 : decode cX4_set 56 = .ok (.aload_n 0, 1) := by decide +kernel
theorem dX4_set_57 : decode cX4_set 57 = .ok (.iload_n 1, 1) := by decide +kernel
theorem dX4_set_58 : decode cX4_set 58 = .ok (.putfield 33, 3) := by decide +kernel
theorem dX4_set_61 : decode cX4_set 61 = .ok (.aload_n 0, 1) := by decide +kernel
theorem dX4_set_62 : decode cX4_set 62 = .ok (.iload_n 2, 1) := by decide +kernel
theorem dX4_set_63 : decode cX4_set 63 = .ok (.putfield 37, 3) := by decide +kernel
theorem dX4_set_66 : decode cX4_set 66 = .ok (.aload_n 0, 1) := by decide +kernel
theorem dX4_set_67 : decode cX4_set 67 = .ok (.iload_n 3, 1) := by decide +kernel
theorem dX4_set_68 : decode cX4_set 68 = .ok (.putfield 40, 3) := by decide +kernel
theorem dX4_set_71 : decode cX4_set 71 = .ok (.aload_n 0, 1) := by decide +kernel
theorem dX4_set_72 : decode cX4_set 72 = .ok (.iload 4, 2) := by decide +kernel
theorem dX4_set_74 : decode cX4_set 74 = .ok (.putfield 43, 3) := by decide +kernel
theorem dX4_set_77 : decode cX4_set 77 = .ok (.aload_n 0, 1) := by decide +kernel
theorem dX4_set_78 : decode cX4_set 78 = .ok (.iload 5, 2) := by decide +kernel
theorem dX4_set_80 : decode cX4_set 80 = .ok (.putfield 46, 3) := by decide +kernel
theorem dX4_set_83 : decode cX4_set 83 = .ok (.aload_n 0, 1) := by decide +kernel
theorem dX4_set_84 : decode cX4_set 84 = .ok (.iload 6, 2) := by decide +kernel
theorem dX4_set_86 : decode cX4_set 86 = .ok (.putfield 49, 3) := by decide +kernel
theorem dX4_set_89 : decode cX4_set 89 = .ok (.aload_n 0, 1) := by decide +kernel
theorem dX4_set_90 : decode cX4_set 90 = .ok (.invokevirtual 52, 3) := by decide +kernel
theorem dX4_set_93 : decode cX4_set 93 = .ok (.iconst 0, 1) := by decide +kernel
theorem dX4_set_94 : decode cX4_set 94 = .ok (.ireturn, 1) := by decide +kernel
set_option maxRecDepth 20000 in
theorem ggX4_eventA_X4_admit : GoodIn wsX4_eventA wsX4_admit := goodIn_r _ [9, 10, 11, 4, 1, 12, 2, 3, 13, 14, 15, 8, 16, 17, 18, 19, 20, 21, 22, 23, 24, 25, 26, 27, 28, 29, 30, 31, 32, 33, 34, 35, 36, 37, 38, 39, 40, 41, 42, 43, 44, 45, 46, 47, 48, 49, 50, 51, 52, 53, 54, 55, 56, 57, 58, 59, 60, 150, 151, 152, 153, 154, 155, 156, 157, 158, 159, 160, 161, 162, 163, 164, 165, 166, 167, 168, 169, 170, 171, 172] (by decide +kernel) (by decide +kernel)
set_option maxRecDepth 20000 in
theorem gX4_eventA_X4_admit : GoodIn wsX4_eventA (wsV RX4 64 RX4 yX4_admit wsX4_admit) := goodIn_app (goodIn_of _ (by decide +kernel)) ggX4_eventA_X4_admit
set_option maxRecDepth 20000 in
theorem ggX4_eventA_X0_size : GoodIn wsX4_eventA wsX0_size := goodIn_r _ [36, 37, 166, 167, 168, 169] (by decide +kernel) (by decide +kernel)
set_option maxRecDepth 20000 in
theorem gX4_eventA_X0_size : GoodIn wsX4_eventA (wsV RX4 68 RX0 yX0_size wsX0_size) := goodIn_app (goodIn_of _ (by decide +kernel)) ggX4_eventA_X0_size
set_option maxRecDepth 20000 in
theorem ggX4_eventA_X0_isNear : GoodIn wsX4_eventA wsX0_isNear := goodIn_r _ [45, 46, 47, 48, 49, 30, 50, 51, 52, 53, 35, 54, 37, 166, 167, 168, 169] (by decide +kernel) (by decide +kernel)
set_option maxRecDepth 20000 in
theorem gX4_eventA_X0_isNear : GoodIn wsX4_eventA (wsV RX4 72 RX0 yX0_isNear wsX0_isNear) := goodIn_app (goodIn_of _ (by decide +kernel)) ggX4_eventA_X0_isNear
set_option maxRecDepth 20000 in
theorem ggX4_eventA_X0_time : GoodIn wsX4_eventA wsX0_time := goodIn_r _ [65, 47, 51, 52, 53, 35, 54, 37, 166, 167, 168, 169] (by decide +kernel) (by decide +kernel)
set_option maxRecDepth 20000 in
theorem gX4_eventA_X0_time : GoodIn wsX4_eventA (wsV RX4 76 RX0 yX0_time wsX0_time) := goodIn_app (goodIn_of _ (by decide +kernel)) ggX4_eventA_X0_time
set_option maxRecDepth 20000 in
theorem ggX4_eventA_X0_value : GoodIn wsX4_eventA wsX0_value := goodIn_r _ [69, 70, 51, 52, 53, 35, 54, 37, 166, 167, 168, 169] (by decide +kernel) (by decide +kernel)
set_option maxRecDepth 20000 in
theorem gX4_eventA_X0_value : GoodIn wsX4_eventA (wsV RX4 80 RX0 yX0_value wsX0_value) := goodIn_app (goodIn_of _ (by decide +kernel)) ggX4_eventA_X0_value
set_option maxRecDepth 20000 in
theorem ggX4_eventA_X3_add : GoodIn wsX4_eventA wsX3_add := goodIn_r _ [74, 60, 75, 76, 77, 78, 58, 79, 80, 170, 171, 172] (by decide +kernel) (by decide +kernel)
set_option maxRecDepth 20000 in
theorem gX4_eventA_X3_add : GoodIn wsX4_eventA (wsV RX4 83 RX3 yX3_add wsX3_add) := goodIn_app (goodIn_of _ (by decide +kernel)) ggX4_eventA_X3_add
set_option maxRecDepth 20000 in
theorem ggX4_eventA_X0_add : GoodIn wsX4_eventA wsX0_add := goodIn_r _ [84, 37, 47, 46, 70, 166, 167, 168, 169] (by decide +kernel) (by decide +kernel)
set_option maxRecDepth 20000 in
theorem gX4_eventA_X0_add : GoodIn wsX4_eventA (wsV RX4 87 RX0 yX0_add wsX0_add) := goodIn_app (goodIn_of _ (by decide +kernel)) ggX4_eventA_X0_add
set_option maxRecDepth 20000 in
theorem ggX4_eventA_X4_gather : GoodIn wsX4_eventA wsX4_gather := goodIn_r _ [88, 89, 90, 91, 92, 93, 94, 95, 96, 97, 98, 99, 100, 8, 101, 102, 103, 104, 105, 106, 107, 108, 109, 110, 111, 112, 113, 114, 115, 116, 117, 118, 119, 120, 121, 122, 123, 124, 125, 126, 127, 128, 129, 130, 131, 132, 133, 134, 135, 136, 137, 138, 139, 140, 141, 142, 30, 143, 150, 151, 152, 153, 154, 155, 156, 157, 158, 159, 160, 161, 162, 163, 164, 165, 173, 174, 175, 176, 177, 178, 179] (by decide +kernel) (by decide +kernel)
set_option maxRecDepth 20000 in
theorem gX4_eventA_X4_gather : GoodIn wsX4_eventA (wsV RX4 90 RX4 yX4_gather wsX4_gather) := goodIn_app (goodIn_of _ (by decide +kernel)) ggX4_eventA_X4_gather
set_option maxRecDepth 20000 in
theorem ggX4_eventA_X4_countTaken : GoodIn wsX4_eventA wsX4_countTaken := goodIn_r _ [147, 148, 149, 150, 151, 152, 153, 154, 155, 156, 157, 158, 159, 160, 161, 162, 163, 164, 165] (by decide +kernel) (by decide +kernel)
set_option maxRecDepth 20000 in
theorem gX4_eventA_X4_countTaken : GoodIn wsX4_eventA (wsV RX4 93 RX4 yX4_countTaken wsX4_countTaken) := goodIn_app (goodIn_of _ (by decide +kernel)) ggX4_eventA_X4_countTaken
theorem dX4_eventA_0 : decode cX4_eventA 0 = .ok (.aload_n 0, 1) := by decide +kernel
theorem dX4_eventA_1 : decode cX4_eventA 1 = .ok (.aload_n 0, 1) := by decide +kernel
theorem dX4_eventA_2 : decode cX4_eventA 2 = .ok (.getfield 16, 3) := by decide +kernel
theorem dX4_eventA_5 : decode cX4_eventA 5 = .ok (.iload_n 1, 1) := by decide +kernel
theorem dX4_eventA_6 : decode cX4_eventA 6 = .ok (.iload_n 2, 1) := by decide +kernel
theorem dX4_eventA_7 : decode cX4_eventA 7 = .ok (.invokevirtual 64, 3) := by decide +kernel
theorem dX4_eventA_10 : decode cX4_eventA 10 = .ok (.istore 4, 2) := by decide +kernel
theorem dX4_eventA_12 : decode cX4_eventA 12 = .ok (.iload 4, 2) := by decide +kernel
theorem dX4_eventA_14 : decode cX4_eventA 14 = .ok (.ifCond .ge 6, 3) := by decide +kernel
theorem dX4_eventA_17 : decode cX4_eventA 17 = .ok (.iload 4, 2) := by decide +kernel
theorem dX4_eventA_19 : decode cX4_eventA 19 = .ok (.ireturn, 1) := by decide +kernel
theorem dX4_eventA_20 : decode cX4_eventA 20 = .ok (.iconst 0, 1) := by decide +kernel
theorem dX4_eventA_21 : decode cX4_eventA 21 = .ok (.istore 5, 2) := by decide +kernel
theorem dX4_eventA_23 : decode cX4_eventA 23 = .ok (.iload 5, 2) := by decide +kernel
theorem dX4_eventA_25 : decode cX4_eventA 25 = .ok (.aload_n 0, 1) := by decide +kernel
theorem dX4_eventA_26 : decode cX4_eventA 26 = .ok (.getfield 16, 3) := by decide +kernel
theorem dX4_eventA_29 : decode cX4_eventA 29 = .ok (.invokevirtual 68, 3) := by decide +kernel
theorem dX4_eventA_32 : decode cX4_eventA 32 = .ok (.if_icmp .ge 56, 3) := by decide +kernel
theorem dX4_eventA_35 : decode cX4_eventA 35 = .ok (.aload_n 0, 1) := by decide +kernel
theorem dX4_eventA_36 : decode cX4_eventA 36 = .ok (.getfield 16, 3) := by decide +kernel
theorem dX4_eventA_39 : decode cX4_eventA 39 = .ok (.iload 5, 2) := by decide +kernel
theorem dX4_eventA_41 : decode cX4_eventA 41 = .ok (.iload_n 1, 1) := by decide +kernel
theorem dX4_eventA_42 : decode cX4_eventA 42 = .ok (.iload_n 2, 1) := by decide +kernel
theorem dX4_eventA_43 : decode cX4_eventA 43 = .ok (.aload_n 0, 1) := by decide +kernel
theorem dX4_eventA_44 : decode cX4_eventA 44 = .ok (.getfield 43, 3) := by decide +kernel
theorem dX4_eventA_47 : decode cX4_eventA 47 = .ok (.invokevirtual 72, 3) := by decide +kernel
theorem dX4_eventA_50 : decode cX4_eventA 50 = .ok (.ifCond .eq 32, 3) := by decide +kernel
theorem dX4_eventA_53 : decode cX4_eventA 53 = .ok (.aload_n 0, 1) := by decide +kernel
theorem dX4_eventA_54 : decode cX4_eventA 54 = .ok (.getfield 29, 3) := by decide +kernel
theorem dX4_eventA_57 : decode cX4_eventA 57 = .ok (.iconst 2, 1) := by decide +kernel
theorem dX4_eventA_58 : decode cX4_eventA 58 = .ok (.iload_n 1, 1) := by decide +kernel
theorem dX4_eventA_59 : decode cX4_eventA 59 = .ok (.aload_n 0, 1) := by decide +kernel
theorem dX4_eventA_60 : decode cX4_eventA 60 = .ok (.getfield 16, 3) := by decide +kernel
theorem dX4_eventA_63 : decode cX4_eventA 63 = .ok (.iload 5, 2) := by decide +kernel
theorem dX4_eventA_65 : decode cX4_eventA 65 = .ok (.invokevirtual 76, 3) := by decide +kernel
theorem dX4_eventA_68 : decode cX4_eventA 68 = .ok (.iload_n 2, 1) := by decide +kernel
theorem dX4_eventA_69 : decode cX4_eventA 69 = .ok (.iload_n 3, 1) := by decide +kernel
theorem dX4_eventA_70 : decode cX4_eventA 70 = .ok (.aload_n 0, 1) := by decide +kernel
theorem dX4_eventA_71 : decode cX4_eventA 71 = .ok (.getfield 16, 3) := by decide +kernel
theorem dX4_eventA_74 : decode cX4_eventA 74 = .ok (.iload 5, 2) := by decide +kernel
theorem dX4_eventA_76 : decode cX4_eventA 76 = .ok (.invokevirtual 80, 3) := by decide +kernel
theorem dX4_eventA_79 : decode cX4_eventA 79 = .ok (.invokevirtual 83, 3) := by decide +kernel
theorem dX4_eventA_82 : decode cX4_eventA 82 = .ok (.iinc 5 1, 3) := by decide +kernel
theorem dX4_eventA_85 : decode cX4_eventA 85 = .ok (.goto (-62), 3) := by decide +kernel
theorem dX4_eventA_88 : decode cX4_eventA 88 = .ok (.aload_n 0, 1) := by decide +kernel
theorem dX4_eventA_89 : decode cX4_eventA 89 = .ok (.getfield 10, 3) := by decide +kernel
theorem dX4_eventA_92 : decode cX4_eventA 92 = .ok (.iload_n 1, 1) := by decide +kernel
theorem dX4_eventA_93 : decode cX4_eventA 93 = .ok (.iload_n 2, 1) := by decide +kernel
theorem dX4_eventA_94 : decode cX4_eventA 94 = .ok (.iload_n 3, 1) := by decide +kernel
theorem dX4_eventA_95 : decode cX4_eventA 95 = .ok (.invokevirtual 87, 3) := by decide +kernel
theorem dX4_eventA_98 : decode cX4_eventA 98 = .ok (.aload_n 0, 1) := by decide +kernel
theorem dX4_eventA_99 : decode cX4_eventA 99 = .ok (.iload_n 1, 1) := by decide +kernel
theorem dX4_eventA_100 : decode cX4_eventA 100 = .ok (.iload_n 2, 1) := by decide +kernel
theorem dX4_eventA_101 : decode cX4_eventA 101 = .ok (.iload_n 3, 1) := by decide +kernel
theorem dX4_eventA_102 : decode cX4_eventA 102 = .ok (.invokevirtual 90, 3) := by decide +kernel
theorem dX4_eventA_105 : decode cX4_eventA 105 = .ok (.aload_n 0, 1) := by decide +kernel
theorem dX4_eventA_106 : decode cX4_eventA 106 = .ok (.iload 4, 2) := by decide +kernel
theorem dX4_eventA_108 : decode cX4_eventA 108 = .ok (.invokevirtual 93, 3) := by decide +kernel
theorem dX4_eventA_111 : decode cX4_eventA 111 = .ok (.iload 4, 2) := by decide +kernel
theorem dX4_eventA_113 : decode cX4_eventA 113 = .ok (.ireturn, 1) := by decide +kernel
set_option maxRecDepth 20000 in
theorem ggX4_eventB_X4_admit : GoodIn wsX4_eventB wsX4_admit := goodIn_r _ [9, 10, 11, 1, 4, 12, 2, 3, 13, 14, 15, 8, 16, 17, 18, 19, 20, 21, 22, 23, 24, 25, 26, 27, 28, 29, 30, 31, 32, 33, 34, 35, 36, 37, 38, 39, 40, 41, 42, 43, 44, 45, 46, 47, 48, 49, 50, 51, 52, 53, 54, 55, 56, 57, 58, 59, 60, 91, 92, 93, 94, 95, 96, 97, 98, 99, 100, 101, 102, 103, 104, 105, 106, 107, 108, 109, 110, 111, 112, 113] (by decide +kernel) (by decide +kernel)
set_option maxRecDepth 20000 in
theorem gX4_eventB_X4_admit : GoodIn wsX4_eventB (wsV RX4 64 RX4 yX4_admit wsX4_admit) := goodIn_app (goodIn_of _ (by decide +kernel)) ggX4_eventB_X4_admit
set_option maxRecDepth 20000 in
theorem ggX4_eventB_X0_size : GoodIn wsX4_eventB wsX0_size := goodIn_r _ [36, 37, 107, 108, 109, 110] (by decide +kernel) (by decide +kernel)
set_option maxRecDepth 20000 in
theorem gX4_eventB_X0_size : GoodIn wsX4_eventB (wsV RX4 68 RX0 yX0_size wsX0_size) := goodIn_app (goodIn_of _ (by decide +kernel)) ggX4_eventB_X0_size
set_option maxRecDepth 20000 in
theorem ggX4_eventB_X0_isNear : GoodIn wsX4_eventB wsX0_isNear := goodIn_r _ [45, 46, 47, 48, 49, 30, 50, 51, 52, 53, 35, 54, 37, 107, 108, 109, 110] (by decide +kernel) (by decide +kernel)
set_option maxRecDepth 20000 in
theorem gX4_eventB_X0_isNear : GoodIn wsX4_eventB (wsV RX4 72 RX0 yX0_isNear wsX0_isNear) := goodIn_app (goodIn_of _ (by decide +kernel)) ggX4_eventB_X0_isNear
set_option maxRecDepth 20000 in
theorem ggX4_eventB_X0_time : GoodIn wsX4_eventB wsX0_time := goodIn_r _ [65, 47, 51, 52, 53, 35, 54, 37, 107, 108, 109, 110] (by decide +kernel) (by decide +kernel)
set_option maxRecDepth 20000 in
theorem gX4_eventB_X0_time : GoodIn wsX4_eventB (wsV RX4 76 RX0 yX0_time wsX0_time) := goodIn_app (goodIn_of _ (by decide +kernel)) ggX4_eventB_X0_time
set_option maxRecDepth 20000 in
theorem ggX4_eventB_X0_value : GoodIn wsX4_eventB wsX0_value := goodIn_r _ [69, 70, 51, 52, 53, 35, 54, 37, 107, 108, 109, 110] (by decide +kernel) (by decide +kernel)
set_option maxRecDepth 20000 in
theorem gX4_eventB_X0_value : GoodIn wsX4_eventB (wsV RX4 80 RX0 yX0_value wsX0_value) := goodIn_app (goodIn_of _ (by decide +kernel)) ggX4_eventB_X0_value
set_option maxRecDepth 20000 in
theorem ggX4_eventB_X3_add : GoodIn wsX4_eventB wsX3_add := goodIn_r _ [74, 60, 75, 76, 77, 78, 58, 79, 80, 111, 112, 113] (by decide +kernel) (by decide +kernel)
set_option maxRecDepth 20000 in
theorem gX4_eventB_X3_add : GoodIn wsX4_eventB (wsV RX4 83 RX3 yX3_add wsX3_add) := goodIn_app (goodIn_of _ (by decide +kernel)) ggX4_eventB_X3_add
set_option maxRecDepth 20000 in
theorem ggX4_eventB_X0_add : GoodIn wsX4_eventB wsX0_add := goodIn_r _ [84, 37, 47, 46, 70, 107, 108, 109, 110] (by decide +kernel) (by decide +kernel)
set_option maxRecDepth 20000 in
theorem gX4_eventB_X0_add : GoodIn wsX4_eventB (wsV RX4 87 RX0 yX0_add wsX0_add) := goodIn_app (goodIn_of _ (by decide +kernel)) ggX4_eventB_X0_add
set_option maxRecDepth 20000 in
theorem ggX4_eventB_X4_countTaken : GoodIn wsX4_eventB wsX4_countTaken := goodIn_r _ [88, 89, 90, 91, 92, 93, 94, 95, 96, 97, 98, 99, 100, 101, 102, 103, 104, 105, 106] (by decide +kernel) (by decide +kernel)
set_option maxRecDepth 20000 in
theorem gX4_eventB_X4_countTaken : GoodIn wsX4_eventB (wsV RX4 93 RX4 yX4_countTaken wsX4_countTaken) := goodIn_app (goodIn_of _ (by decide +kernel)) ggX4_eventB_X4_countTaken
theorem dX4_eventB_0 : decode cX4_eventB 0 = .ok (.aload_n 0, 1) := by decide +kernel
theorem dX4_eventB_1 : decode cX4_eventB 1 = .ok (.aload_n 0, 1) := by decide +kernel
theorem dX4_eventB_2 : decode cX4_eventB 2 = .ok (.getfield 10, 3) := by decide +kernel
theorem dX4_eventB_5 : decode cX4_eventB 5 = .ok (.iload_n 1, 1) := by decide +kernel
theorem dX4_eventB_6 : decode cX4_eventB 6 = .ok (.iload_n 2, 1) := by decide +kernel
theorem dX4_eventB_7 : decode cX4_eventB 7 = .ok (.invokevirtual 64, 3) := by decide +kernel
theorem dX4_eventB_10 : decode cX4_eventB 10 = .ok (.istore 4, 2) := by decide +kernel
theorem dX4_eventB_12 : decode cX4_eventB 12 = .ok (.iload 4, 2) := by decide +kernel
theorem dX4_eventB_14 : decode cX4_eventB 14 = .ok (.ifCond .ge 6, 3) := by decide +kernel
theorem dX4_eventB_17 : decode cX4_eventB 17 = .ok (.iload 4, 2) := by decide +kernel
theorem dX4_eventB_19 : decode cX4_eventB 19 = .ok (.ireturn, 1) := by decide +kernel
theorem dX4_eventB_20 : decode cX4_eventB 20 = .ok (.iconst 0, 1) := by decide +kernel
theorem dX4_eventB_21 : decode cX4_eventB 21 = .ok (.istore 5, 2) := by decide +kernel
theorem dX4_eventB_23 : decode cX4_eventB 23 = .ok (.iload 5, 2) := by decide +kernel
theorem dX4_eventB_25 : decode cX4_eventB 25 = .ok (.aload_n 0, 1) := by decide +kernel
theorem dX4_eventB_26 : decode cX4_eventB 26 = .ok (.getfield 10, 3) := by decide +kernel
theorem dX4_eventB_29 : decode cX4_eventB 29 = .ok (.invokevirtual 68, 3) := by decide +kernel
theorem dX4_eventB_32 : decode cX4_eventB 32 = .ok (.if_icmp .ge 56, 3) := by decide +kernel
theorem dX4_eventB_35 : decode cX4_eventB 35 = .ok (.aload_n 0, 1) := by decide +kernel
theorem dX4_eventB_36 : decode cX4_eventB 36 = .ok (.getfield 10, 3) := by decide +kernel
theorem dX4_eventB_39 : decode cX4_eventB 39 = .ok (.iload 5, 2) := by decide +kernel
theorem dX4_eventB_41 : decode cX4_eventB 41 = .ok (.iload_n 1, 1) := by decide +kernel
theorem dX4_eventB_42 : decode cX4_eventB 42 = .ok (.iload_n 2, 1) := by decide +kernel
theorem dX4_eventB_43 : decode cX4_eventB 43 = .ok (.aload_n 0, 1) := by decide +kernel
theorem dX4_eventB_44 : decode cX4_eventB 44 = .ok (.getfield 43, 3) := by decide +kernel
theorem dX4_eventB_47 : decode cX4_eventB 47 = .ok (.invokevirtual 72, 3) := by decide +kernel
theorem dX4_eventB_50 : decode cX4_eventB 50 = .ok (.ifCond .eq 32, 3) := by decide +kernel
theorem dX4_eventB_53 : decode cX4_eventB 53 = .ok (.aload_n 0, 1) := by decide +kernel
theorem dX4_eventB_54 : decode cX4_eventB 54 = .ok (.getfield 29, 3) := by decide +kernel
theorem dX4_eventB_57 : decode cX4_eventB 57 = .ok (.iconst 2, 1) := by decide +kernel
theorem dX4_eventB_58 : decode cX4_eventB 58 = .ok (.aload_n 0, 1) := by decide +kernel
theorem dX4_eventB_59 : decode cX4_eventB 59 = .ok (.getfield 10, 3) := by decide +kernel
theorem dX4_eventB_62 : decode cX4_eventB 62 = .ok (.iload 5, 2) := by decide +kernel
theorem dX4_eventB_64 : decode cX4_eventB 64 = .ok (.invokevirtual 76, 3) := by decide +kernel
theorem dX4_eventB_67 : decode cX4_eventB 67 = .ok (.iload_n 1, 1) := by decide +kernel
theorem dX4_eventB_68 : decode cX4_eventB 68 = .ok (.iload_n 2, 1) := by decide +kernel
theorem dX4_eventB_69 : decode cX4_eventB 69 = .ok (.aload_n 0, 1) := by decide +kernel
theorem dX4_eventB_70 : decode cX4_eventB 70 = .ok (.getfield 10, 3) := by decide +kernel
theorem dX4_eventB_73 : decode cX4_eventB 73 = .ok (.iload 5, 2) := by decide +kernel
theorem dX4_eventB_75 : decode cX4_eventB 75 = .ok (.invokevirtual 80, 3) := by decide +kernel
theorem dX4_eventB_78 : decode cX4_eventB 78 = .ok (.iload_n 3, 1) := by decide +kernel
theorem dX4_eventB_79 : decode cX4_eventB 79 = .ok (.invokevirtual 83, 3) := by decide +kernel
theorem dX4_eventB_82 : decode cX4_eventB 82 = .ok (.iinc 5 1, 3) := by decide +kernel
theorem dX4_eventB_85 : decode cX4_eventB 85 = .ok (.goto (-62), 3) := by decide +kernel
theorem dX4_eventB_88 : decode cX4_eventB 88 = .ok (.aload_n 0, 1) := by decide +kernel
theorem dX4_eventB_89 : decode cX4_eventB 89 = .ok (.getfield 16, 3) := by decide +kernel
theorem dX4_eventB_92 : decode cX4_eventB 92 = .ok (.iload_n 1, 1) := by decide +kernel
theorem dX4_eventB_93 : decode cX4_eventB 93 = .ok (.iload_n 2, 1) := by decide +kernel
theorem dX4_eventB_94 : decode cX4_eventB 94 = .ok (.iload_n 3, 1) := by decide +kernel
theorem dX4_eventB_95 : decode cX4_eventB 95 = .ok (.invokevirtual 87, 3) := by decide +kernel
theorem dX4_eventB_98 : decode cX4_eventB 98 = .ok (.aload_n 0, 1) := by decide +kernel
theorem dX4_eventB_99 : decode cX4_eventB 99 = .ok (.iload 4, 2) := by decide +kernel
theorem dX4_eventB_101 : decode cX4_eventB 101 = .ok (.invokevirtual 93, 3) := by decide +kernel
theorem dX4_eventB_104 : decode cX4_eventB 104 = .ok (.iload 4, 2) := by decide +kernel
theorem dX4_eventB_106 : decode cX4_eventB 106 = .ok (.ireturn, 1) := by decide +kernel
set_option maxRecDepth 20000 in
theorem ggX4_markA_X4_refusalOfMark : GoodIn wsX4_markA wsX4_refusalOfMark := goodIn_r _ [10, 11, 12, 9, 13, 14, 15, 16, 17, 18] (by decide +kernel) (by decide +kernel)
set_option maxRecDepth 20000 in
theorem gX4_markA_X4_refusalOfMark : GoodIn wsX4_markA (va_wsS RX4 100 yX4_refusalOfMark wsX4_refusalOfMark) := goodIn_app (goodIn_of _ (by decide +kernel)) ggX4_markA_X4_refusalOfMark
set_option maxRecDepth 20000 in
theorem ggX4_markA_X4_tellWindows : GoodIn wsX4_markA wsX4_tellWindows := goodIn_r _ [22, 23, 24, 25, 26, 27, 28, 29, 30, 31, 32, 33, 34, 35, 36, 37, 38, 39, 40, 41, 42, 43, 44, 45, 46, 47, 48, 49, 50, 51, 52, 53, 54, 55, 56, 57, 92, 93, 94, 95, 96, 97, 98, 99, 100, 101, 102, 103, 104, 105, 106, 107, 108, 109, 110, 111, 112, 113, 114, 115, 116, 117] (by decide +kernel) (by decide +kernel)
set_option maxRecDepth 20000 in
theorem gX4_markA_X4_tellWindows : GoodIn wsX4_markA (wsV RX4 112 RX4 yX4_tellWindows wsX4_tellWindows) := goodIn_app (goodIn_of _ (by decide +kernel)) ggX4_markA_X4_tellWindows
set_option maxRecDepth 20000 in
theorem ggX4_markA_X4_dropEvents : GoodIn wsX4_markA wsX4_dropEvents := goodIn_r _ [61, 23, 62, 63, 64, 3, 4, 5, 6, 65, 66, 67, 68, 9, 69, 1, 2, 70, 71, 72, 73, 74, 75, 76, 77, 78, 79, 80, 81, 82, 83, 84, 85, 86, 87, 88, 89, 90, 91, 92, 93, 94, 95, 96, 97, 98, 99, 100, 101, 102, 103, 104, 105, 106, 107, 118, 119, 120, 121] (by decide +kernel) (by decide +kernel)
set_option maxRecDepth 20000 in
theorem gX4_markA_X4_dropEvents : GoodIn wsX4_markA (wsV RX4 115 RX4 yX4_dropEvents wsX4_dropEvents) := goodIn_app (goodIn_of _ (by decide +kernel)) ggX4_markA_X4_dropEvents
theorem dX4_markA_0 : decode cX4_markA 0 = .ok (.iload_n 1, 1) := by decide +kernel
theorem dX4_markA_1 : decode cX4_markA 1 = .ok (.aload_n 0, 1) := by decide +kernel
theorem dX4_markA_2 : decode cX4_markA 2 = .ok (.getfield 97, 3) := by decide +kernel
theorem dX4_markA_5 : decode cX4_markA 5 = .ok (.invokestatic 100, 3) := by decide +kernel
theorem dX4_markA_8 : decode cX4_markA 8 = .ok (.istore_n 2, 1) := by decide +kernel
theorem dX4_markA_9 : decode cX4_markA 9 = .ok (.iload_n 2, 1) := by decide +kernel
theorem dX4_markA_10 : decode cX4_markA 10 = .ok (.ifCond .eq 5, 3) := by decide +kernel
theorem dX4_markA_13 : decode cX4_markA 13 = .ok (.iload_n 2, 1) := by decide +kernel
theorem dX4_markA_14 : decode cX4_markA 14 = .ok (.ireturn, 1) := by decide +kernel
theorem dX4_markA_15 : decode cX4_markA 15 = .ok (.aload_n 0, 1) := by decide +kernel
theorem dX4_markA_16 : decode cX4_markA 16 = .ok (.iload_n 1, 1) := by decide +kernel
theorem dX4_markA_17 : decode cX4_markA 17 = .ok (.aload_n 0, 1) := by decide +kernel
theorem dX4_markA_18 : decode cX4_markA 18 = .ok (.getfield 104, 3) := by decide +kernel
theorem dX4_markA_21 : decode cX4_markA 21 = .ok (.invokestatic 107, 3) := by decide +kernel
theorem dX4_markA_24 : decode cX4_markA 24 = .ok (.invokevirtual 112, 3) := by decide +kernel
theorem dX4_markA_27 : decode cX4_markA 27 = .ok (.istore_n 3, 1) := by decide +kernel
theorem dX4_markA_28 : decode cX4_markA 28 = .ok (.iload_n 3, 1) := by decide +kernel
theorem dX4_markA_29 : decode cX4_markA 29 = .ok (.bipush (-3), 2) := by decide +kernel
theorem dX4_markA_31 : decode cX4_markA 31 = .ok (.if_icmp .ne 6, 3) := by decide +kernel
theorem dX4_markA_34 : decode cX4_markA 34 = .ok (.bipush (-3), 2) := by decide +kernel
theorem dX4_markA_36 : decode cX4_markA 36 = .ok (.ireturn, 1) := by decide +kernel
theorem dX4_markA_37 : decode cX4_markA 37 = .ok (.aload_n 0, 1) := by decide +kernel
theorem dX4_markA_38 : decode cX4_markA 38 = .ok (.iload_n 1, 1) := by decide +kernel
theorem dX4_markA_39 : decode cX4_markA 39 = .ok (.putfield 97, 3) := by decide +kernel
theorem dX4_markA_42 : decode cX4_markA 42 = .ok (.aload_n 0, 1) := by decide +kernel
theorem dX4_markA_43 : decode cX4_markA 43 = .ok (.invokevirtual 115, 3) := by decide +kernel
theorem dX4_markA_46 : decode cX4_markA 46 = .ok (.iload_n 3, 1) := by decide +kernel
theorem dX4_markA_47 : decode cX4_markA 47 = .ok (.ireturn, 1) := by decide +kernel
set_option maxRecDepth 20000 in
theorem ggX4_markB_X4_refusalOfMark : GoodIn wsX4_markB wsX4_refusalOfMark := goodIn_r _ [10, 11, 12, 9, 13, 14, 15, 16, 17, 18] (by decide +kernel) (by decide +kernel)
set_option maxRecDepth 20000 in
theorem gX4_markB_X4_refusalOfMark : GoodIn wsX4_markB (va_wsS RX4 100 yX4_refusalOfMark wsX4_refusalOfMark) := goodIn_app (goodIn_of _ (by decide +kernel)) ggX4_markB_X4_refusalOfMark
set_option maxRecDepth 20000 in
theorem ggX4_markB_X4_tellWindows : GoodIn wsX4_markB wsX4_tellWindows := goodIn_r _ [22, 23, 24, 25, 26, 27, 28, 29, 30, 31, 32, 33, 34, 35, 36, 37, 38, 39, 40, 41, 42, 43, 44, 45, 46, 47, 48, 49, 50, 51, 52, 53, 54, 55, 56, 57, 92, 93, 94, 95, 96, 97, 98, 99, 100, 101, 102, 103, 104, 105, 106, 107, 108, 109, 110, 111, 112, 113, 114, 115, 116, 117] (by decide +kernel) (by decide +kernel)
set_option maxRecDepth 20000 in
theorem gX4_markB_X4_tellWindows : GoodIn wsX4_markB (wsV RX4 112 RX4 yX4_tellWindows wsX4_tellWindows) := goodIn_app (goodIn_of _ (by decide +kernel)) ggX4_markB_X4_tellWindows
set_option maxRecDepth 20000 in
theorem ggX4_markB_X4_dropEvents : GoodIn wsX4_markB wsX4_dropEvents := goodIn_r _ [61, 23, 62, 63, 64, 3, 4, 5, 6, 65, 66, 67, 68, 9, 69, 2, 1, 70, 71, 72, 73, 74, 75, 76, 77, 78, 79, 80, 81, 82, 83, 84, 85, 86, 87, 88, 89, 90, 91, 92, 93, 94, 95, 96, 97, 98, 99, 100, 101, 102, 103, 104, 105, 106, 107, 118, 119, 120, 121] (by decide +kernel) (by decide +kernel)
set_option maxRecDepth 20000 in
theorem gX4_markB_X4_dropEvents : GoodIn wsX4_markB (wsV RX4 115 RX4 yX4_dropEvents wsX4_dropEvents) := goodIn_app (goodIn_of _ (by decide +kernel)) ggX4_markB_X4_dropEvents
theorem dX4_markB_0 : decode cX4_markB 0 = .ok (.iload_n 1, 1) := by decide +kernel
theorem dX4_markB_1 : decode cX4_markB 1 = .ok (.aload_n 0, 1) := by decide +kernel
theorem dX4_markB_2 : decode cX4_markB 2 = .ok (.getfield 104, 3) := by decide +kernel
theorem dX4_markB_5 : decode cX4_markB 5 = .ok (.invokestatic 100, 3) := by decide +kernel
theorem dX4_markB_8 : decode cX4_markB 8 = .ok (.istore_n 2, 1) := by decide +kernel
theorem dX4_markB_9 : decode cX4_markB 9 = .ok (.iload_n 2, 1) := by decide +kernel
theorem dX4_markB_10 : decode cX4_markB 10 = .ok (.ifCond .eq 5, 3) := by decide +kernel
theorem dX4_markB_13 : decode cX4_markB 13 = .ok (.iload_n 2, 1) := by decide +kernel
theorem dX4_markB_14 : decode cX4_markB 14 = .ok (.ireturn, 1) := by decide +kernel
theorem dX4_markB_15 : decode cX4_markB 15 = .ok (.aload_n 0, 1) := by decide +kernel
theorem dX4_markB_16 : decode cX4_markB 16 = .ok (.aload_n 0, 1) := by decide +kernel
theorem dX4_markB_17 : decode cX4_markB 17 = .ok (.getfield 97, 3) := by decide +kernel
theorem dX4_markB_20 : decode cX4_markB 20 = .ok (.iload_n 1, 1) := by decide +kernel
theorem dX4_markB_21 : decode cX4_markB 21 = .ok (.invokestatic 107, 3) := by decide +kernel
theorem dX4_markB_24 : decode cX4_markB 24 = .ok (.invokevirtual 112, 3) := by decide +kernel
theorem dX4_markB_27 : decode cX4_markB 27 = .ok (.istore_n 3, 1) := by decide +kernel
theorem dX4_markB_28 : decode cX4_markB 28 = .ok (.iload_n 3, 1) := by decide +kernel
theorem dX4_markB_29 : decode cX4_markB 29 = .ok (.bipush (-3), 2) := by decide +kernel
theorem dX4_markB_31 : decode cX4_markB 31 = .ok (.if_icmp .ne 6, 3) := by decide +kernel
theorem dX4_markB_34 : decode cX4_markB 34 = .ok (.bipush (-3), 2) := by decide +kernel
theorem dX4_markB_36 : decode cX4_markB 36 = .ok (.ireturn, 1) := by decide +kernel
theorem dX4_markB_37 : decode cX4_markB 37 = .ok (.aload_n 0, 1) := by decide +kernel
theorem dX4_markB_38 : decode cX4_markB 38 = .ok (.iload_n 1, 1) := by decide +kernel
theorem dX4_markB_39 : decode cX4_markB 39 = .ok (.putfield 104, 3) := by decide +kernel
theorem dX4_markB_42 : decode cX4_markB 42 = .ok (.aload_n 0, 1) := by decide +kernel
theorem dX4_markB_43 : decode cX4_markB 43 = .ok (.invokevirtual 115, 3) := by decide +kernel
theorem dX4_markB_46 : decode cX4_markB 46 = .ok (.iload_n 3, 1) := by decide +kernel
theorem dX4_markB_47 : decode cX4_markB 47 = .ok (.ireturn, 1) := by decide +kernel
theorem dX4_mark_0 : decode cX4_mark 0 = .ok (.aload_n 0, 1) := by decide +kernel
theorem dX4_mark_1 : decode cX4_mark 1 = .ok (.getfield 97, 3) := by decide +kernel
theorem dX4_mark_4 : decode cX4_mark 4 = .ok (.aload_n 0, 1) := by decide +kernel
theorem dX4_mark_5 : decode cX4_mark 5 = .ok (.getfield 104, 3) := by decide +kernel
theorem dX4_mark_8 : decode cX4_mark 8 = .ok (.invokestatic 107, 3) := by decide +kernel
theorem dX4_mark_11 : decode cX4_mark 11 = .ok (.ireturn, 1) := by decide +kernel
set_option maxRecDepth 20000 in
theorem ggX4_available_X3_size : GoodIn wsX4_available wsX3_size := goodIn_r _ [6, 7, 24, 25, 26] (by decide +kernel) (by decide +kernel)
set_option maxRecDepth 20000 in
theorem gX4_available_X3_size : GoodIn wsX4_available (wsV RX4 118 RX3 yX3_size wsX3_size) := goodIn_app (goodIn_of _ (by decide +kernel)) ggX4_available_X3_size
theorem dX4_available_0 : decode cX4_available 0 = .ok (.aload_n 0, 1) := by decide +kernel
theorem dX4_available_1 : decode cX4_available 1 = .ok (.getfield 29, 3) := by decide +kernel
theorem dX4_available_4 : decode cX4_available 4 = .ok (.invokevirtual 118, 3) := by decide +kernel
theorem dX4_available_7 : decode cX4_available 7 = .ok (.ireturn, 1) := by decide +kernel
set_option maxRecDepth 20000 in
theorem ggX4_kind_X3_cell : GoodIn wsX4_kind wsX3_cell := goodIn_r _ [6, 7, 8, 9, 10, 11, 12, 13, 14, 5, 15, 16, 33, 34, 35] (by decide +kernel) (by decide +kernel)
set_option maxRecDepth 20000 in
theorem gX4_kind_X3_cell : GoodIn wsX4_kind (wsV RX4 119 RX3 yX3_cell wsX3_cell) := goodIn_app (goodIn_of _ (by decide +kernel)) ggX4_kind_X3_cell
theorem dX4_kind_0 : decode cX4_kind 0 = .ok (.aload_n 0, 1) := by decide +kernel
theorem dX4_kind_1 : decode cX4_kind 1 = .ok (.getfield 29, 3) := by decide +kernel
theorem dX4_kind_4 : decode cX4_kind 4 = .ok (.iload_n 1, 1) := by decide +kernel
theorem dX4_kind_5 : decode cX4_kind 5 = .ok (.iconst 0, 1) := by decide +kernel
theorem dX4_kind_6 : decode cX4_kind 6 = .ok (.invokevirtual 119, 3) := by decide +kernel
theorem dX4_kind_9 : decode cX4_kind 9 = .ok (.ireturn, 1) := by decide +kernel
set_option maxRecDepth 20000 in
theorem ggX4_field_X4_isWithin : GoodIn wsX4_field wsX4_isWithin := goodIn_r _ [5] (by decide +kernel) (by decide +kernel)
set_option maxRecDepth 20000 in
theorem gX4_field_X4_isWithin : GoodIn wsX4_field (va_wsS RX4 60 yX4_isWithin wsX4_isWithin) := goodIn_app (goodIn_of _ (by decide +kernel)) ggX4_field_X4_isWithin
set_option maxRecDepth 20000 in
theorem ggX4_field_X3_cell : GoodIn wsX4_field wsX3_cell := goodIn_r _ [10, 11, 12, 3, 4, 5, 13, 14, 15, 9, 16, 17, 34, 35, 36] (by decide +kernel) (by decide +kernel)
set_option maxRecDepth 20000 in
theorem gX4_field_X3_cell : GoodIn wsX4_field (wsV RX4 119 RX3 yX3_cell wsX3_cell) := goodIn_app (goodIn_of _ (by decide +kernel)) ggX4_field_X3_cell
theorem dX4_field_0 : decode cX4_field 0 = .ok (.iload_n 2, 1) := by decide +kernel
theorem dX4_field_1 : decode cX4_field 1 = .ok (.iconst 0, 1) := by decide +kernel
theorem dX4_field_2 : decode cX4_field 2 = .ok (.iconst 4, 1) := by decide +kernel
theorem dX4_field_3 : decode cX4_field 3 = .ok (.invokestatic 60, 3) := by decide +kernel
theorem dX4_field_6 : decode cX4_field 6 = .ok (.ifCond .eq 17, 3) := by decide +kernel
theorem dX4_field_9 : decode cX4_field 9 = .ok (.aload_n 0, 1) := by decide +kernel
theorem dX4_field_10 : decode cX4_field 10 = .ok (.getfield 29, 3) := by decide +kernel
theorem dX4_field_13 : decode cX4_field 13 = .ok (.iload_n 1, 1) := by decide +kernel
theorem dX4_field_14 : decode cX4_field 14 = .ok (.iload_n 2, 1) := by decide +kernel
theorem dX4_field_15 : decode cX4_field 15 = .ok (.iconst 1, 1) := by decide +kernel
theorem dX4_field_16 : decode cX4_field 16 = .ok (.iadd, 1) := by decide +kernel
theorem dX4_field_17 : decode cX4_field 17 = .ok (.invokevirtual 119, 3) := by decide +kernel
theorem dX4_field_20 : decode cX4_field 20 = .ok (.goto 4, 3) := by decide +kernel
theorem dX4_field_23 : decode cX4_field 23 = .ok (.iconst 0, 1) := by decide +kernel
theorem dX4_field_24 : decode cX4_field 24 = .ok (.ireturn, 1) := by decide +kernel
set_option maxRecDepth 20000 in
theorem ggX4_pop_X3_dropFirst : GoodIn wsX4_pop wsX3_dropFirst := goodIn_r _ [6, 7, 8, 25, 26, 27] (by decide +kernel) (by decide +kernel)
set_option maxRecDepth 20000 in
theorem gX4_pop_X3_dropFirst : GoodIn wsX4_pop (wsV RX4 122 RX3 yX3_dropFirst wsX3_dropFirst) := goodIn_app (goodIn_of _ (by decide +kernel)) ggX4_pop_X3_dropFirst
theorem dX4_pop_0 : decode cX4_pop 0 = .ok (.aload_n 0, 1) := by decide +kernel
theorem dX4_pop_1 : decode cX4_pop 1 = .ok (.getfield 29, 3) := by decide +kernel
theorem dX4_pop_4 : decode cX4_pop 4 = .ok (.invokevirtual 122, 3) := by decide +kernel
theorem dX4_pop_7 : decode cX4_pop 7 = .ok (.ireturn, 1) := by decide +kernel
set_option maxRecDepth 20000 in
theorem ggX4_look_X2_find : GoodIn wsX4_look wsX2_find := goodIn_r _ [6, 7, 8, 9, 5, 10, 11, 12, 13, 14, 15, 16, 17, 18, 19, 20, 21, 44, 38, 39, 40, 41, 42, 43] (by decide +kernel) (by decide +kernel)
set_option maxRecDepth 20000 in
theorem gX4_look_X2_find : GoodIn wsX4_look (wsV RX4 126 RX2 yX2_find wsX2_find) := goodIn_app (goodIn_of _ (by decide +kernel)) ggX4_look_X2_find
theorem dX4_look_0 : decode cX4_look 0 = .ok (.aload_n 0, 1) := by decide +kernel
theorem dX4_look_1 : decode cX4_look 1 = .ok (.getfield 22, 3) := by decide +kernel
theorem dX4_look_4 : decode cX4_look 4 = .ok (.iload_n 1, 1) := by decide +kernel
theorem dX4_look_5 : decode cX4_look 5 = .ok (.iload_n 2, 1) := by decide +kernel
theorem dX4_look_6 : decode cX4_look 6 = .ok (.invokevirtual 126, 3) := by decide +kernel
theorem dX4_look_9 : decode cX4_look 9 = .ok (.astore 4, 2) := by decide +kernel
theorem dX4_look_11 : decode cX4_look 11 = .ok (.aload 4, 2) := by decide +kernel
theorem dX4_look_13 : decode cX4_look 13 = .ok (.ifnonnull 5, 3) := by decide +kernel
theorem dX4_look_16 : decode cX4_look 16 = .ok (.iconst 0, 1) := by decide +kernel
theorem dX4_look_17 : decode cX4_look 17 = .ok (.ireturn, 1) := by decide +kernel
theorem dX4_look_18 : decode cX4_look 18 = .ok (.iload_n 3, 1) := by decide +kernel
theorem dX4_look_19 : decode cX4_look 19 = .ok (.tableswitch 43 0 2 #[25, 31, 37], 25) := by decide +kernel
theorem dX4_look_44 : decode cX4_look 44 = .ok (.aload 4, 2) := by decide +kernel
theorem dX4_look_46 : decode cX4_look 46 = .ok (.getfield 130, 3) := by decide +kernel
theorem dX4_look_49 : decode cX4_look 49 = .ok (.ireturn, 1) := by decide +kernel
theorem dX4_look_50 : decode cX4_look 50 = .ok (.aload 4, 2) := by decide +kernel
theorem dX4_look_52 : decode cX4_look 52 = .ok (.getfield 135, 3) := by decide +kernel
theorem dX4_look_55 : decode cX4_look 55 = .ok (.ireturn, 1) := by decide +kernel
theorem dX4_look_56 : decode cX4_look 56 = .ok (.aload 4, 2) := by decide +kernel
theorem dX4_look_58 : decode cX4_look 58 = .ok (.getfield 138, 3) := by decide +kernel
theorem dX4_look_61 : decode cX4_look 61 = .ok (.ireturn, 1) := by decide +kernel
theorem dX4_look_62 : decode cX4_look 62 = .ok (.iconst 0, 1) := by decide +kernel
theorem dX4_look_63 : decode cX4_look 63 = .ok (.ireturn, 1) := by decide +kernel
set_option maxRecDepth 20000 in
theorem ggX4_event_X4_isWithin : GoodIn wsX4_event wsX4_isWithin := goodIn_r _ [6] (by decide +kernel) (by decide +kernel)
set_option maxRecDepth 20000 in
theorem gX4_event_X4_isWithin : GoodIn wsX4_event (va_wsS RX4 60 yX4_isWithin wsX4_isWithin) := goodIn_app (goodIn_of _ (by decide +kernel)) ggX4_event_X4_isWithin
set_option maxRecDepth 20000 in
theorem ggX4_event_X0_time : GoodIn wsX4_event wsX0_time := goodIn_r _ [11, 12, 13, 14, 15, 10, 16, 17, 44, 45, 46, 47] (by decide +kernel) (by decide +kernel)
set_option maxRecDepth 20000 in
theorem gX4_event_X0_time : GoodIn wsX4_event (wsV RX4 76 RX0 yX0_time wsX0_time) := goodIn_app (goodIn_of _ (by decide +kernel)) ggX4_event_X0_time
set_option maxRecDepth 20000 in
theorem ggX4_event_X0_key : GoodIn wsX4_event wsX0_key := goodIn_r _ [21, 22, 13, 14, 15, 10, 16, 17, 44, 45, 46, 47] (by decide +kernel) (by decide +kernel)
set_option maxRecDepth 20000 in
theorem gX4_event_X0_key : GoodIn wsX4_event (wsV RX4 141 RX0 yX0_key wsX0_key) := goodIn_app (goodIn_of _ (by decide +kernel)) ggX4_event_X0_key
set_option maxRecDepth 20000 in
theorem ggX4_event_X0_value : GoodIn wsX4_event wsX0_value := goodIn_r _ [26, 27, 13, 14, 15, 10, 16, 17, 44, 45, 46, 47] (by decide +kernel) (by decide +kernel)
set_option maxRecDepth 20000 in
theorem gX4_event_X0_value : GoodIn wsX4_event (wsV RX4 80 RX0 yX0_value wsX0_value) := goodIn_app (goodIn_of _ (by decide +kernel)) ggX4_event_X0_value
theorem dX4_event_0 : decode cX4_event 0 = .ok (.iload_n 1, 1) := by decide +kernel
theorem dX4_event_1 : decode cX4_event 1 = .ok (.iconst 0, 1) := by decide +kernel
theorem dX4_event_2 : decode cX4_event 2 = .ok (.iconst 1, 1) := by decide +kernel
theorem dX4_event_3 : decode cX4_event 3 = .ok (.invokestatic 60, 3) := by decide +kernel
theorem dX4_event_6 : decode cX4_event 6 = .ok (.ifCond .ne 5, 3) := by decide +kernel
theorem dX4_event_9 : decode cX4_event 9 = .ok (.iconst 0, 1) := by decide +kernel
theorem dX4_event_10 : decode cX4_event 10 = .ok (.ireturn, 1) := by decide +kernel
theorem dX4_event_11 : decode cX4_event 11 = .ok (.iload_n 1, 1) := by decide +kernel
theorem dX4_event_12 : decode cX4_event 12 = .ok (.ifCond .ne 10, 3) := by decide +kernel
theorem dX4_event_15 : decode cX4_event 15 = .ok (.aload_n 0, 1) := by decide +kernel
theorem dX4_event_16 : decode cX4_event 16 = .ok (.getfield 10, 3) := by decide +kernel
theorem dX4_event_19 : decode cX4_event 19 = .ok (.goto 7, 3) := by decide +kernel
theorem dX4_event_22 : decode cX4_event 22 = .ok (.aload_n 0, 1) := by decide +kernel
theorem dX4_event_23 : decode cX4_event 23 = .ok (.getfield 16, 3) := by decide +kernel
theorem dX4_event_26 : decode cX4_event 26 = .ok (.astore 4, 2) := by decide +kernel
theorem dX4_event_28 : decode cX4_event 28 = .ok (.iload_n 3, 1) := by decide +kernel
theorem dX4_event_29 : decode cX4_event 29 = .ok (.tableswitch 48 0 2 #[27, 34, 41], 27) := by decide +kernel
theorem dX4_event_56 : decode cX4_event 56 = .ok (.aload 4, 2) := by decide +kernel
theorem dX4_event_58 : decode cX4_event 58 = .ok (.iload_n 2, 1) := by decide +kernel
theorem dX4_event_59 : decode cX4_event 59 = .ok (.invokevirtual 76, 3) := by decide +kernel
theorem dX4_event_62 : decode cX4_event 62 = .ok (.ireturn, 1) := by decide +kernel
theorem dX4_event_63 : decode cX4_event 63 = .ok (.aload 4, 2) := by decide +kernel
theorem dX4_event_65 : decode cX4_event 65 = .ok (.iload_n 2, 1) := by decide +kernel
theorem dX4_event_66 : decode cX4_event 66 = .ok (.invokevirtual 141, 3) := by decide +kernel
theorem dX4_event_69 : decode cX4_event 69 = .ok (.ireturn, 1) := by decide +kernel
theorem dX4_event_70 : decode cX4_event 70 = .ok (.aload 4, 2) := by decide +kernel
theorem dX4_event_72 : decode cX4_event 72 = .ok (.iload_n 2, 1) := by decide +kernel
theorem dX4_event_73 : decode cX4_event 73 = .ok (.invokevirtual 80, 3) := by decide +kernel
theorem dX4_event_76 : decode cX4_event 76 = .ok (.ireturn, 1) := by decide +kernel
theorem dX4_event_77 : decode cX4_event 77 = .ok (.iconst 0, 1) := by decide +kernel
theorem dX4_event_78 : decode cX4_event 78 = .ok (.ireturn, 1) := by decide +kernel
set_option maxRecDepth 20000 in
theorem ggX4_count_X0_size : GoodIn wsX4_count wsX0_size := goodIn_r _ [15, 16, 39, 40, 41, 42] (by decide +kernel) (by decide +kernel)
set_option maxRecDepth 20000 in
theorem gX4_count_X0_size : GoodIn wsX4_count (wsV RX4 68 RX0 yX0_size wsX0_size) := goodIn_app (goodIn_of _ (by decide +kernel)) ggX4_count_X0_size
set_option maxRecDepth 20000 in
theorem ggX4_count_X2_windowsUpTo : GoodIn wsX4_count wsX2_windowsUpTo := goodIn_r _ [21, 22, 43, 44, 45, 46, 47, 48, 49] (by decide +kernel) (by decide +kernel)
set_option maxRecDepth 20000 in
theorem gX4_count_X2_windowsUpTo : GoodIn wsX4_count (wsV RX4 150 RX2 yX2_windowsUpTo wsX2_windowsUpTo) := goodIn_app (goodIn_of _ (by decide +kernel)) ggX4_count_X2_windowsUpTo
theorem dX4_count_0 : decode cX4_count 0 = .ok (.iload_n 1, 1) := by decide +kernel
theorem dX4_count_1 : decode cX4_count 1 = .ok (.tableswitch 107 0 8 #[51, 59, 67, 72, 77, 82, 92, 97, 102], 51) := by decide +kernel
theorem dX4_count_52 : decode cX4_count 52 = .ok (.aload_n 0, 1) := by decide +kernel
theorem dX4_count_53 : decode cX4_count 53 = .ok (.getfield 10, 3) := by decide +kernel
theorem dX4_count_56 : decode cX4_count 56 = .ok (.invokevirtual 68, 3) := by decide +kernel
theorem dX4_count_59 : decode cX4_count 59 = .ok (.ireturn, 1) := by decide +kernel
theorem dX4_count_60 : decode cX4_count 60 = .ok (.aload_n 0, 1) := by decide +kernel
theorem dX4_count_61 : decode cX4_count 61 = .ok (.getfield 16, 3) := by decide +kernel
theorem dX4_count_64 : decode cX4_count 64 = .ok (.invokevirtual 68, 3) := by decide +kernel
theorem dX4_count_67 : decode cX4_count 67 = .ok (.ireturn, 1) := by decide +kernel
theorem dX4_count_68 : decode cX4_count 68 = .ok (.aload_n 0, 1) := by decide +kernel
theorem dX4_count_69 : decode cX4_count 69 = .ok (.getfield 144, 3) := by decide +kernel
theorem dX4_count_72 : decode cX4_count 72 = .ok (.ireturn, 1) := by decide +kernel
theorem dX4_count_73 : decode cX4_count 73 = .ok (.aload_n 0, 1) := by decide +kernel
theorem dX4_count_74 : decode cX4_count 74 = .ok (.getfield 97, 3) := by decide +kernel
theorem dX4_count_77 : decode cX4_count 77 = .ok (.ireturn, 1) := by decide +kernel
theorem dX4_count_78 : decode cX4_count 78 = .ok (.aload_n 0, 1) := by decide +kernel
theorem dX4_count_79 : decode cX4_count 79 = .ok (.getfield 104, 3) := by decide +kernel
theorem dX4_count_82 : decode cX4_count 82 = .ok (.ireturn, 1) := by decide +kernel
theorem dX4_count_83 : decode cX4_count 83 = .ok (.aload_n 0, 1) := by decide +kernel
theorem dX4_count_84 : decode cX4_count 84 = .ok (.getfield 22, 3) := by decide +kernel
theorem dX4_count_87 : decode cX4_count 87 = .ok (.ldc 149, 2) := by decide +kernel
theorem dX4_count_89 : decode cX4_count 89 = .ok (.invokevirtual 150, 3) := by decide +kernel
theorem dX4_count_92 : decode cX4_count 92 = .ok (.ireturn, 1) := by decide +kernel
theorem dX4_count_93 : decode cX4_count 93 = .ok (.aload_n 0, 1) := by decide +kernel
theorem dX4_count_94 : decode cX4_count 94 = .ok (.getfield 153, 3) := by decide +kernel
theorem dX4_count_97 : decode cX4_count 97 = .ok (.ireturn, 1) := by decide +kernel
theorem dX4_count_98 : decode cX4_count 98 = .ok (.aload_n 0, 1) := by decide +kernel
theorem dX4_count_99 : decode cX4_count 99 = .ok (.getfield 156, 3) := by decide +kernel
theorem dX4_count_102 : decode cX4_count 102 = .ok (.ireturn, 1) := by decide +kernel
theorem dX4_count_103 : decode cX4_count 103 = .ok (.aload_n 0, 1) := by decide +kernel
theorem dX4_count_104 : decode cX4_count 104 = .ok (.getfield 159, 3) := by decide +kernel
theorem dX4_count_107 : decode cX4_count 107 = .ok (.ireturn, 1) := by decide +kernel
theorem dX4_count_108 : decode cX4_count 108 = .ok (.bipush (-2), 2) := by decide +kernel
theorem dX4_count_110 : decode cX4_count 110 = .ok (.ireturn, 1) := by decide +kernel
set_option maxRecDepth 20000 in
theorem ggX4_startAgain_X0_clear : GoodIn wsX4_startAgain wsX0_clear := goodIn_r _ [16, 17, 47, 48, 49, 50] (by decide +kernel) (by decide +kernel)
set_option maxRecDepth 20000 in
theorem gX4_startAgain_X0_clear : GoodIn wsX4_startAgain (wsV RX4 162 RX0 yX0_clear wsX0_clear) := goodIn_app (goodIn_of _ (by decide +kernel)) ggX4_startAgain_X0_clear
set_option maxRecDepth 20000 in
theorem ggX4_startAgain_X2_clear : GoodIn wsX4_startAgain wsX2_clear := goodIn_r _ [22, 23, 51, 52, 53, 54, 55, 56, 57] (by decide +kernel) (by decide +kernel)
set_option maxRecDepth 20000 in
theorem gX4_startAgain_X2_clear : GoodIn wsX4_startAgain (wsV RX4 165 RX2 yX2_clear wsX2_clear) := goodIn_app (goodIn_of _ (by decide +kernel)) ggX4_startAgain_X2_clear
set_option maxRecDepth 20000 in
theorem ggX4_startAgain_X3_clear : GoodIn wsX4_startAgain wsX3_clear := goodIn_r _ [28, 29, 30, 58, 59, 60] (by decide +kernel) (by decide +kernel)
set_option maxRecDepth 20000 in
theorem gX4_startAgain_X3_clear : GoodIn wsX4_startAgain (wsV RX4 166 RX3 yX3_clear wsX3_clear) := goodIn_app (goodIn_of _ (by decide +kernel)) ggX4_startAgain_X3_clear
end
section
theorem dX4_startAgain_0 : decode cX4_startAgain 0 = .ok (.aload_n 0, 1) := by decide +kernel
theorem dX4_startAgain_1 : decode cX4_startAgain 1 = .ok (.getfield 10, 3) := by decide +kernel
theorem dX4_startAgain_4 : decode cX4_startAgain 4 = .ok (.invokevirtual 162, 3) := by decide +kernel
theorem dX4_startAgain_7 : decode cX4_startAgain 7 = .ok (.aload_n 0, 1) := by decide +kernel
theorem dX4_startAgain_8 : decode cX4_startAgain 8 = .ok (.getfield 16, 3) := by decide +kernel
theorem dX4_startAgain_11 : decode cX4_startAgain 11 = .ok (.invokevirtual 162, 3) := by decide +kernel
theorem dX4_startAgain_14 : decode cX4_startAgain 14 = .ok (.aload_n 0, 1) := by decide +kernel
theorem dX4_startAgain_15 : decode cX4_startAgain 15 = .ok (.getfield 22, 3) := by decide +kernel
theorem dX4_startAgain_18 : decode cX4_startAgain 18 = .ok (.invokevirtual 165, 3) := by decide +kernel
theorem dX4_startAgain_21 : decode cX4_startAgain 21 = .ok (.aload_n 0, 1) := by decide +kernel
theorem dX4_startAgain_22 : decode cX4_startAgain 22 = .ok (.getfield 29, 3) := by decide +kernel
theorem dX4_startAgain_25 : decode cX4_startAgain 25 = .ok (.invokevirtual 166, 3) := by decide +kernel
theorem dX4_startAgain_28 : decode cX4_startAgain 28 = .ok (.aload_n 0, 1) := by decide +kernel
theorem dX4_startAgain_29 : decode cX4_startAgain 29 = .ok (.ldc 167, 2) := by decide +kernel
theorem dX4_startAgain_31 : decode cX4_startAgain 31 = .ok (.putfield 97, 3) := by decide +kernel
theorem dX4_startAgain_34 : decode cX4_startAgain 34 = .ok (.aload_n 0, 1) := by decide +kernel
theorem dX4_startAgain_35 : decode cX4_startAgain 35 = .ok (.ldc 167, 2) := by decide +kernel
theorem dX4_startAgain_37 : decode cX4_startAgain 37 = .ok (.putfield 104, 3) := by decide +kernel
theorem dX4_startAgain_40 : decode cX4_startAgain 40 = .ok (.aload_n 0, 1) := by decide +kernel
theorem dX4_startAgain_41 : decode cX4_startAgain 41 = .ok (.iconst 0, 1) := by decide +kernel
theorem dX4_startAgain_42 : decode cX4_startAgain 42 = .ok (.putfield 144, 3) := by decide +kernel
theorem dX4_startAgain_45 : decode cX4_startAgain 45 = .ok (.aload_n 0, 1) := by decide +kernel
theorem dX4_startAgain_46 : decode cX4_startAgain 46 = .ok (.iconst 0, 1) := by decide +kernel
theorem dX4_startAgain_47 : decode cX4_startAgain 47 = .ok (.putfield 153, 3) := by decide +kernel
theorem dX4_startAgain_50 : decode cX4_startAgain 50 = .ok (.aload_n 0, 1) := by decide +kernel
theorem dX4_startAgain_51 : decode cX4_startAgain 51 = .ok (.iconst 0, 1) := by decide +kernel
theorem dX4_startAgain_52 : decode cX4_startAgain 52 = .ok (.putfield 156, 3) := by decide +kernel
theorem dX4_startAgain_55 : decode cX4_startAgain 55 = .ok (.aload_n 0, 1) := by decide +kernel
theorem dX4_startAgain_56 : decode cX4_startAgain 56 = .ok (.iconst 0, 1) := by decide +kernel
theorem dX4_startAgain_57 : decode cX4_startAgain 57 = .ok (.putfield 159, 3) := by decide +kernel
theorem dX4_startAgain_60 : decode cX4_startAgain 60 = .ok (.return_, 1) := by decide +kernel
theorem dX4_isWithin_0 : decode cX4_isWithin 0 = .ok (.iload_n 1, 1) := by decide +kernel
theorem dX4_isWithin_1 : decode cX4_isWithin 1 = .ok (.iload_n 0, 1) := by decide +kernel
theorem dX4_isWithin_2 : decode cX4_isWithin 2 = .ok (.if_icmp .gt 12, 3) := by decide +kernel
theorem dX4_isWithin_5 : decode cX4_isWithin 5 = .ok (.iload_n 0, 1) := by decide +kernel
theorem dX4_isWithin_6 : decode cX4_isWithin 6 = .ok (.iload_n 2, 1) := by decide +kernel
theorem dX4_isWithin_7 : decode cX4_isWithin 7 = .ok (.if_icmp .gt 7, 3) := by decide +kernel
theorem dX4_isWithin_10 : decode cX4_isWithin 10 = .ok (.iconst 1, 1) := by decide +kernel
theorem dX4_isWithin_11 : decode cX4_isWithin 11 = .ok (.goto 4, 3) := by decide +kernel
theorem dX4_isWithin_14 : decode cX4_isWithin 14 = .ok (.iconst 0, 1) := by decide +kernel
theorem dX4_isWithin_15 : decode cX4_isWithin 15 = .ok (.ireturn, 1) := by decide +kernel
set_option maxRecDepth 20000 in
theorem ggX4_isTime_X4_isWithin : GoodIn wsX4_isTime wsX4_isWithin := goodIn_r _ [6] (by decide +kernel) (by decide +kernel)
set_option maxRecDepth 20000 in
theorem gX4_isTime_X4_isWithin : GoodIn wsX4_isTime (va_wsS RX4 60 yX4_isWithin wsX4_isWithin) := goodIn_app (goodIn_of _ (by decide +kernel)) ggX4_isTime_X4_isWithin
theorem dX4_isTime_0 : decode cX4_isTime 0 = .ok (.iload_n 0, 1) := by decide +kernel
theorem dX4_isTime_1 : decode cX4_isTime 1 = .ok (.ldc 168, 2) := by decide +kernel
theorem dX4_isTime_3 : decode cX4_isTime 3 = .ok (.ldc 169, 2) := by decide +kernel
theorem dX4_isTime_5 : decode cX4_isTime 5 = .ok (.invokestatic 60, 3) := by decide +kernel
theorem dX4_isTime_8 : decode cX4_isTime 8 = .ok (.ireturn, 1) := by decide +kernel
set_option maxRecDepth 20000 in
theorem ggX4_areWindows_X4_isWithin : GoodIn wsX4_areWindows wsX4_isWithin := goodIn_r _ [5] (by decide +kernel) (by decide +kernel)
set_option maxRecDepth 20000 in
theorem gX4_areWindows_X4_isWithin : GoodIn wsX4_areWindows (va_wsS RX4 60 yX4_isWithin wsX4_isWithin) := goodIn_app (goodIn_of _ (by decide +kernel)) ggX4_areWindows_X4_isWithin
theorem dX4_areWindows_0 : decode cX4_areWindows 0 = .ok (.iload_n 0, 1) := by decide +kernel
theorem dX4_areWindows_1 : decode cX4_areWindows 1 = .ok (.iconst 1, 1) := by decide +kernel
theorem dX4_areWindows_2 : decode cX4_areWindows 2 = .ok (.ldc 59, 2) := by decide +kernel
theorem dX4_areWindows_4 : decode cX4_areWindows 4 = .ok (.invokestatic 60, 3) := by decide +kernel
theorem dX4_areWindows_7 : decode cX4_areWindows 7 = .ok (.ifCond .eq 24, 3) := by decide +kernel
theorem dX4_areWindows_10 : decode cX4_areWindows 10 = .ok (.iload_n 1, 1) := by decide +kernel
theorem dX4_areWindows_11 : decode cX4_areWindows 11 = .ok (.iconst 1, 1) := by decide +kernel
theorem dX4_areWindows_12 : decode cX4_areWindows 12 = .ok (.iload_n 0, 1) := by decide +kernel
theorem dX4_areWindows_13 : decode cX4_areWindows 13 = .ok (.invokestatic 60, 3) := by decide +kernel
theorem dX4_areWindows_16 : decode cX4_areWindows 16 = .ok (.ifCond .eq 15, 3) := by decide +kernel
theorem dX4_areWindows_19 : decode cX4_areWindows 19 = .ok (.iload_n 0, 1) := by decide +kernel
theorem dX4_areWindows_20 : decode cX4_areWindows 20 = .ok (.bipush 16, 2) := by decide +kernel
theorem dX4_areWindows_22 : decode cX4_areWindows 22 = .ok (.iload_n 1, 1) := by decide +kernel
theorem dX4_areWindows_23 : decode cX4_areWindows 23 = .ok (.imul, 1) := by decide +kernel
theorem dX4_areWindows_24 : decode cX4_areWindows 24 = .ok (.if_icmp .gt 7, 3) := by decide +kernel
theorem dX4_areWindows_27 : decode cX4_areWindows 27 = .ok (.iconst 1, 1) := by decide +kernel
theorem dX4_areWindows_28 : decode cX4_areWindows 28 = .ok (.goto 4, 3) := by decide +kernel
theorem dX4_areWindows_31 : decode cX4_areWindows 31 = .ok (.iconst 0, 1) := by decide +kernel
theorem dX4_areWindows_32 : decode cX4_areWindows 32 = .ok (.ireturn, 1) := by decide +kernel
set_option maxRecDepth 20000 in
theorem ggX4_admit_X4_isTime : GoodIn wsX4_admit wsX4_isTime := goodIn_r _ [12, 13, 14, 15, 16, 11, 17] (by decide +kernel) (by decide +kernel)
set_option maxRecDepth 20000 in
theorem gX4_admit_X4_isTime : GoodIn wsX4_admit (va_wsS RX4 170 yX4_isTime wsX4_isTime) := goodIn_app (goodIn_of _ (by decide +kernel)) ggX4_admit_X4_isTime
set_option maxRecDepth 20000 in
theorem ggX4_admit_X4_mark : GoodIn wsX4_admit wsX4_mark := goodIn_r _ [21, 22, 23, 24, 25, 26, 27, 57, 58, 59, 60, 61, 62, 63, 64, 65, 66, 67, 68, 69, 70, 71, 72] (by decide +kernel) (by decide +kernel)
set_option maxRecDepth 20000 in
theorem gX4_admit_X4_mark : GoodIn wsX4_admit (wsV RX4 174 RX4 yX4_mark wsX4_mark) := goodIn_app (goodIn_of _ (by decide +kernel)) ggX4_admit_X4_mark
set_option maxRecDepth 20000 in
theorem ggX4_admit_X0_size : GoodIn wsX4_admit wsX0_size := goodIn_r _ [32, 33, 73, 74, 75, 76] (by decide +kernel) (by decide +kernel)
set_option maxRecDepth 20000 in
theorem gX4_admit_X0_size : GoodIn wsX4_admit (wsV RX4 68 RX0 yX0_size wsX0_size) := goodIn_app (goodIn_of _ (by decide +kernel)) ggX4_admit_X0_size
set_option maxRecDepth 20000 in
theorem ggX4_admit_X0_manyNear : GoodIn wsX4_admit wsX0_manyNear := goodIn_r _ [37, 33, 38, 39, 40, 31, 41, 42, 43, 44, 45, 26, 46, 47, 48, 49, 50, 73, 74, 75, 76] (by decide +kernel) (by decide +kernel)
set_option maxRecDepth 20000 in
theorem gX4_admit_X0_manyNear : GoodIn wsX4_admit (wsV RX4 177 RX0 yX0_manyNear wsX0_manyNear) := goodIn_app (goodIn_of _ (by decide +kernel)) ggX4_admit_X0_manyNear
set_option maxRecDepth 20000 in
theorem ggX4_admit_X3_size : GoodIn wsX4_admit wsX3_size := goodIn_r _ [55, 56, 77, 78, 79] (by decide +kernel) (by decide +kernel)
set_option maxRecDepth 20000 in
theorem gX4_admit_X3_size : GoodIn wsX4_admit (wsV RX4 118 RX3 yX3_size wsX3_size) := goodIn_app (goodIn_of _ (by decide +kernel)) ggX4_admit_X3_size
theorem dX4_admit_0 : decode cX4_admit 0 = .ok (.iload_n 2, 1) := by decide +kernel
theorem dX4_admit_1 : decode cX4_admit 1 = .ok (.invokestatic 170, 3) := by decide +kernel
theorem dX4_admit_4 : decode cX4_admit 4 = .ok (.ifCond .ne 6, 3) := by decide +kernel
theorem dX4_admit_7 : decode cX4_admit 7 = .ok (.bipush (-2), 2) := by decide +kernel
theorem dX4_admit_9 : decode cX4_admit 9 = .ok (.ireturn, 1) := by decide +kernel
theorem dX4_admit_10 : decode cX4_admit 10 = .ok (.iload_n 2, 1) := by decide +kernel
theorem dX4_admit_11 : decode cX4_admit 11 = .ok (.aload_n 0, 1) := by decide +kernel
theorem dX4_admit_12 : decode cX4_admit 12 = .ok (.invokevirtual 174, 3) := by decide +kernel
theorem dX4_admit_15 : decode cX4_admit 15 = .ok (.aload_n 0, 1) := by decide +kernel
theorem dX4_admit_16 : decode cX4_admit 16 = .ok (.getfield 40, 3) := by decide +kernel
theorem dX4_admit_19 : decode cX4_admit 19 = .ok (.isub, 1) := by decide +kernel
theorem dX4_admit_20 : decode cX4_admit 20 = .ok (.if_icmp .ge 16, 3) := by decide +kernel
theorem dX4_admit_23 : decode cX4_admit 23 = .ok (.aload_n 0, 1) := by decide +kernel
theorem dX4_admit_24 : decode cX4_admit 24 = .ok (.dup, 1) := by decide +kernel
theorem dX4_admit_25 : decode cX4_admit 25 = .ok (.getfield 144, 3) := by decide +kernel
theorem dX4_admit_28 : decode cX4_admit 28 = .ok (.iconst 1, 1) := by decide +kernel
theorem dX4_admit_29 : decode cX4_admit 29 = .ok (.iadd, 1) := by decide +kernel
theorem dX4_admit_30 : decode cX4_admit 30 = .ok (.putfield 144, 3) := by decide +kernel
theorem dX4_admit_33 : decode cX4_admit 33 = .ok (.bipush (-4), 2) := by decide +kernel
theorem dX4_admit_35 : decode cX4_admit 35 = .ok (.ireturn, 1) := by decide +kernel
theorem dX4_admit_36 : decode cX4_admit 36 = .ok (.aload_n 0, 1) := by decide +kernel
theorem dX4_admit_37 : decode cX4_admit 37 = .ok (.getfield 10, 3) := by decide +kernel
theorem dX4_admit_40 : decode cX4_admit 40 = .ok (.invokevirtual 68, 3) := by decide +kernel
theorem dX4_admit_43 : decode cX4_admit 43 = .ok (.aload_n 0, 1) := by decide +kernel
theorem dX4_admit_44 : decode cX4_admit 44 = .ok (.getfield 16, 3) := by decide +kernel
theorem dX4_admit_47 : decode cX4_admit 47 = .ok (.invokevirtual 68, 3) := by decide +kernel
theorem dX4_admit_50 : decode cX4_admit 50 = .ok (.iadd, 1) := by decide +kernel
theorem dX4_admit_51 : decode cX4_admit 51 = .ok (.aload_n 0, 1) := by decide +kernel
theorem dX4_admit_52 : decode cX4_admit 52 = .ok (.getfield 46, 3) := by decide +kernel
theorem dX4_admit_55 : decode cX4_admit 55 = .ok (.if_icmp .lt 6, 3) := by decide +kernel
theorem dX4_admit_58 : decode cX4_admit 58 = .ok (.bipush (-3), 2) := by decide +kernel
theorem dX4_admit_60 : decode cX4_admit 60 = .ok (.ireturn, 1) := by decide +kernel
theorem dX4_admit_61 : decode cX4_admit 61 = .ok (.aload_n 1, 1) := by decide +kernel
theorem dX4_admit_62 : decode cX4_admit 62 = .ok (.iload_n 2, 1) := by decide +kernel
theorem dX4_admit_63 : decode cX4_admit 63 = .ok (.iload_n 3, 1) := by decide +kernel
theorem dX4_admit_64 : decode cX4_admit 64 = .ok (.aload_n 0, 1) := by decide +kernel
theorem dX4_admit_65 : decode cX4_admit 65 = .ok (.getfield 43, 3) := by decide +kernel
theorem dX4_admit_68 : decode cX4_admit 68 = .ok (.invokevirtual 177, 3) := by decide +kernel
theorem dX4_admit_71 : decode cX4_admit 71 = .ok (.istore 4, 2) := by decide +kernel
theorem dX4_admit_73 : decode cX4_admit 73 = .ok (.aload_n 0, 1) := by decide +kernel
theorem dX4_admit_74 : decode cX4_admit 74 = .ok (.getfield 29, 3) := by decide +kernel
theorem dX4_admit_77 : decode cX4_admit 77 = .ok (.invokevirtual 118, 3) := by decide +kernel
theorem dX4_admit_80 : decode cX4_admit 80 = .ok (.iload 4, 2) := by decide +kernel
theorem dX4_admit_82 : decode cX4_admit 82 = .ok (.iadd, 1) := by decide +kernel
theorem dX4_admit_83 : decode cX4_admit 83 = .ok (.aload_n 0, 1) := by decide +kernel
theorem dX4_admit_84 : decode cX4_admit 84 = .ok (.getfield 49, 3) := by decide +kernel
theorem dX4_admit_87 : decode cX4_admit 87 = .ok (.if_icmp .le 8, 3) := by decide +kernel
theorem dX4_admit_90 : decode cX4_admit 90 = .ok (.bipush (-3), 2) := by decide +kernel
theorem dX4_admit_92 : decode cX4_admit 92 = .ok (.goto 5, 3) := by decide +kernel
theorem dX4_admit_95 : decode cX4_admit 95 = .ok (.iload 4, 2) := by decide +kernel
theorem dX4_admit_97 : decode cX4_admit 97 = .ok (.ireturn, 1) := by decide +kernel
theorem dX4_countTaken_0 : decode cX4_countTaken 0 = .ok (.aload_n 0, 1) := by decide +kernel
theorem dX4_countTaken_1 : decode cX4_countTaken 1 = .ok (.dup, 1) := by decide +kernel
theorem dX4_countTaken_2 : decode cX4_countTaken 2 = .ok (.getfield 153, 3) := by decide +kernel
theorem dX4_countTaken_5 : decode cX4_countTaken 5 = .ok (.iload_n 1, 1) := by decide +kernel
theorem dX4_countTaken_6 : decode cX4_countTaken 6 = .ok (.iadd, 1) := by decide +kernel
theorem dX4_countTaken_7 : decode cX4_countTaken 7 = .ok (.putfield 153, 3) := by decide +kernel
theorem dX4_countTaken_10 : decode cX4_countTaken 10 = .ok (.aload_n 0, 1) := by decide +kernel
theorem dX4_countTaken_11 : decode cX4_countTaken 11 = .ok (.dup, 1) := by decide +kernel
theorem dX4_countTaken_12 : decode cX4_countTaken 12 = .ok (.getfield 159, 3) := by decide +kernel
theorem dX4_countTaken_15 : decode cX4_countTaken 15 = .ok (.iconst 1, 1) := by decide +kernel
theorem dX4_countTaken_16 : decode cX4_countTaken 16 = .ok (.iadd, 1) := by decide +kernel
theorem dX4_countTaken_17 : decode cX4_countTaken 17 = .ok (.putfield 159, 3) := by decide +kernel
theorem dX4_countTaken_20 : decode cX4_countTaken 20 = .ok (.return_, 1) := by decide +kernel
set_option maxRecDepth 20000 in
theorem ggX4_gather_X2_head : GoodIn wsX4_gather wsX2_head := goodIn_r _ [8, 9, 74] (by decide +kernel) (by decide +kernel)
set_option maxRecDepth 20000 in
theorem gX4_gather_X2_head : GoodIn wsX4_gather (wsV RX4 181 RX2 yX2_head wsX2_head) := goodIn_app (goodIn_of _ (by decide +kernel)) ggX4_gather_X2_head
set_option maxRecDepth 20000 in
theorem ggX4_gather_X4_beginningAbove : GoodIn wsX4_gather wsX4_beginningAbove := goodIn_r _ [14, 3, 15, 16, 17, 18, 58, 59, 60, 61, 62, 63, 64, 65, 66, 67, 68, 69, 70, 71, 72, 73] (by decide +kernel) (by decide +kernel)
set_option maxRecDepth 20000 in
theorem gX4_gather_X4_beginningAbove : GoodIn wsX4_gather (wsV RX4 185 RX4 yX4_beginningAbove wsX4_beginningAbove) := goodIn_app (goodIn_of _ (by decide +kernel)) ggX4_gather_X4_beginningAbove
set_option maxRecDepth 20000 in
theorem ggX4_gather_X2_placeFrom : GoodIn wsX4_gather wsX2_placeFrom := goodIn_r _ [22, 23, 24, 25, 26, 27, 7, 28, 29, 30, 31, 32, 33, 34, 35, 36, 37, 38, 39, 40, 41, 42, 43, 44, 45, 46, 47, 48, 49, 75, 76, 77, 78, 79, 80] (by decide +kernel) (by decide +kernel)
set_option maxRecDepth 20000 in
theorem gX4_gather_X2_placeFrom : GoodIn wsX4_gather (wsV RX4 188 RX2 yX2_placeFrom wsX2_placeFrom) := goodIn_app (goodIn_of _ (by decide +kernel)) ggX4_gather_X2_placeFrom
set_option maxRecDepth 20000 in
theorem ggX4_gather_X1_gather : GoodIn wsX4_gather wsX1_gather := goodIn_r _ [53, 45, 46, 48, 54, 55, 56, 57, 75, 76, 77, 78, 79, 80] (by decide +kernel) (by decide +kernel)
set_option maxRecDepth 20000 in
theorem gX4_gather_X1_gather : GoodIn wsX4_gather (wsV RX4 192 RX1 yX1_gather wsX1_gather) := goodIn_app (goodIn_of _ (by decide +kernel)) ggX4_gather_X1_gather
theorem dX4_gather_0 : decode cX4_gather 0 = .ok (.aload_n 0, 1) := by decide +kernel
theorem dX4_gather_1 : decode cX4_gather 1 = .ok (.getfield 22, 3) := by decide +kernel
theorem dX4_gather_4 : decode cX4_gather 4 = .ok (.invokevirtual 181, 3) := by decide +kernel
theorem dX4_gather_7 : decode cX4_gather 7 = .ok (.astore 4, 2) := by decide +kernel
theorem dX4_gather_9 : decode cX4_gather 9 = .ok (.aload_n 0, 1) := by decide +kernel
theorem dX4_gather_10 : decode cX4_gather 10 = .ok (.iload_n 1, 1) := by decide +kernel
theorem dX4_gather_11 : decode cX4_gather 11 = .ok (.aload_n 0, 1) := by decide +kernel
theorem dX4_gather_12 : decode cX4_gather 12 = .ok (.getfield 33, 3) := by decide +kernel
theorem dX4_gather_15 : decode cX4_gather 15 = .ok (.isub, 1) := by decide +kernel
theorem dX4_gather_16 : decode cX4_gather 16 = .ok (.invokevirtual 185, 3) := by decide +kernel
theorem dX4_gather_19 : decode cX4_gather 19 = .ok (.istore 5, 2) := by decide +kernel
theorem dX4_gather_21 : decode cX4_gather 21 = .ok (.iconst 0, 1) := by decide +kernel
theorem dX4_gather_22 : decode cX4_gather 22 = .ok (.istore 6, 2) := by decide +kernel
theorem dX4_gather_24 : decode cX4_gather 24 = .ok (.iload 6, 2) := by decide +kernel
theorem dX4_gather_26 : decode cX4_gather 26 = .ok (.bipush 16, 2) := by decide +kernel
theorem dX4_gather_28 : decode cX4_gather 28 = .ok (.if_icmp .ge 49, 3) := by decide +kernel
theorem dX4_gather_31 : decode cX4_gather 31 = .ok (.iload 5, 2) := by decide +kernel
theorem dX4_gather_33 : decode cX4_gather 33 = .ok (.iload_n 1, 1) := by decide +kernel
theorem dX4_gather_34 : decode cX4_gather 34 = .ok (.if_icmp .gt 43, 3) := by decide +kernel
theorem dX4_gather_37 : decode cX4_gather 37 = .ok (.aload_n 0, 1) := by decide +kernel
theorem dX4_gather_38 : decode cX4_gather 38 = .ok (.getfield 22, 3) := by decide +kernel
theorem dX4_gather_41 : decode cX4_gather 41 = .ok (.aload 4, 2) := by decide +kernel
theorem dX4_gather_43 : decode cX4_gather 43 = .ok (.iload 5, 2) := by decide +kernel
theorem dX4_gather_45 : decode cX4_gather 45 = .ok (.aload_n 0, 1) := by decide +kernel
theorem dX4_gather_46 : decode cX4_gather 46 = .ok (.getfield 33, 3) := by decide +kernel
theorem dX4_gather_49 : decode cX4_gather 49 = .ok (.iadd, 1) := by decide +kernel
theorem dX4_gather_50 : decode cX4_gather 50 = .ok (.iload_n 2, 1) := by decide +kernel
theorem dX4_gather_51 : decode cX4_gather 51 = .ok (.invokevirtual 188, 3) := by decide +kernel
theorem dX4_gather_54 : decode cX4_gather 54 = .ok (.astore 4, 2) := by decide +kernel
theorem dX4_gather_56 : decode cX4_gather 56 = .ok (.aload 4, 2) := by decide +kernel
theorem dX4_gather_58 : decode cX4_gather 58 = .ok (.iload_n 3, 1) := by decide +kernel
theorem dX4_gather_59 : decode cX4_gather 59 = .ok (.invokevirtual 192, 3) := by decide +kernel
theorem dX4_gather_62 : decode cX4_gather 62 = .ok (.iload 5, 2) := by decide +kernel
theorem dX4_gather_64 : decode cX4_gather 64 = .ok (.aload_n 0, 1) := by decide +kernel
theorem dX4_gather_65 : decode cX4_gather 65 = .ok (.getfield 37, 3) := by decide +kernel
theorem dX4_gather_68 : decode cX4_gather 68 = .ok (.iadd, 1) := by decide +kernel
theorem dX4_gather_69 : decode cX4_gather 69 = .ok (.istore 5, 2) := by decide +kernel
theorem dX4_gather_71 : decode cX4_gather 71 = .ok (.iinc 6 1, 3) := by decide +kernel
theorem dX4_gather_74 : decode cX4_gather 74 = .ok (.goto (-50), 3) := by decide +kernel
theorem dX4_gather_77 : decode cX4_gather 77 = .ok (.return_, 1) := by decide +kernel
set_option maxRecDepth 20000 in
theorem ggX4_beginningAbove_J9_floorDiv_7cf53 : GoodIn wsX4_beginningAbove wsJ9_floorDiv_7cf53 := goodIn_r _ [5] (by decide +kernel) (by decide +kernel)
set_option maxRecDepth 20000 in
theorem gX4_beginningAbove_J9_floorDiv_7cf53 : GoodIn wsX4_beginningAbove (va_wsS RX4 194 yJ9_floorDiv_7cf53 wsJ9_floorDiv_7cf53) := goodIn_app (goodIn_of _ (by decide +kernel)) ggX4_beginningAbove_J9_floorDiv_7cf53
theorem dX4_beginningAbove_0 : decode cX4_beginningAbove 0 = .ok (.aload_n 0, 1) := by decide +kernel
theorem dX4_beginningAbove_1 : decode cX4_beginningAbove 1 = .ok (.getfield 37, 3) := by decide +kernel
theorem dX4_beginningAbove_4 : decode cX4_beginningAbove 4 = .ok (.iconst 1, 1) := by decide +kernel
theorem dX4_beginningAbove_5 : decode cX4_beginningAbove 5 = .ok (.if_icmp .ge 7, 3) := by decide +kernel
theorem dX4_beginningAbove_8 : decode cX4_beginningAbove 8 = .ok (.iload_n 1, 1) := by decide +kernel
theorem dX4_beginningAbove_9 : decode cX4_beginningAbove 9 = .ok (.goto 18, 3) := by decide +kernel
theorem dX4_beginningAbove_12 : decode cX4_beginningAbove 12 = .ok (.iload_n 1, 1) := by decide +kernel
theorem dX4_beginningAbove_13 : decode cX4_beginningAbove 13 = .ok (.aload_n 0, 1) := by decide +kernel
theorem dX4_beginningAbove_14 : decode cX4_beginningAbove 14 = .ok (.getfield 37, 3) := by decide +kernel
theorem dX4_beginningAbove_17 : decode cX4_beginningAbove 17 = .ok (.invokestatic 194, 3) := by decide +kernel
theorem dX4_beginningAbove_20 : decode cX4_beginningAbove 20 = .ok (.iconst 1, 1) := by decide +kernel
theorem dX4_beginningAbove_21 : decode cX4_beginningAbove 21 = .ok (.iadd, 1) := by decide +kernel
theorem dX4_beginningAbove_22 : decode cX4_beginningAbove 22 = .ok (.aload_n 0, 1) := by decide +kernel
theorem dX4_beginningAbove_23 : decode cX4_beginningAbove 23 = .ok (.getfield 37, 3) := by decide +kernel
theorem dX4_beginningAbove_26 : decode cX4_beginningAbove 26 = .ok (.imul, 1) := by decide +kernel
theorem dX4_beginningAbove_27 : decode cX4_beginningAbove 27 = .ok (.ireturn, 1) := by decide +kernel
set_option maxRecDepth 20000 in
theorem ggX4_refusalOfMark_X4_isTime : GoodIn wsX4_refusalOfMark wsX4_isTime := goodIn_r _ [4, 5, 6, 7, 8, 3, 9] (by decide +kernel) (by decide +kernel)
set_option maxRecDepth 20000 in
theorem gX4_refusalOfMark_X4_isTime : GoodIn wsX4_refusalOfMark (va_wsS RX4 170 yX4_isTime wsX4_isTime) := goodIn_app (goodIn_of _ (by decide +kernel)) ggX4_refusalOfMark_X4_isTime
theorem dX4_refusalOfMark_0 : decode cX4_refusalOfMark 0 = .ok (.iload_n 0, 1) := by decide +kernel
theorem dX4_refusalOfMark_1 : decode cX4_refusalOfMark 1 = .ok (.invokestatic 170, 3) := by decide +kernel
theorem dX4_refusalOfMark_4 : decode cX4_refusalOfMark 4 = .ok (.ifCond .ne 6, 3) := by decide +kernel
theorem dX4_refusalOfMark_7 : decode cX4_refusalOfMark 7 = .ok (.bipush (-2), 2) := by decide +kernel
theorem dX4_refusalOfMark_9 : decode cX4_refusalOfMark 9 = .ok (.ireturn, 1) := by decide +kernel
theorem dX4_refusalOfMark_10 : decode cX4_refusalOfMark 10 = .ok (.iload_n 0, 1) := by decide +kernel
theorem dX4_refusalOfMark_11 : decode cX4_refusalOfMark 11 = .ok (.iload_n 1, 1) := by decide +kernel
theorem dX4_refusalOfMark_12 : decode cX4_refusalOfMark 12 = .ok (.if_icmp .gt 8, 3) := by decide +kernel
theorem dX4_refusalOfMark_15 : decode cX4_refusalOfMark 15 = .ok (.bipush (-5), 2) := by decide +kernel
theorem dX4_refusalOfMark_17 : decode cX4_refusalOfMark 17 = .ok (.goto 4, 3) := by decide +kernel
theorem dX4_refusalOfMark_20 : decode cX4_refusalOfMark 20 = .ok (.iconst 0, 1) := by decide +kernel
theorem dX4_refusalOfMark_21 : decode cX4_refusalOfMark 21 = .ok (.ireturn, 1) := by decide +kernel
set_option maxRecDepth 20000 in
theorem ggX4_tellWindows_X2_manyUpTo : GoodIn wsX4_tellWindows wsX2_manyUpTo := goodIn_r _ [10, 11, 58, 52, 53, 54, 55, 56, 57] (by decide +kernel) (by decide +kernel)
set_option maxRecDepth 20000 in
theorem gX4_tellWindows_X2_manyUpTo : GoodIn wsX4_tellWindows (wsV RX4 197 RX2 yX2_manyUpTo wsX2_manyUpTo) := goodIn_app (goodIn_of _ (by decide +kernel)) ggX4_tellWindows_X2_manyUpTo
set_option maxRecDepth 20000 in
theorem ggX4_tellWindows_X3_size : GoodIn wsX4_tellWindows wsX3_size := goodIn_r _ [16, 17, 59, 60, 61] (by decide +kernel) (by decide +kernel)
set_option maxRecDepth 20000 in
theorem gX4_tellWindows_X3_size : GoodIn wsX4_tellWindows (wsV RX4 118 RX3 yX3_size wsX3_size) := goodIn_app (goodIn_of _ (by decide +kernel)) ggX4_tellWindows_X3_size
set_option maxRecDepth 20000 in
theorem ggX4_tellWindows_X2_windowsUpTo : GoodIn wsX4_tellWindows wsX2_windowsUpTo := goodIn_r _ [21, 11, 58, 52, 53, 54, 55, 56, 57] (by decide +kernel) (by decide +kernel)
set_option maxRecDepth 20000 in
theorem gX4_tellWindows_X2_windowsUpTo : GoodIn wsX4_tellWindows (wsV RX4 150 RX2 yX2_windowsUpTo wsX2_windowsUpTo) := goodIn_app (goodIn_of _ (by decide +kernel)) ggX4_tellWindows_X2_windowsUpTo
set_option maxRecDepth 20000 in
theorem ggX4_tellWindows_X2_takeFirst : GoodIn wsX4_tellWindows wsX2_takeFirst := goodIn_r _ [25, 11, 58, 52, 53, 54, 55, 56, 57] (by decide +kernel) (by decide +kernel)
set_option maxRecDepth 20000 in
theorem gX4_tellWindows_X2_takeFirst : GoodIn wsX4_tellWindows (wsV RX4 200 RX2 yX2_takeFirst wsX2_takeFirst) := goodIn_app (goodIn_of _ (by decide +kernel)) ggX4_tellWindows_X2_takeFirst
set_option maxRecDepth 20000 in
theorem ggX4_tellWindows_X3_add : GoodIn wsX4_tellWindows wsX3_add := goodIn_r _ [29, 17, 30, 31, 32, 33, 15, 34, 35, 59, 60, 61] (by decide +kernel) (by decide +kernel)
set_option maxRecDepth 20000 in
theorem gX4_tellWindows_X3_add : GoodIn wsX4_tellWindows (wsV RX4 83 RX3 yX3_add wsX3_add) := goodIn_app (goodIn_of _ (by decide +kernel)) ggX4_tellWindows_X3_add
theorem dX4_tellWindows_0 : decode cX4_tellWindows 0 = .ok (.iload_n 1, 1) := by decide +kernel
theorem dX4_tellWindows_1 : decode cX4_tellWindows 1 = .ok (.aload_n 0, 1) := by decide +kernel
theorem dX4_tellWindows_2 : decode cX4_tellWindows 2 = .ok (.getfield 40, 3) := by decide +kernel
theorem dX4_tellWindows_5 : decode cX4_tellWindows 5 = .ok (.isub, 1) := by decide +kernel
theorem dX4_tellWindows_6 : decode cX4_tellWindows 6 = .ok (.istore_n 2, 1) := by decide +kernel
theorem dX4_tellWindows_7 : decode cX4_tellWindows 7 = .ok (.aload_n 0, 1) := by decide +kernel
theorem dX4_tellWindows_8 : decode cX4_tellWindows 8 = .ok (.getfield 22, 3) := by decide +kernel
theorem dX4_tellWindows_11 : decode cX4_tellWindows 11 = .ok (.iload_n 2, 1) := by decide +kernel
theorem dX4_tellWindows_12 : decode cX4_tellWindows 12 = .ok (.invokevirtual 197, 3) := by decide +kernel
theorem dX4_tellWindows_15 : decode cX4_tellWindows 15 = .ok (.istore_n 3, 1) := by decide +kernel
theorem dX4_tellWindows_16 : decode cX4_tellWindows 16 = .ok (.aload_n 0, 1) := by decide +kernel
theorem dX4_tellWindows_17 : decode cX4_tellWindows 17 = .ok (.getfield 29, 3) := by decide +kernel
theorem dX4_tellWindows_20 : decode cX4_tellWindows 20 = .ok (.invokevirtual 118, 3) := by decide +kernel
theorem dX4_tellWindows_23 : decode cX4_tellWindows 23 = .ok (.iload_n 3, 1) := by decide +kernel
theorem dX4_tellWindows_24 : decode cX4_tellWindows 24 = .ok (.iadd, 1) := by decide +kernel
theorem dX4_tellWindows_25 : decode cX4_tellWindows 25 = .ok (.aload_n 0, 1) := by decide +kernel
theorem dX4_tellWindows_26 : decode cX4_tellWindows 26 = .ok (.getfield 49, 3) := by decide +kernel
theorem dX4_tellWindows_29 : decode cX4_tellWindows 29 = .ok (.if_icmp .le 6, 3) := by decide +kernel
theorem dX4_tellWindows_32 : decode cX4_tellWindows 32 = .ok (.bipush (-3), 2) := by decide +kernel
theorem dX4_tellWindows_34 : decode cX4_tellWindows 34 = .ok (.ireturn, 1) := by decide +kernel
theorem dX4_tellWindows_35 : decode cX4_tellWindows 35 = .ok (.aload_n 0, 1) := by decide +kernel
theorem dX4_tellWindows_36 : decode cX4_tellWindows 36 = .ok (.getfield 22, 3) := by decide +kernel
theorem dX4_tellWindows_39 : decode cX4_tellWindows 39 = .ok (.iload_n 2, 1) := by decide +kernel
theorem dX4_tellWindows_40 : decode cX4_tellWindows 40 = .ok (.invokevirtual 150, 3) := by decide +kernel
theorem dX4_tellWindows_43 : decode cX4_tellWindows 43 = .ok (.istore 4, 2) := by decide +kernel
theorem dX4_tellWindows_45 : decode cX4_tellWindows 45 = .ok (.iconst 0, 1) := by decide +kernel
theorem dX4_tellWindows_46 : decode cX4_tellWindows 46 = .ok (.istore 5, 2) := by decide +kernel
theorem dX4_tellWindows_48 : decode cX4_tellWindows 48 = .ok (.iload 5, 2) := by decide +kernel
theorem dX4_tellWindows_50 : decode cX4_tellWindows 50 = .ok (.iload_n 3, 1) := by decide +kernel
theorem dX4_tellWindows_51 : decode cX4_tellWindows 51 = .ok (.if_icmp .ge 56, 3) := by decide +kernel
theorem dX4_tellWindows_54 : decode cX4_tellWindows 54 = .ok (.aload_n 0, 1) := by decide +kernel
theorem dX4_tellWindows_55 : decode cX4_tellWindows 55 = .ok (.getfield 22, 3) := by decide +kernel
theorem dX4_tellWindows_58 : decode cX4_tellWindows 58 = .ok (.invokevirtual 200, 3) := by decide +kernel
theorem dX4_tellWindows_61 : decode cX4_tellWindows 61 = .ok (.astore 6, 2) := by decide +kernel
theorem dX4_tellWindows_63 : decode cX4_tellWindows 63 = .ok (.aload 6, 2) := by decide +kernel
theorem dX4_tellWindows_65 : decode cX4_tellWindows 65 = .ok (.ifnull 36, 3) := by decide +kernel
theorem dX4_tellWindows_68 : decode cX4_tellWindows 68 = .ok (.aload_n 0, 1) := by decide +kernel
theorem dX4_tellWindows_69 : decode cX4_tellWindows 69 = .ok (.getfield 29, 3) := by decide +kernel
theorem dX4_tellWindows_72 : decode cX4_tellWindows 72 = .ok (.iconst 1, 1) := by decide +kernel
theorem dX4_tellWindows_73 : decode cX4_tellWindows 73 = .ok (.aload 6, 2) := by decide +kernel
theorem dX4_tellWindows_75 : decode cX4_tellWindows 75 = .ok (.getfield 203, 3) := by decide +kernel
theorem dX4_tellWindows_78 : decode cX4_tellWindows 78 = .ok (.aload 6, 2) := by decide +kernel
theorem dX4_tellWindows_80 : decode cX4_tellWindows 80 = .ok (.getfield 206, 3) := by decide +kernel
theorem dX4_tellWindows_83 : decode cX4_tellWindows 83 = .ok (.aload 6, 2) := by decide +kernel
theorem dX4_tellWindows_85 : decode cX4_tellWindows 85 = .ok (.getfield 130, 3) := by decide +kernel
theorem dX4_tellWindows_88 : decode cX4_tellWindows 88 = .ok (.aload 6, 2) := by decide +kernel
theorem dX4_tellWindows_90 : decode cX4_tellWindows 90 = .ok (.getfield 135, 3) := by decide +kernel
theorem dX4_tellWindows_93 : decode cX4_tellWindows 93 = .ok (.aload 6, 2) := by decide +kernel
theorem dX4_tellWindows_95 : decode cX4_tellWindows 95 = .ok (.getfield 138, 3) := by decide +kernel
theorem dX4_tellWindows_98 : decode cX4_tellWindows 98 = .ok (.invokevirtual 83, 3) := by decide +kernel
theorem dX4_tellWindows_101 : decode cX4_tellWindows 101 = .ok (.iinc 5 1, 3) := by decide +kernel
theorem dX4_tellWindows_104 : decode cX4_tellWindows 104 = .ok (.goto (-56), 3) := by decide +kernel
theorem dX4_tellWindows_107 : decode cX4_tellWindows 107 = .ok (.aload_n 0, 1) := by decide +kernel
theorem dX4_tellWindows_108 : decode cX4_tellWindows 108 = .ok (.dup, 1) := by decide +kernel
theorem dX4_tellWindows_109 : decode cX4_tellWindows 109 = .ok (.getfield 156, 3) := by decide +kernel
theorem dX4_tellWindows_112 : decode cX4_tellWindows 112 = .ok (.iload_n 3, 1) := by decide +kernel
theorem dX4_tellWindows_113 : decode cX4_tellWindows 113 = .ok (.iadd, 1) := by decide +kernel
theorem dX4_tellWindows_114 : decode cX4_tellWindows 114 = .ok (.putfield 156, 3) := by decide +kernel
theorem dX4_tellWindows_117 : decode cX4_tellWindows 117 = .ok (.iload 4, 2) := by decide +kernel
theorem dX4_tellWindows_119 : decode cX4_tellWindows 119 = .ok (.ireturn, 1) := by decide +kernel
set_option maxRecDepth 20000 in
theorem ggX4_dropEvents_X4_mark : GoodIn wsX4_dropEvents wsX4_mark := goodIn_r _ [14, 15, 16, 5, 6, 7, 8, 39, 40, 41, 42, 43, 44, 45, 46, 47, 48, 49, 50, 51, 52, 53, 54] (by decide +kernel) (by decide +kernel)
set_option maxRecDepth 20000 in
theorem gX4_dropEvents_X4_mark : GoodIn wsX4_dropEvents (wsV RX4 174 RX4 yX4_mark wsX4_mark) := goodIn_app (goodIn_of _ (by decide +kernel)) ggX4_dropEvents_X4_mark
set_option maxRecDepth 20000 in
theorem ggX4_dropEvents_X4_beginningAbove : GoodIn wsX4_dropEvents wsX4_beginningAbove := goodIn_r _ [20, 21, 22, 23, 24, 25, 39, 40, 41, 42, 43, 44, 45, 46, 47, 48, 49, 50, 51, 52, 53, 54] (by decide +kernel) (by decide +kernel)
set_option maxRecDepth 20000 in
theorem gX4_dropEvents_X4_beginningAbove : GoodIn wsX4_dropEvents (wsV RX4 185 RX4 yX4_beginningAbove wsX4_beginningAbove) := goodIn_app (goodIn_of _ (by decide +kernel)) ggX4_dropEvents_X4_beginningAbove
set_option maxRecDepth 20000 in
theorem ggX4_dropEvents_X0_dropBelow : GoodIn wsX4_dropEvents wsX0_dropBelow := goodIn_r _ [30, 31, 32, 33, 34, 35, 36, 37, 29, 38, 55, 56, 57, 58] (by decide +kernel) (by decide +kernel)
set_option maxRecDepth 20000 in
theorem gX4_dropEvents_X0_dropBelow : GoodIn wsX4_dropEvents (wsV RX4 208 RX0 yX0_dropBelow wsX0_dropBelow) := goodIn_app (goodIn_of _ (by decide +kernel)) ggX4_dropEvents_X0_dropBelow
theorem dX4_dropEvents_0 : decode cX4_dropEvents 0 = .ok (.aload_n 0, 1) := by decide +kernel
theorem dX4_dropEvents_1 : decode cX4_dropEvents 1 = .ok (.invokevirtual 174, 3) := by decide +kernel
theorem dX4_dropEvents_4 : decode cX4_dropEvents 4 = .ok (.aload_n 0, 1) := by decide +kernel
theorem dX4_dropEvents_5 : decode cX4_dropEvents 5 = .ok (.getfield 40, 3) := by decide +kernel
theorem dX4_dropEvents_8 : decode cX4_dropEvents 8 = .ok (.isub, 1) := by decide +kernel
theorem dX4_dropEvents_9 : decode cX4_dropEvents 9 = .ok (.istore_n 1, 1) := by decide +kernel
theorem dX4_dropEvents_10 : decode cX4_dropEvents 10 = .ok (.aload_n 0, 1) := by decide +kernel
theorem dX4_dropEvents_11 : decode cX4_dropEvents 11 = .ok (.getfield 10, 3) := by decide +kernel
theorem dX4_dropEvents_14 : decode cX4_dropEvents 14 = .ok (.iload_n 1, 1) := by decide +kernel
theorem dX4_dropEvents_15 : decode cX4_dropEvents 15 = .ok (.aload_n 0, 1) := by decide +kernel
theorem dX4_dropEvents_16 : decode cX4_dropEvents 16 = .ok (.getfield 43, 3) := by decide +kernel
theorem dX4_dropEvents_19 : decode cX4_dropEvents 19 = .ok (.isub, 1) := by decide +kernel
theorem dX4_dropEvents_20 : decode cX4_dropEvents 20 = .ok (.aload_n 0, 1) := by decide +kernel
theorem dX4_dropEvents_21 : decode cX4_dropEvents 21 = .ok (.iload_n 1, 1) := by decide +kernel
theorem dX4_dropEvents_22 : decode cX4_dropEvents 22 = .ok (.aload_n 0, 1) := by decide +kernel
theorem dX4_dropEvents_23 : decode cX4_dropEvents 23 = .ok (.getfield 33, 3) := by decide +kernel
theorem dX4_dropEvents_26 : decode cX4_dropEvents 26 = .ok (.isub, 1) := by decide +kernel
theorem dX4_dropEvents_27 : decode cX4_dropEvents 27 = .ok (.invokevirtual 185, 3) := by decide +kernel
theorem dX4_dropEvents_30 : decode cX4_dropEvents 30 = .ok (.invokestatic 107, 3) := by decide +kernel
theorem dX4_dropEvents_33 : decode cX4_dropEvents 33 = .ok (.invokevirtual 208, 3) := by decide +kernel
theorem dX4_dropEvents_36 : decode cX4_dropEvents 36 = .ok (.aload_n 0, 1) := by decide +kernel
theorem dX4_dropEvents_37 : decode cX4_dropEvents 37 = .ok (.getfield 16, 3) := by decide +kernel
theorem dX4_dropEvents_40 : decode cX4_dropEvents 40 = .ok (.iload_n 1, 1) := by decide +kernel
theorem dX4_dropEvents_41 : decode cX4_dropEvents 41 = .ok (.aload_n 0, 1) := by decide +kernel
theorem dX4_dropEvents_42 : decode cX4_dropEvents 42 = .ok (.getfield 43, 3) := by decide +kernel
theorem dX4_dropEvents_45 : decode cX4_dropEvents 45 = .ok (.isub, 1) := by decide +kernel
theorem dX4_dropEvents_46 : decode cX4_dropEvents 46 = .ok (.invokevirtual 208, 3) := by decide +kernel
theorem dX4_dropEvents_49 : decode cX4_dropEvents 49 = .ok (.return_, 1) := by decide +kernel
set_option maxRecDepth 20000 in
theorem ggX5_init_X5_forget : GoodIn wsX5_init wsX5_forget := goodIn_r _ [19, 12, 13, 20, 21, 22, 23, 24, 25, 26, 27, 28, 29, 30, 31, 32, 33, 34, 35, 36, 37, 38, 39, 40, 41, 42, 43, 44, 45, 46] (by decide +kernel) (by decide +kernel)
set_option maxRecDepth 20000 in
theorem gX5_init_X5_forget : GoodIn wsX5_init (wsV RX5 41 RX5 yX5_forget wsX5_forget) := goodIn_app (goodIn_of _ (by decide +kernel)) ggX5_init_X5_forget
theorem dX5_init_0 : decode cX5_init 0 = .ok (.aload_n 0, 1) := by decide +kernel
theorem dX5_init_1 : decode cX5_init 1 = .ok (.invokespecial 1, 3) := by decide +kernel
theorem dX5_init_4 : decode cX5_init 4 = .ok (.aload_n 0, 1) := by decide +kernel
theorem dX5_init_5 : decode cX5_init 5 = .ok (.bipush 10, 2) := by decide +kernel
theorem dX5_init_7 : decode cX5_init 7 = .ok (.putfield 7, 3) := by decide +kernel
theorem dX5_init_10 : decode cX5_init 10 = .ok (.aload_n 0, 1) := by decide +kernel
theorem dX5_init_11 : decode cX5_init 11 = .ok (.bipush 10, 2) := by decide +kernel
theorem dX5_init_13 : decode cX5_init 13 = .ok (.putfield 13, 3) := by decide +kernel
theorem dX5_init_16 : decode cX5_init 16 = .ok (.aload_n 0, 1) := by decide +kernel
theorem dX5_init_17 : decode cX5_init 17 = .ok (.bipush 100, 2) := by decide +kernel
theorem dX5_init_19 : decode cX5_init 19 = .ok (.putfield 16, 3) := by decide +kernel
theorem dX5_init_22 : decode cX5_init 22 = .ok (.aload_n 0, 1) := by decide +kernel
theorem dX5_init_23 : decode cX5_init 23 = .ok (.sipush 200, 3) := by decide +kernel
theorem dX5_init_26 : decode cX5_init 26 = .ok (.putfield 19, 3) := by decide +kernel
theorem dX5_init_29 : decode cX5_init 29 = .ok (.aload_n 0, 1) := by decide +kernel
theorem dX5_init_30 : decode cX5_init 30 = .ok (.sipush 400, 3) := by decide +kernel
theorem dX5_init_33 : decode cX5_init 33 = .ok (.newarray .int, 2) := by decide +kernel
theorem dX5_init_35 : decode cX5_init 35 = .ok (.putfield 22, 3) := by decide +kernel
theorem dX5_init_38 : decode cX5_init 38 = .ok (.aload_n 0, 1) := by decide +kernel
theorem dX5_init_39 : decode cX5_init 39 = .ok (.sipush 400, 3) := by decide +kernel
theorem dX5_init_42 : decode cX5_init 42 = .ok (.newarray .int, 2) := by decide +kernel
theorem dX5_init_44 : decode cX5_init 44 = .ok (.putfield 26, 3) := by decide +kernel
theorem dX5_init_47 : decode cX5_init 47 = .ok (.aload_n 0, 1) := by decide +kernel
theorem dX5_init_48 : decode cX5_init 48 = .ok (.sipush 400, 3) := by decide +kernel
theorem dX5_init_51 : decode cX5_init 51 = .ok (.newarray .int, 2) := by decide +kernel
theorem dX5_init_53 : decode cX5_init 53 = .ok (.putfield 29, 3) := by decide +kernel
theorem dX5_init_56 : decode cX5_init 56 = .ok (.aload_n 0, 1) := by decide +kernel
theorem dX5_init_57 : decode cX5_init 57 = .ok (.iconst 2, 1) := by decide +kernel
theorem dX5_init_58 : decode cX5_init 58 = .ok (.newarray .int, 2) := by decide +kernel
theorem dX5_init_60 : decode cX5_init 60 = .ok (.putfield 32, 3) := by decide +kernel
theorem dX5_init_63 : decode cX5_init 63 = .ok (.aload_n 0, 1) := by decide +kernel
theorem dX5_init_64 : decode cX5_init 64 = .ok (.iconst 2, 1) := by decide +kernel
theorem dX5_init_65 : decode cX5_init 65 = .ok (.newarray .int, 2) := by decide +kernel
theorem dX5_init_67 : decode cX5_init 67 = .ok (.putfield 35, 3) := by decide +kernel
theorem dX5_init_70 : decode cX5_init 70 = .ok (.aload_n 0, 1) := by decide +kernel
theorem dX5_init_71 : decode cX5_init 71 = .ok (.sipush 2400, 3) := by decide +kernel
theorem dX5_init_74 : decode cX5_init 74 = .ok (.newarray .int, 2) := by decide +kernel
theorem dX5_init_76 : decode cX5_init 76 = .ok (.putfield 38, 3) := by decide +kernel
theorem dX5_init_79 : decode cX5_init 79 = .ok (.aload_n 0, 1) := by decide +kernel
theorem dX5_init_80 : decode cX5_init 80 = .ok (.invokevirtual 41, 3) := by decide +kernel
theorem dX5_init_83 : decode cX5_init 83 = .ok (.return_, 1) := by decide +kernel
theorem dX5_in_0 : decode cX5_in 0 = .ok (.iload_n 0, 1) := by decide +kernel
theorem dX5_in_1 : decode cX5_in 1 = .ok (.iload_n 1, 1) := by decide +kernel
theorem dX5_in_2 : decode cX5_in 2 = .ok (.if_icmp .lt 12, 3) := by decide +kernel
theorem dX5_in_5 : decode cX5_in 5 = .ok (.iload_n 0, 1) := by decide +kernel
theorem dX5_in_6 : decode cX5_in 6 = .ok (.iload_n 2, 1) := by decide +kernel
theorem dX5_in_7 : decode cX5_in 7 = .ok (.if_icmp .gt 7, 3) := by decide +kernel
theorem dX5_in_10 : decode cX5_in 10 = .ok (.iconst 1, 1) := by decide +kernel
theorem dX5_in_11 : decode cX5_in 11 = .ok (.goto 4, 3) := by decide +kernel
theorem dX5_in_14 : decode cX5_in 14 = .ok (.iconst 0, 1) := by decide +kernel
theorem dX5_in_15 : decode cX5_in 15 = .ok (.ireturn, 1) := by decide +kernel
theorem dX5_forget_0 : decode cX5_forget 0 = .ok (.aload_n 0, 1) := by decide +kernel
theorem dX5_forget_1 : decode cX5_forget 1 = .ok (.getfield 32, 3) := by decide +kernel
theorem dX5_forget_4 : decode cX5_forget 4 = .ok (.iconst 0, 1) := by decide +kernel
theorem dX5_forget_5 : decode cX5_forget 5 = .ok (.iconst 0, 1) := by decide +kernel
theorem dX5_forget_6 : decode cX5_forget 6 = .ok (.iastore, 1) := by decide +kernel
theorem dX5_forget_7 : decode cX5_forget 7 = .ok (.aload_n 0, 1) := by decide +kernel
theorem dX5_forget_8 : decode cX5_forget 8 = .ok (.getfield 32, 3) := by decide +kernel
theorem dX5_forget_11 : decode cX5_forget 11 = .ok (.iconst 1, 1) := by decide +kernel
theorem dX5_forget_12 : decode cX5_forget 12 = .ok (.iconst 0, 1) := by decide +kernel
theorem dX5_forget_13 : decode cX5_forget 13 = .ok (.iastore, 1) := by decide +kernel
theorem dX5_forget_14 : decode cX5_forget 14 = .ok (.aload_n 0, 1) := by decide +kernel
theorem dX5_forget_15 : decode cX5_forget 15 = .ok (.getfield 35, 3) := by decide +kernel
theorem dX5_forget_18 : decode cX5_forget 18 = .ok (.iconst 0, 1) := by decide +kernel
theorem dX5_forget_19 : decode cX5_forget 19 = .ok (.ldc 44, 2) := by decide +kernel
theorem dX5_forget_21 : decode cX5_forget 21 = .ok (.iastore, 1) := by decide +kernel
theorem dX5_forget_22 : decode cX5_forget 22 = .ok (.aload_n 0, 1) := by decide +kernel
theorem dX5_forget_23 : decode cX5_forget 23 = .ok (.getfield 35, 3) := by decide +kernel
theorem dX5_forget_26 : decode cX5_forget 26 = .ok (.iconst 1, 1) := by decide +kernel
theorem dX5_forget_27 : decode cX5_forget 27 = .ok (.ldc 44, 2) := by decide +kernel
theorem dX5_forget_29 : decode cX5_forget 29 = .ok (.iastore, 1) := by decide +kernel
theorem dX5_forget_30 : decode cX5_forget 30 = .ok (.aload_n 0, 1) := by decide +kernel
theorem dX5_forget_31 : decode cX5_forget 31 = .ok (.iconst 0, 1) := by decide +kernel
theorem dX5_forget_32 : decode cX5_forget 32 = .ok (.putfield 45, 3) := by decide +kernel
theorem dX5_forget_35 : decode cX5_forget 35 = .ok (.aload_n 0, 1) := by decide +kernel
theorem dX5_forget_36 : decode cX5_forget 36 = .ok (.iconst 0, 1) := by decide +kernel
theorem dX5_forget_37 : decode cX5_forget 37 = .ok (.putfield 48, 3) := by decide +kernel
theorem dX5_forget_40 : decode cX5_forget 40 = .ok (.aload_n 0, 1) := by decide +kernel
theorem dX5_forget_41 : decode cX5_forget 41 = .ok (.iconst 0, 1) := by decide +kernel
theorem dX5_forget_42 : decode cX5_forget 42 = .ok (.putfield 51, 3) := by decide +kernel
theorem dX5_forget_45 : decode cX5_forget 45 = .ok (.aload_n 0, 1) := by decide +kernel
theorem dX5_forget_46 : decode cX5_forget 46 = .ok (.iconst 0, 1) := by decide +kernel
theorem dX5_forget_47 : decode cX5_forget 47 = .ok (.putfield 54, 3) := by decide +kernel
theorem dX5_forget_50 : decode cX5_forget 50 = .ok (.aload_n 0, 1) := by decide +kernel
theorem dX5_forget_51 : decode cX5_forget 51 = .ok (.iconst 0, 1) := by decide +kernel
theorem dX5_forget_52 : decode cX5_forget 52 = .ok (.putfield 57, 3) := by decide +kernel
theorem dX5_forget_55 : decode cX5_forget 55 = .ok (.return_, 1) := by decide +kernel
set_option maxRecDepth 20000 in
theorem ggX5_set_X5_in : GoodIn wsX5_set wsX5_in := goodIn_r _ [12] (by decide +kernel) (by decide +kernel)
set_option maxRecDepth 20000 in
theorem gX5_set_X5_in : GoodIn wsX5_set (va_wsS RX5 61 yX5_in wsX5_in) := goodIn_app (goodIn_of _ (by decide +kernel)) ggX5_set_X5_in
set_option maxRecDepth 20000 in
theorem ggX5_set_X5_forget : GoodIn wsX5_set wsX5_forget := goodIn_r _ [16, 17, 18, 19, 20, 21, 22, 23, 24, 25, 26, 27, 28, 29, 30, 31, 32, 33, 34, 35, 36, 37, 38, 39, 40, 41, 42, 43, 44, 45] (by decide +kernel) (by decide +kernel)
set_option maxRecDepth 20000 in
theorem gX5_set_X5_forget : GoodIn wsX5_set (wsV RX5 41 RX5 yX5_forget wsX5_forget) := goodIn_app (goodIn_of _ (by decide +kernel)) ggX5_set_X5_forget
theorem dX5_set_0 : decode cX5_set 0 = .ok (.iload_n 1, 1) := by decide +kernel
theorem dX5_set_1 : decode cX5_set 1 = .ok (.iconst 1, 1) := by decide +kernel
theorem dX5_set_2 : decode cX5_set 2 = .ok (.ldc 60, 2) := by decide +kernel
theorem dX5_set_4 : decode cX5_set 4 = .ok (.invokestatic 61, 3) := by decide +kernel
theorem dX5_set_7 : decode cX5_set 7 = .ok (.ifCond .eq 28, 3) := by decide +kernel
theorem dX5_set_10 : decode cX5_set 10 = .ok (.iload_n 2, 1) := by decide +kernel
theorem dX5_set_11 : decode cX5_set 11 = .ok (.iconst 1, 1) := by decide +kernel
theorem dX5_set_12 : decode cX5_set 12 = .ok (.iload_n 1, 1) := by decide +kernel
theorem dX5_set_13 : decode cX5_set 13 = .ok (.invokestatic 61, 3) := by decide +kernel
theorem dX5_set_16 : decode cX5_set 16 = .ok (.ifCond .eq 19, 3) := by decide +kernel
theorem dX5_set_19 : decode cX5_set 19 = .ok (.iload_n 1, 1) := by decide +kernel
theorem dX5_set_20 : decode cX5_set 20 = .ok (.i2l, 1) := by decide +kernel
theorem dX5_set_21 : decode cX5_set 21 = .ok (.ldc2_w 65, 3) := by decide +kernel
theorem dX5_set_24 : decode cX5_set 24 = .ok (.iload_n 2, 1) := by decide +kernel
theorem dX5_set_25 : decode cX5_set 25 = .ok (.i2l, 1) := by decide +kernel
theorem dX5_set_26 : decode cX5_set 26 = .ok (.lmul, 1) := by decide +kernel
theorem dX5_set_27 : decode cX5_set 27 = .ok (.lcmp, 1) := by decide +kernel
theorem dX5_set_28 : decode cX5_set 28 = .ok (.ifCond .gt 7, 3) := by decide +kernel
theorem dX5_set_31 : decode cX5_set 31 = .ok (.iconst 1, 1) := by decide +kernel
theorem dX5_set_32 : decode cX5_set 32 = .ok (.goto 4, 3) := by decide +kernel
theorem dX5_set_35 : decode cX5_set 35 = .ok (.iconst 0, 1) := by decide +kernel
theorem dX5_set_36 : decode cX5_set 36 = .ok (.istore 7, 2) := by decide +kernel
theorem dX5_set_38 : decode cX5_set 38 = .ok (.iload 7, 2) := by decide +kernel
theorem dX5_set_40 : decode cX5_set 40 = .ok (.ifCond .eq 48, 3) := by decide +kernel
theorem dX5_set_43 : decode cX5_set 43 = .ok (.iload_n 3, 1) := by decide +kernel
theorem dX5_set_44 : decode cX5_set 44 = .ok (.iconst 0, 1) := by decide +kernel
theorem dX5_set_45 : decode cX5_set 45 = .ok (.ldc 60, 2) := by decide +kernel
theorem dX5_set_47 : decode cX5_set 47 = .ok (.invokestatic 61, 3) := by decide +kernel
theorem dX5_set_50 : decode cX5_set 50 = .ok (.ifCond .eq 38, 3) := by decide +kernel
theorem dX5_set_53 : decode cX5_set 53 = .ok (.iload 4, 2) := by decide +kernel
theorem dX5_set_55 : decode cX5_set 55 = .ok (.iconst 0, 1) := by decide +kernel
theorem dX5_set_56 : decode cX5_set 56 = .ok (.ldc 60, 2) := by decide +kernel
theorem dX5_set_58 : decode cX5_set 58 = .ok (.invokestatic 61, 3) := by decide +kernel
theorem dX5_set_61 : decode cX5_set 61 = .ok (.ifCond .eq 27, 3) := by decide +kernel
theorem dX5_set_64 : decode cX5_set 64 = .ok (.iload 5, 2) := by decide +kernel
theorem dX5_set_66 : decode cX5_set 66 = .ok (.iconst 1, 1) := by decide +kernel
theorem dX5_set_67 : decode cX5_set 67 = .ok (.sipush 200, 3) := by decide +kernel
theorem dX5_set_70 : decode cX5_set 70 = .ok (.invokestatic 61, 3) := by decide +kernel
theorem dX5_set_73 : decode cX5_set 73 = .ok (.ifCond .eq 15, 3) := by decide +kernel
theorem dX5_set_76 : decode cX5_set 76 = .ok (.iload 6, 2) := by decide +kernel
theorem dX5_set_78 : decode cX5_set 78 = .ok (.iconst 1, 1) := by decide +kernel
theorem dX5_set_79 : decode cX5_set 79 = .ok (.sipush 400, 3) := by decide +kernel
theorem dX5_set_82 : decode cX5_set 82 = .ok (.invokestatic 61, 3) := by decide +kernel
theorem dX5_set_85 : decode cX5_set 85 = .ok (.ifCond .ne 6, 3) := by decide +kernel
theorem dX5_set_88 : decode cX5_set 88 = .ok (.bipush (-2), 2) := by decide +kernel
theorem dX5_set_90 : decode cX5_set 90 = .ok (.ireturn, 1) := by decide +kernel
theorem dX5_set_91 : decode cX5_set 91 = .ok (.aload_n 0, 1) := by decide +kernel
theorem dX5_set_92 : decode cX5_set 92 = .ok (.iload_n 1, 1) := by decide +kernel
theorem dX5_set_93 : decode cX5_set 93 = .ok (.putfield 7, 3) := by decide +kernel
theorem dX5_set_96 : decode cX5_set 96 = .ok (.aload_n 0, 1) := by decide +kernel
theorem dX5_set_97 : decode cX5_set 97 = .ok (.iload_n 2, 1) := by decide +kernel
theorem dX5_set_98 : decode cX5_set 98 = .ok (.putfield 13, 3) := by decide +kernel
theorem dX5_set_101 : decode cX5_set 101 = .ok (.aload_n 0, 1) := by decide +kernel
theorem dX5_set_102 : decode cX5_set 102 = .ok (.iload_n 3, 1) := by decide +kernel
theorem dX5_set_103 : decode cX5_set 103 = .ok (.putfield 67, 3) := by decide +kernel
theorem dX5_set_106 : decode cX5_set 106 = .ok (.aload_n 0, 1) := by decide +kernel
theorem dX5_set_107 : decode cX5_set 107 = .ok (.iload 4, 2) := by decide +kernel
theorem dX5_set_109 : decode cX5_set 109 = .ok (.putfield 70, 3) := by decide +kernel
theorem dX5_set_112 : decode cX5_set 112 = .ok (.aload_n 0, 1) := by decide +kernel
theorem dX5_set_113 : decode cX5_set 113 = .ok (.iload 5, 2) := by decide +kernel
theorem dX5_set_115 : decode cX5_set 115 = .ok (.putfield 16, 3) := by decide +kernel
theorem dX5_set_118 : decode cX5_set 118 = .ok (.aload_n 0, 1) := by decide +kernel
theorem dX5_set_119 : decode cX5_set 119 = .ok (.iload 6, 2) := by decide +kernel
theorem dX5_set_121 : decode cX5_set 121 = .ok (.putfield 19, 3) := by decide +kernel
theorem dX5_set_124 : decode cX5_set 124 = .ok (.aload_n 0, 1) := by decide +kernel
theorem dX5_set_125 : decode cX5_set 125 = .ok (.invokevirtual 41, 3) := by decide +kernel
theorem dX5_set_128 : decode cX5_set 128 = .ok (.iconst 0, 1) := by decide +kernel
theorem dX5_set_129 : decode cX5_set 129 = .ok (.ireturn, 1) := by decide +kernel
set_option maxRecDepth 20000 in
theorem ggX5_isTime_X5_in : GoodIn wsX5_isTime wsX5_in := goodIn_r _ [6] (by decide +kernel) (by decide +kernel)
set_option maxRecDepth 20000 in
theorem gX5_isTime_X5_in : GoodIn wsX5_isTime (va_wsS RX5 61 yX5_in wsX5_in) := goodIn_app (goodIn_of _ (by decide +kernel)) ggX5_isTime_X5_in
theorem dX5_isTime_0 : decode cX5_isTime 0 = .ok (.iload_n 0, 1) := by decide +kernel
theorem dX5_isTime_1 : decode cX5_isTime 1 = .ok (.ldc 73, 2) := by decide +kernel
theorem dX5_isTime_3 : decode cX5_isTime 3 = .ok (.ldc 74, 2) := by decide +kernel
theorem dX5_isTime_5 : decode cX5_isTime 5 = .ok (.invokestatic 61, 3) := by decide +kernel
theorem dX5_isTime_8 : decode cX5_isTime 8 = .ok (.ireturn, 1) := by decide +kernel
theorem dX5_mark_0 : decode cX5_mark 0 = .ok (.aload_n 0, 1) := by decide +kernel
theorem dX5_mark_1 : decode cX5_mark 1 = .ok (.getfield 35, 3) := by decide +kernel
theorem dX5_mark_4 : decode cX5_mark 4 = .ok (.iconst 0, 1) := by decide +kernel
theorem dX5_mark_5 : decode cX5_mark 5 = .ok (.iaload, 1) := by decide +kernel
theorem dX5_mark_6 : decode cX5_mark 6 = .ok (.aload_n 0, 1) := by decide +kernel
theorem dX5_mark_7 : decode cX5_mark 7 = .ok (.getfield 35, 3) := by decide +kernel
theorem dX5_mark_10 : decode cX5_mark 10 = .ok (.iconst 1, 1) := by decide +kernel
theorem dX5_mark_11 : decode cX5_mark 11 = .ok (.iaload, 1) := by decide +kernel
theorem dX5_mark_12 : decode cX5_mark 12 = .ok (.if_icmp .ge 12, 3) := by decide +kernel
theorem dX5_mark_15 : decode cX5_mark 15 = .ok (.aload_n 0, 1) := by decide +kernel
theorem dX5_mark_16 : decode cX5_mark 16 = .ok (.getfield 35, 3) := by decide +kernel
theorem dX5_mark_19 : decode cX5_mark 19 = .ok (.iconst 0, 1) := by decide +kernel
theorem dX5_mark_20 : decode cX5_mark 20 = .ok (.iaload, 1) := by decide +kernel
theorem dX5_mark_21 : decode cX5_mark 21 = .ok (.goto 9, 3) := by decide +kernel
theorem dX5_mark_24 : decode cX5_mark 24 = .ok (.aload_n 0, 1) := by decide +kernel
theorem dX5_mark_25 : decode cX5_mark 25 = .ok (.getfield 35, 3) := by decide +kernel
theorem dX5_mark_28 : decode cX5_mark 28 = .ok (.iconst 1, 1) := by decide +kernel
theorem dX5_mark_29 : decode cX5_mark 29 = .ok (.iaload, 1) := by decide +kernel
theorem dX5_mark_30 : decode cX5_mark 30 = .ok (.ireturn, 1) := by decide +kernel
theorem dX5_areNear_0 : decode cX5_areNear 0 = .ok (.aload_n 0, 1) := by decide +kernel
theorem dX5_areNear_1 : decode cX5_areNear 1 = .ok (.getfield 22, 3) := by decide +kernel
theorem dX5_areNear_4 : decode cX5_areNear 4 = .ok (.iload_n 1, 1) := by decide +kernel
theorem dX5_areNear_5 : decode cX5_areNear 5 = .ok (.iaload, 1) := by decide +kernel
theorem dX5_areNear_6 : decode cX5_areNear 6 = .ok (.i2l, 1) := by decide +kernel
theorem dX5_areNear_7 : decode cX5_areNear 7 = .ok (.aload_n 0, 1) := by decide +kernel
theorem dX5_areNear_8 : decode cX5_areNear 8 = .ok (.getfield 22, 3) := by decide +kernel
theorem dX5_areNear_11 : decode cX5_areNear 11 = .ok (.iload_n 2, 1) := by decide +kernel
theorem dX5_areNear_12 : decode cX5_areNear 12 = .ok (.iaload, 1) := by decide +kernel
theorem dX5_areNear_13 : decode cX5_areNear 13 = .ok (.i2l, 1) := by decide +kernel
theorem dX5_areNear_14 : decode cX5_areNear 14 = .ok (.lsub, 1) := by decide +kernel
theorem dX5_areNear_15 : decode cX5_areNear 15 = .ok (.lstore_n 3, 1) := by decide +kernel
theorem dX5_areNear_16 : decode cX5_areNear 16 = .ok (.aload_n 0, 1) := by decide +kernel
theorem dX5_areNear_17 : decode cX5_areNear 17 = .ok (.getfield 26, 3) := by decide +kernel
theorem dX5_areNear_20 : decode cX5_areNear 20 = .ok (.iload_n 1, 1) := by decide +kernel
theorem dX5_areNear_21 : decode cX5_areNear 21 = .ok (.iaload, 1) := by decide +kernel
theorem dX5_areNear_22 : decode cX5_areNear 22 = .ok (.aload_n 0, 1) := by decide +kernel
theorem dX5_areNear_23 : decode cX5_areNear 23 = .ok (.getfield 26, 3) := by decide +kernel
theorem dX5_areNear_26 : decode cX5_areNear 26 = .ok (.iload_n 2, 1) := by decide +kernel
theorem dX5_areNear_27 : decode cX5_areNear 27 = .ok (.iaload, 1) := by decide +kernel
theorem dX5_areNear_28 : decode cX5_areNear 28 = .ok (.if_icmp .ne 28, 3) := by decide +kernel
theorem dX5_areNear_31 : decode cX5_areNear 31 = .ok (.lload_n 3, 1) := by decide +kernel
theorem dX5_areNear_32 : decode cX5_areNear 32 = .ok (.aload_n 0, 1) := by decide +kernel
theorem dX5_areNear_33 : decode cX5_areNear 33 = .ok (.getfield 70, 3) := by decide +kernel
theorem dX5_areNear_36 : decode cX5_areNear 36 = .ok (.i2l, 1) := by decide +kernel
theorem dX5_areNear_37 : decode cX5_areNear 37 = .ok (.lcmp, 1) := by decide +kernel
theorem dX5_areNear_38 : decode cX5_areNear 38 = .ok (.ifCond .gt 18, 3) := by decide +kernel
theorem dX5_areNear_41 : decode cX5_areNear 41 = .ok (.lload_n 3, 1) := by decide +kernel
theorem dX5_areNear_42 : decode cX5_areNear 42 = .ok (.lneg, 1) := by decide +kernel
theorem dX5_areNear_43 : decode cX5_areNear 43 = .ok (.aload_n 0, 1) := by decide +kernel
theorem dX5_areNear_44 : decode cX5_areNear 44 = .ok (.getfield 70, 3) := by decide +kernel
theorem dX5_areNear_47 : decode cX5_areNear 47 = .ok (.i2l, 1) := by decide +kernel
theorem dX5_areNear_48 : decode cX5_areNear 48 = .ok (.lcmp, 1) := by decide +kernel
theorem dX5_areNear_49 : decode cX5_areNear 49 = .ok (.ifCond .gt 7, 3) := by decide +kernel
theorem dX5_areNear_52 : decode cX5_areNear 52 = .ok (.iconst 1, 1) := by decide +kernel
theorem dX5_areNear_53 : decode cX5_areNear 53 = .ok (.goto 4, 3) := by decide +kernel
theorem dX5_areNear_56 : decode cX5_areNear 56 = .ok (.iconst 0, 1) := by decide +kernel
theorem dX5_areNear_57 : decode cX5_areNear 57 = .ok (.ireturn, 1) := by decide +kernel
theorem dX5_record_0 : decode cX5_record 0 = .ok (.bipush 6, 2) := by decide +kernel
theorem dX5_record_2 : decode cX5_record 2 = .ok (.aload_n 0, 1) := by decide +kernel
theorem dX5_record_3 : decode cX5_record 3 = .ok (.getfield 45, 3) := by decide +kernel
theorem dX5_record_6 : decode cX5_record 6 = .ok (.imul, 1) := by decide +kernel
theorem dX5_record_7 : decode cX5_record 7 = .ok (.istore 7, 2) := by decide +kernel
theorem dX5_record_9 : decode cX5_record 9 = .ok (.aload_n 0, 1) := by decide +kernel
theorem dX5_record_10 : decode cX5_record 10 = .ok (.getfield 38, 3) := by decide +kernel
theorem dX5_record_13 : decode cX5_record 13 = .ok (.iload 7, 2) := by decide +kernel
theorem dX5_record_15 : decode cX5_record 15 = .ok (.iload_n 1, 1) := by decide +kernel
theorem dX5_record_16 : decode cX5_record 16 = .ok (.iastore, 1) := by decide +kernel
theorem dX5_record_17 : decode cX5_record 17 = .ok (.aload_n 0, 1) := by decide +kernel
theorem dX5_record_18 : decode cX5_record 18 = .ok (.getfield 38, 3) := by decide +kernel
theorem dX5_record_21 : decode cX5_record 21 = .ok (.iload 7, 2) := by decide +kernel
theorem dX5_record_23 : decode cX5_record 23 = .ok (.iconst 1, 1) := by decide +kernel
theorem dX5_record_24 : decode cX5_record 24 = .ok (.iadd, 1) := by decide +kernel
theorem dX5_record_25 : decode cX5_record 25 = .ok (.iload_n 2, 1) := by decide +kernel
theorem dX5_record_26 : decode cX5_record 26 = .ok (.iastore, 1) := by decide +kernel
theorem dX5_record_27 : decode cX5_record 27 = .ok (.aload_n 0, 1) := by decide +kernel
theorem dX5_record_28 : decode cX5_record 28 = .ok (.getfield 38, 3) := by decide +kernel
theorem dX5_record_31 : decode cX5_record 31 = .ok (.iload 7, 2) := by decide +kernel
theorem dX5_record_33 : decode cX5_record 33 = .ok (.iconst 2, 1) := by decide +kernel
theorem dX5_record_34 : decode cX5_record 34 = .ok (.iadd, 1) := by decide +kernel
theorem dX5_record_35 : decode cX5_record 35 = .ok (.iload_n 3, 1) := by decide +kernel
theorem dX5_record_36 : decode cX5_record 36 = .ok (.iastore, 1) := by decide +kernel
theorem dX5_record_37 : decode cX5_record 37 = .ok (.aload_n 0, 1) := by decide +kernel
theorem dX5_record_38 : decode cX5_record 38 = .ok (.getfield 38, 3) := by decide +kernel
theorem dX5_record_41 : decode cX5_record 41 = .ok (.iload 7, 2) := by decide +kernel
theorem dX5_record_43 : decode cX5_record 43 = .ok (.iconst 3, 1) := by decide +kernel
theorem dX5_record_44 : decode cX5_record 44 = .ok (.iadd, 1) := by decide +kernel
theorem dX5_record_45 : decode cX5_record 45 = .ok (.iload 4, 2) := by decide +kernel
theorem dX5_record_47 : decode cX5_record 47 = .ok (.iastore, 1) := by decide +kernel
theorem dX5_record_48 : decode cX5_record 48 = .ok (.aload_n 0, 1) := by decide +kernel
theorem dX5_record_49 : decode cX5_record 49 = .ok (.getfield 38, 3) := by decide +kernel
theorem dX5_record_52 : decode cX5_record 52 = .ok (.iload 7, 2) := by decide +kernel
theorem dX5_record_54 : decode cX5_record 54 = .ok (.iconst 4, 1) := by decide +kernel
theorem dX5_record_55 : decode cX5_record 55 = .ok (.iadd, 1) := by decide +kernel
theorem dX5_record_56 : decode cX5_record 56 = .ok (.iload 5, 2) := by decide +kernel
theorem dX5_record_58 : decode cX5_record 58 = .ok (.iastore, 1) := by decide +kernel
theorem dX5_record_59 : decode cX5_record 59 = .ok (.aload_n 0, 1) := by decide +kernel
theorem dX5_record_60 : decode cX5_record 60 = .ok (.getfield 38, 3) := by decide +kernel
theorem dX5_record_63 : decode cX5_record 63 = .ok (.iload 7, 2) := by decide +kernel
theorem dX5_record_65 : decode cX5_record 65 = .ok (.iconst 5, 1) := by decide +kernel
theorem dX5_record_66 : decode cX5_record 66 = .ok (.iadd, 1) := by decide +kernel
theorem dX5_record_67 : decode cX5_record 67 = .ok (.iload 6, 2) := by decide +kernel
theorem dX5_record_69 : decode cX5_record 69 = .ok (.iastore, 1) := by decide +kernel
theorem dX5_record_70 : decode cX5_record 70 = .ok (.aload_n 0, 1) := by decide +kernel
theorem dX5_record_71 : decode cX5_record 71 = .ok (.dup, 1) := by decide +kernel
theorem dX5_record_72 : decode cX5_record 72 = .ok (.getfield 45, 3) := by decide +kernel
theorem dX5_record_75 : decode cX5_record 75 = .ok (.iconst 1, 1) := by decide +kernel
theorem dX5_record_76 : decode cX5_record 76 = .ok (.iadd, 1) := by decide +kernel
theorem dX5_record_77 : decode cX5_record 77 = .ok (.putfield 45, 3) := by decide +kernel
theorem dX5_record_80 : decode cX5_record 80 = .ok (.return_, 1) := by decide +kernel
set_option maxRecDepth 20000 in
theorem ggX5_event_X5_areNear : GoodIn wsX5_event wsX5_areNear := goodIn_r _ [9, 2, 3, 10, 17, 18, 19, 20, 21, 22, 23, 24, 25, 26, 27, 28, 29, 30, 31, 32, 33, 34, 35, 36, 37] (by decide +kernel) (by decide +kernel)
set_option maxRecDepth 20000 in
theorem gX5_event_X5_areNear : GoodIn wsX5_event (wsV RX5 75 RX5 yX5_areNear wsX5_areNear) := goodIn_app (goodIn_of _ (by decide +kernel)) ggX5_event_X5_areNear
set_option maxRecDepth 20000 in
theorem ggX5_event_X5_record : GoodIn wsX5_event wsX5_record := goodIn_r _ [14, 15, 16, 17, 18, 19, 20, 21, 22, 23, 24, 25, 26, 27, 28, 29, 30, 31, 32, 33, 34, 35, 36, 37] (by decide +kernel) (by decide +kernel)
set_option maxRecDepth 20000 in
theorem gX5_event_X5_record : GoodIn wsX5_event (wsV RX5 79 RX5 yX5_record wsX5_record) := goodIn_app (goodIn_of _ (by decide +kernel)) ggX5_event_X5_record
theorem dX5_event_0 : decode cX5_event 0 = .ok (.sipush 200, 3) := by decide +kernel
theorem dX5_event_3 : decode cX5_event 3 = .ok (.iload_n 1, 1) := by decide +kernel
theorem dX5_event_4 : decode cX5_event 4 = .ok (.imul, 1) := by decide +kernel
theorem dX5_event_5 : decode cX5_event 5 = .ok (.aload_n 0, 1) := by decide +kernel
theorem dX5_event_6 : decode cX5_event 6 = .ok (.getfield 32, 3) := by decide +kernel
theorem dX5_event_9 : decode cX5_event 9 = .ok (.iload_n 1, 1) := by decide +kernel
theorem dX5_event_10 : decode cX5_event 10 = .ok (.iaload, 1) := by decide +kernel
theorem dX5_event_11 : decode cX5_event 11 = .ok (.iadd, 1) := by decide +kernel
theorem dX5_event_12 : decode cX5_event 12 = .ok (.istore 6, 2) := by decide +kernel
theorem dX5_event_14 : decode cX5_event 14 = .ok (.sipush 200, 3) := by decide +kernel
theorem dX5_event_17 : decode cX5_event 17 = .ok (.iconst 1, 1) := by decide +kernel
theorem dX5_event_18 : decode cX5_event 18 = .ok (.iload_n 1, 1) := by decide +kernel
theorem dX5_event_19 : decode cX5_event 19 = .ok (.isub, 1) := by decide +kernel
theorem dX5_event_20 : decode cX5_event 20 = .ok (.imul, 1) := by decide +kernel
theorem dX5_event_21 : decode cX5_event 21 = .ok (.istore 7, 2) := by decide +kernel
theorem dX5_event_23 : decode cX5_event 23 = .ok (.aload_n 0, 1) := by decide +kernel
theorem dX5_event_24 : decode cX5_event 24 = .ok (.getfield 22, 3) := by decide +kernel
theorem dX5_event_27 : decode cX5_event 27 = .ok (.iload 6, 2) := by decide +kernel
theorem dX5_event_29 : decode cX5_event 29 = .ok (.iload_n 2, 1) := by decide +kernel
theorem dX5_event_30 : decode cX5_event 30 = .ok (.iastore, 1) := by decide +kernel
theorem dX5_event_31 : decode cX5_event 31 = .ok (.aload_n 0, 1) := by decide +kernel
theorem dX5_event_32 : decode cX5_event 32 = .ok (.getfield 26, 3) := by decide +kernel
theorem dX5_event_35 : decode cX5_event 35 = .ok (.iload 6, 2) := by decide +kernel
theorem dX5_event_37 : decode cX5_event 37 = .ok (.iload_n 3, 1) := by decide +kernel
theorem dX5_event_38 : decode cX5_event 38 = .ok (.iastore, 1) := by decide +kernel
theorem dX5_event_39 : decode cX5_event 39 = .ok (.aload_n 0, 1) := by decide +kernel
theorem dX5_event_40 : decode cX5_event 40 = .ok (.getfield 29, 3) := by decide +kernel
theorem dX5_event_43 : decode cX5_event 43 = .ok (.iload 6, 2) := by decide +kernel
theorem dX5_event_45 : decode cX5_event 45 = .ok (.iload 4, 2) := by decide +kernel
theorem dX5_event_47 : decode cX5_event 47 = .ok (.iastore, 1) := by decide +kernel
theorem dX5_event_48 : decode cX5_event 48 = .ok (.iconst 0, 1) := by decide +kernel
theorem dX5_event_49 : decode cX5_event 49 = .ok (.istore 8, 2) := by decide +kernel
theorem dX5_event_51 : decode cX5_event 51 = .ok (.iload 7, 2) := by decide +kernel
theorem dX5_event_53 : decode cX5_event 53 = .ok (.istore 9, 2) := by decide +kernel
theorem dX5_event_55 : decode cX5_event 55 = .ok (.iload 9, 2) := by decide +kernel
theorem dX5_event_57 : decode cX5_event 57 = .ok (.iload 7, 2) := by decide +kernel
theorem dX5_event_59 : decode cX5_event 59 = .ok (.aload_n 0, 1) := by decide +kernel
theorem dX5_event_60 : decode cX5_event 60 = .ok (.getfield 32, 3) := by decide +kernel
theorem dX5_event_63 : decode cX5_event 63 = .ok (.iconst 1, 1) := by decide +kernel
theorem dX5_event_64 : decode cX5_event 64 = .ok (.iload_n 1, 1) := by decide +kernel
theorem dX5_event_65 : decode cX5_event 65 = .ok (.isub, 1) := by decide +kernel
theorem dX5_event_66 : decode cX5_event 66 = .ok (.iaload, 1) := by decide +kernel
theorem dX5_event_67 : decode cX5_event 67 = .ok (.iadd, 1) := by decide +kernel
theorem dX5_event_68 : decode cX5_event 68 = .ok (.if_icmp .ge 88, 3) := by decide +kernel
theorem dX5_event_71 : decode cX5_event 71 = .ok (.aload_n 0, 1) := by decide +kernel
theorem dX5_event_72 : decode cX5_event 72 = .ok (.iload 6, 2) := by decide +kernel
theorem dX5_event_74 : decode cX5_event 74 = .ok (.iload 9, 2) := by decide +kernel
theorem dX5_event_76 : decode cX5_event 76 = .ok (.invokevirtual 75, 3) := by decide +kernel
theorem dX5_event_79 : decode cX5_event 79 = .ok (.ifCond .eq 71, 3) := by decide +kernel
theorem dX5_event_82 : decode cX5_event 82 = .ok (.iinc 8 1, 3) := by decide +kernel
theorem dX5_event_85 : decode cX5_event 85 = .ok (.iload_n 1, 1) := by decide +kernel
theorem dX5_event_86 : decode cX5_event 86 = .ok (.ifCond .ne 8, 3) := by decide +kernel
theorem dX5_event_89 : decode cX5_event 89 = .ok (.iload 6, 2) := by decide +kernel
theorem dX5_event_91 : decode cX5_event 91 = .ok (.goto 5, 3) := by decide +kernel
theorem dX5_event_94 : decode cX5_event 94 = .ok (.iload 9, 2) := by decide +kernel
theorem dX5_event_96 : decode cX5_event 96 = .ok (.istore 10, 2) := by decide +kernel
theorem dX5_event_98 : decode cX5_event 98 = .ok (.iload_n 1, 1) := by decide +kernel
theorem dX5_event_99 : decode cX5_event 99 = .ok (.ifCond .ne 8, 3) := by decide +kernel
theorem dX5_event_102 : decode cX5_event 102 = .ok (.iload 9, 2) := by decide +kernel
theorem dX5_event_104 : decode cX5_event 104 = .ok (.goto 5, 3) := by decide +kernel
theorem dX5_event_107 : decode cX5_event 107 = .ok (.iload 6, 2) := by decide +kernel
theorem dX5_event_109 : decode cX5_event 109 = .ok (.istore 11, 2) := by decide +kernel
theorem dX5_event_111 : decode cX5_event 111 = .ok (.iload 5, 2) := by decide +kernel
theorem dX5_event_113 : decode cX5_event 113 = .ok (.ifCond .eq 37, 3) := by decide +kernel
theorem dX5_event_116 : decode cX5_event 116 = .ok (.aload_n 0, 1) := by decide +kernel
theorem dX5_event_117 : decode cX5_event 117 = .ok (.iconst 2, 1) := by decide +kernel
theorem dX5_event_118 : decode cX5_event 118 = .ok (.aload_n 0, 1) := by decide +kernel
theorem dX5_event_119 : decode cX5_event 119 = .ok (.getfield 22, 3) := by decide +kernel
theorem dX5_event_122 : decode cX5_event 122 = .ok (.iload 10, 2) := by decide +kernel
theorem dX5_event_124 : decode cX5_event 124 = .ok (.iaload, 1) := by decide +kernel
theorem dX5_event_125 : decode cX5_event 125 = .ok (.aload_n 0, 1) := by decide +kernel
theorem dX5_event_126 : decode cX5_event 126 = .ok (.getfield 22, 3) := by decide +kernel
theorem dX5_event_129 : decode cX5_event 129 = .ok (.iload 11, 2) := by decide +kernel
theorem dX5_event_131 : decode cX5_event 131 = .ok (.iaload, 1) := by decide +kernel
theorem dX5_event_132 : decode cX5_event 132 = .ok (.iload_n 3, 1) := by decide +kernel
theorem dX5_event_133 : decode cX5_event 133 = .ok (.aload_n 0, 1) := by decide +kernel
theorem dX5_event_134 : decode cX5_event 134 = .ok (.getfield 29, 3) := by decide +kernel
theorem dX5_event_137 : decode cX5_event 137 = .ok (.iload 10, 2) := by decide +kernel
theorem dX5_event_139 : decode cX5_event 139 = .ok (.iaload, 1) := by decide +kernel
theorem dX5_event_140 : decode cX5_event 140 = .ok (.aload_n 0, 1) := by decide +kernel
theorem dX5_event_141 : decode cX5_event 141 = .ok (.getfield 29, 3) := by decide +kernel
theorem dX5_event_144 : decode cX5_event 144 = .ok (.iload 11, 2) := by decide +kernel
theorem dX5_event_146 : decode cX5_event 146 = .ok (.iaload, 1) := by decide +kernel
theorem dX5_event_147 : decode cX5_event 147 = .ok (.invokevirtual 79, 3) := by decide +kernel
theorem dX5_event_150 : decode cX5_event 150 = .ok (.iinc 9 1, 3) := by decide +kernel
theorem dX5_event_153 : decode cX5_event 153 = .ok (.goto (-98), 3) := by decide +kernel
theorem dX5_event_156 : decode cX5_event 156 = .ok (.iload 8, 2) := by decide +kernel
theorem dX5_event_158 : decode cX5_event 158 = .ok (.ireturn, 1) := by decide +kernel
set_option maxRecDepth 20000 in
theorem ggX5_take_X5_isTime : GoodIn wsX5_take wsX5_isTime := goodIn_r _ [12, 13, 14, 15, 16, 11, 17] (by decide +kernel) (by decide +kernel)
set_option maxRecDepth 20000 in
theorem gX5_take_X5_isTime : GoodIn wsX5_take (va_wsS RX5 83 yX5_isTime wsX5_isTime) := goodIn_app (goodIn_of _ (by decide +kernel)) ggX5_take_X5_isTime
set_option maxRecDepth 20000 in
theorem ggX5_take_X5_mark : GoodIn wsX5_take wsX5_mark := goodIn_r _ [21, 22, 40, 41, 42, 43, 44, 45, 46, 47, 48, 49, 50, 51, 52, 53, 54, 55, 56, 57, 58, 59, 60] (by decide +kernel) (by decide +kernel)
set_option maxRecDepth 20000 in
theorem gX5_take_X5_mark : GoodIn wsX5_take (wsV RX5 87 RX5 yX5_mark wsX5_mark) := goodIn_app (goodIn_of _ (by decide +kernel)) ggX5_take_X5_mark
set_option maxRecDepth 20000 in
theorem ggX5_take_X5_event : GoodIn wsX5_take wsX5_event := goodIn_r _ [26, 3, 27, 28, 29, 30, 31, 32, 11, 33, 34, 35, 36, 37, 38, 5, 39, 40, 41, 42, 43, 44, 45, 46, 47, 48, 49, 50, 51, 52, 53, 54, 55, 56, 57, 58, 59, 60] (by decide +kernel) (by decide +kernel)
set_option maxRecDepth 20000 in
theorem gX5_take_X5_event : GoodIn wsX5_take (wsV RX5 91 RX5 yX5_event wsX5_event) := goodIn_app (goodIn_of _ (by decide +kernel)) ggX5_take_X5_event
theorem dX5_take_0 : decode cX5_take 0 = .ok (.iload_n 2, 1) := by decide +kernel
theorem dX5_take_1 : decode cX5_take 1 = .ok (.invokestatic 83, 3) := by decide +kernel
theorem dX5_take_4 : decode cX5_take 4 = .ok (.ifCond .ne 6, 3) := by decide +kernel
theorem dX5_take_7 : decode cX5_take 7 = .ok (.bipush (-2), 2) := by decide +kernel
theorem dX5_take_9 : decode cX5_take 9 = .ok (.ireturn, 1) := by decide +kernel
theorem dX5_take_10 : decode cX5_take 10 = .ok (.iload_n 2, 1) := by decide +kernel
theorem dX5_take_11 : decode cX5_take 11 = .ok (.i2l, 1) := by decide +kernel
theorem dX5_take_12 : decode cX5_take 12 = .ok (.aload_n 0, 1) := by decide +kernel
theorem dX5_take_13 : decode cX5_take 13 = .ok (.invokevirtual 87, 3) := by decide +kernel
theorem dX5_take_16 : decode cX5_take 16 = .ok (.i2l, 1) := by decide +kernel
theorem dX5_take_17 : decode cX5_take 17 = .ok (.aload_n 0, 1) := by decide +kernel
theorem dX5_take_18 : decode cX5_take 18 = .ok (.getfield 67, 3) := by decide +kernel
theorem dX5_take_21 : decode cX5_take 21 = .ok (.i2l, 1) := by decide +kernel
theorem dX5_take_22 : decode cX5_take 22 = .ok (.lsub, 1) := by decide +kernel
theorem dX5_take_23 : decode cX5_take 23 = .ok (.lcmp, 1) := by decide +kernel
theorem dX5_take_24 : decode cX5_take 24 = .ok (.ifCond .ge 16, 3) := by decide +kernel
theorem dX5_take_27 : decode cX5_take 27 = .ok (.aload_n 0, 1) := by decide +kernel
theorem dX5_take_28 : decode cX5_take 28 = .ok (.dup, 1) := by decide +kernel
theorem dX5_take_29 : decode cX5_take 29 = .ok (.getfield 48, 3) := by decide +kernel
theorem dX5_take_32 : decode cX5_take 32 = .ok (.iconst 1, 1) := by decide +kernel
theorem dX5_take_33 : decode cX5_take 33 = .ok (.iadd, 1) := by decide +kernel
theorem dX5_take_34 : decode cX5_take 34 = .ok (.putfield 48, 3) := by decide +kernel
theorem dX5_take_37 : decode cX5_take 37 = .ok (.bipush (-4), 2) := by decide +kernel
theorem dX5_take_39 : decode cX5_take 39 = .ok (.ireturn, 1) := by decide +kernel
theorem dX5_take_40 : decode cX5_take 40 = .ok (.aload_n 0, 1) := by decide +kernel
theorem dX5_take_41 : decode cX5_take 41 = .ok (.getfield 32, 3) := by decide +kernel
theorem dX5_take_44 : decode cX5_take 44 = .ok (.iconst 0, 1) := by decide +kernel
theorem dX5_take_45 : decode cX5_take 45 = .ok (.iaload, 1) := by decide +kernel
theorem dX5_take_46 : decode cX5_take 46 = .ok (.aload_n 0, 1) := by decide +kernel
theorem dX5_take_47 : decode cX5_take 47 = .ok (.getfield 32, 3) := by decide +kernel
theorem dX5_take_50 : decode cX5_take 50 = .ok (.iconst 1, 1) := by decide +kernel
theorem dX5_take_51 : decode cX5_take 51 = .ok (.iaload, 1) := by decide +kernel
theorem dX5_take_52 : decode cX5_take 52 = .ok (.iadd, 1) := by decide +kernel
theorem dX5_take_53 : decode cX5_take 53 = .ok (.aload_n 0, 1) := by decide +kernel
theorem dX5_take_54 : decode cX5_take 54 = .ok (.getfield 16, 3) := by decide +kernel
theorem dX5_take_57 : decode cX5_take 57 = .ok (.if_icmp .eq 25, 3) := by decide +kernel
theorem dX5_take_60 : decode cX5_take 60 = .ok (.aload_n 0, 1) := by decide +kernel
theorem dX5_take_61 : decode cX5_take 61 = .ok (.getfield 45, 3) := by decide +kernel
theorem dX5_take_64 : decode cX5_take 64 = .ok (.aload_n 0, 1) := by decide +kernel
theorem dX5_take_65 : decode cX5_take 65 = .ok (.iload_n 1, 1) := by decide +kernel
theorem dX5_take_66 : decode cX5_take 66 = .ok (.iload_n 2, 1) := by decide +kernel
theorem dX5_take_67 : decode cX5_take 67 = .ok (.iload_n 3, 1) := by decide +kernel
theorem dX5_take_68 : decode cX5_take 68 = .ok (.iload 4, 2) := by decide +kernel
theorem dX5_take_70 : decode cX5_take 70 = .ok (.iconst 0, 1) := by decide +kernel
theorem dX5_take_71 : decode cX5_take 71 = .ok (.invokevirtual 91, 3) := by decide +kernel
theorem dX5_take_74 : decode cX5_take 74 = .ok (.iadd, 1) := by decide +kernel
theorem dX5_take_75 : decode cX5_take 75 = .ok (.aload_n 0, 1) := by decide +kernel
theorem dX5_take_76 : decode cX5_take 76 = .ok (.getfield 19, 3) := by decide +kernel
theorem dX5_take_79 : decode cX5_take 79 = .ok (.if_icmp .le 6, 3) := by decide +kernel
theorem dX5_take_82 : decode cX5_take 82 = .ok (.bipush (-3), 2) := by decide +kernel
theorem dX5_take_84 : decode cX5_take 84 = .ok (.ireturn, 1) := by decide +kernel
theorem dX5_take_85 : decode cX5_take 85 = .ok (.aload_n 0, 1) := by decide +kernel
theorem dX5_take_86 : decode cX5_take 86 = .ok (.iload_n 1, 1) := by decide +kernel
theorem dX5_take_87 : decode cX5_take 87 = .ok (.iload_n 2, 1) := by decide +kernel
theorem dX5_take_88 : decode cX5_take 88 = .ok (.iload_n 3, 1) := by decide +kernel
theorem dX5_take_89 : decode cX5_take 89 = .ok (.iload 4, 2) := by decide +kernel
theorem dX5_take_91 : decode cX5_take 91 = .ok (.iconst 1, 1) := by decide +kernel
theorem dX5_take_92 : decode cX5_take 92 = .ok (.invokevirtual 91, 3) := by decide +kernel
theorem dX5_take_95 : decode cX5_take 95 = .ok (.istore 5, 2) := by decide +kernel
theorem dX5_take_97 : decode cX5_take 97 = .ok (.aload_n 0, 1) := by decide +kernel
theorem dX5_take_98 : decode cX5_take 98 = .ok (.getfield 32, 3) := by decide +kernel
theorem dX5_take_101 : decode cX5_take 101 = .ok (.iload_n 1, 1) := by decide +kernel
theorem dX5_take_102 : decode cX5_take 102 = .ok (.dup2, 1) := by decide +kernel
theorem dX5_take_103 : decode cX5_take 103 = .ok (.iaload, 1) := by decide +kernel
theorem dX5_take_104 : decode cX5_take 104 = .ok (.iconst 1, 1) := by decide +kernel
theorem dX5_take_105 : decode cX5_take 105 = .ok (.iadd, 1) := by decide +kernel
theorem dX5_take_106 : decode cX5_take 106 = .ok (.iastore, 1) := by decide +kernel
theorem dX5_take_107 : decode cX5_take 107 = .ok (.aload_n 0, 1) := by decide +kernel
theorem dX5_take_108 : decode cX5_take 108 = .ok (.dup, 1) := by decide +kernel
theorem dX5_take_109 : decode cX5_take 109 = .ok (.getfield 51, 3) := by decide +kernel
theorem dX5_take_112 : decode cX5_take 112 = .ok (.iload 5, 2) := by decide +kernel
theorem dX5_take_114 : decode cX5_take 114 = .ok (.iadd, 1) := by decide +kernel
theorem dX5_take_115 : decode cX5_take 115 = .ok (.putfield 51, 3) := by decide +kernel
theorem dX5_take_118 : decode cX5_take 118 = .ok (.aload_n 0, 1) := by decide +kernel
theorem dX5_take_119 : decode cX5_take 119 = .ok (.dup, 1) := by decide +kernel
theorem dX5_take_120 : decode cX5_take 120 = .ok (.getfield 57, 3) := by decide +kernel
theorem dX5_take_123 : decode cX5_take 123 = .ok (.iconst 1, 1) := by decide +kernel
theorem dX5_take_124 : decode cX5_take 124 = .ok (.iadd, 1) := by decide +kernel
theorem dX5_take_125 : decode cX5_take 125 = .ok (.putfield 57, 3) := by decide +kernel
theorem dX5_take_128 : decode cX5_take 128 = .ok (.iload 5, 2) := by decide +kernel
theorem dX5_take_130 : decode cX5_take 130 = .ok (.ireturn, 1) := by decide +kernel
set_option maxRecDepth 20000 in
theorem ggX5_eventA_X5_take : GoodIn wsX5_eventA wsX5_take := goodIn_r _ [5, 6, 7, 8, 9, 10, 11, 12, 13, 14, 15, 4, 16, 17, 18, 19, 20, 21, 22, 23, 24, 25, 26, 27, 28, 29, 30, 31, 32, 33, 34, 35, 36, 37, 38, 39, 40, 41, 42, 43, 44, 45, 46, 47, 48, 49, 50, 51, 52, 53, 54, 55, 56, 57, 58, 59, 60, 61, 62, 63, 64] (by decide +kernel) (by decide +kernel)
set_option maxRecDepth 20000 in
theorem gX5_eventA_X5_take : GoodIn wsX5_eventA (wsV RX5 95 RX5 yX5_take wsX5_take) := goodIn_app (goodIn_of _ (by decide +kernel)) ggX5_eventA_X5_take
theorem dX5_eventA_0 : decode cX5_eventA 0 = .ok (.aload_n 0, 1) := by decide +kernel
theorem dX5_eventA_1 : decode cX5_eventA 1 = .ok (.iconst 0, 1) := by decide +kernel
theorem dX5_eventA_2 : decode cX5_eventA 2 = .ok (.iload_n 1, 1) := by decide +kernel
theorem dX5_eventA_3 : decode cX5_eventA 3 = .ok (.iload_n 2, 1) := by decide +kernel
theorem dX5_eventA_4 : decode cX5_eventA 4 = .ok (.iload_n 3, 1) := by decide +kernel
theorem dX5_eventA_5 : decode cX5_eventA 5 = .ok (.invokevirtual 95, 3) := by decide +kernel
theorem dX5_eventA_8 : decode cX5_eventA 8 = .ok (.ireturn, 1) := by decide +kernel
set_option maxRecDepth 20000 in
theorem ggX5_eventB_X5_take : GoodIn wsX5_eventB wsX5_take := goodIn_r _ [5, 6, 7, 8, 9, 10, 11, 12, 13, 14, 15, 4, 16, 17, 18, 19, 20, 21, 22, 23, 24, 25, 26, 27, 28, 29, 30, 31, 32, 33, 34, 35, 36, 37, 38, 39, 40, 41, 42, 43, 44, 45, 46, 47, 48, 49, 50, 51, 52, 53, 54, 55, 56, 57, 58, 59, 60, 61, 62, 63, 64] (by decide +kernel) (by decide +kernel)
set_option maxRecDepth 20000 in
theorem gX5_eventB_X5_take : GoodIn wsX5_eventB (wsV RX5 95 RX5 yX5_take wsX5_take) := goodIn_app (goodIn_of _ (by decide +kernel)) ggX5_eventB_X5_take
theorem dX5_eventB_0 : decode cX5_eventB 0 = .ok (.aload_n 0, 1) := by decide +kernel
theorem dX5_eventB_1 : decode cX5_eventB 1 = .ok (.iconst 1, 1) := by decide +kernel
theorem dX5_eventB_2 : decode cX5_eventB 2 = .ok (.iload_n 1, 1) := by decide +kernel
theorem dX5_eventB_3 : decode cX5_eventB 3 = .ok (.iload_n 2, 1) := by decide +kernel
theorem dX5_eventB_4 : decode cX5_eventB 4 = .ok (.iload_n 3, 1) := by decide +kernel
theorem dX5_eventB_5 : decode cX5_eventB 5 = .ok (.invokevirtual 95, 3) := by decide +kernel
theorem dX5_eventB_8 : decode cX5_eventB 8 = .ok (.ireturn, 1) := by decide +kernel
theorem dX5_lastEnd_0 : decode cX5_lastEnd 0 = .ok (.aload_n 0, 1) := by decide +kernel
theorem dX5_lastEnd_1 : decode cX5_lastEnd 1 = .ok (.getfield 22, 3) := by decide +kernel
theorem dX5_lastEnd_4 : decode cX5_lastEnd 4 = .ok (.iload_n 1, 1) := by decide +kernel
theorem dX5_lastEnd_5 : decode cX5_lastEnd 5 = .ok (.iaload, 1) := by decide +kernel
theorem dX5_lastEnd_6 : decode cX5_lastEnd 6 = .ok (.aload_n 0, 1) := by decide +kernel
theorem dX5_lastEnd_7 : decode cX5_lastEnd 7 = .ok (.getfield 22, 3) := by decide +kernel
theorem dX5_lastEnd_10 : decode cX5_lastEnd 10 = .ok (.iload_n 1, 1) := by decide +kernel
theorem dX5_lastEnd_11 : decode cX5_lastEnd 11 = .ok (.iaload, 1) := by decide +kernel
theorem dX5_lastEnd_12 : decode cX5_lastEnd 12 = .ok (.aload_n 0, 1) := by decide +kernel
theorem dX5_lastEnd_13 : decode cX5_lastEnd 13 = .ok (.getfield 13, 3) := by decide +kernel
theorem dX5_lastEnd_16 : decode cX5_lastEnd 16 = .ok (.irem, 1) := by decide +kernel
theorem dX5_lastEnd_17 : decode cX5_lastEnd 17 = .ok (.aload_n 0, 1) := by decide +kernel
theorem dX5_lastEnd_18 : decode cX5_lastEnd 18 = .ok (.getfield 13, 3) := by decide +kernel
theorem dX5_lastEnd_21 : decode cX5_lastEnd 21 = .ok (.iadd, 1) := by decide +kernel
theorem dX5_lastEnd_22 : decode cX5_lastEnd 22 = .ok (.aload_n 0, 1) := by decide +kernel
theorem dX5_lastEnd_23 : decode cX5_lastEnd 23 = .ok (.getfield 13, 3) := by decide +kernel
theorem dX5_lastEnd_26 : decode cX5_lastEnd 26 = .ok (.irem, 1) := by decide +kernel
theorem dX5_lastEnd_27 : decode cX5_lastEnd 27 = .ok (.isub, 1) := by decide +kernel
theorem dX5_lastEnd_28 : decode cX5_lastEnd 28 = .ok (.i2l, 1) := by decide +kernel
theorem dX5_lastEnd_29 : decode cX5_lastEnd 29 = .ok (.lstore_n 2, 1) := by decide +kernel
theorem dX5_lastEnd_30 : decode cX5_lastEnd 30 = .ok (.lload_n 2, 1) := by decide +kernel
theorem dX5_lastEnd_31 : decode cX5_lastEnd 31 = .ok (.aload_n 0, 1) := by decide +kernel
theorem dX5_lastEnd_32 : decode cX5_lastEnd 32 = .ok (.getfield 7, 3) := by decide +kernel
theorem dX5_lastEnd_35 : decode cX5_lastEnd 35 = .ok (.i2l, 1) := by decide +kernel
theorem dX5_lastEnd_36 : decode cX5_lastEnd 36 = .ok (.ladd, 1) := by decide +kernel
theorem dX5_lastEnd_37 : decode cX5_lastEnd 37 = .ok (.lreturn, 1) := by decide +kernel
theorem dX5_isIn_0 : decode cX5_isIn 0 = .ok (.aload_n 0, 1) := by decide +kernel
theorem dX5_isIn_1 : decode cX5_isIn 1 = .ok (.getfield 22, 3) := by decide +kernel
theorem dX5_isIn_4 : decode cX5_isIn 4 = .ok (.iload_n 1, 1) := by decide +kernel
theorem dX5_isIn_5 : decode cX5_isIn 5 = .ok (.iaload, 1) := by decide +kernel
theorem dX5_isIn_6 : decode cX5_isIn 6 = .ok (.i2l, 1) := by decide +kernel
theorem dX5_isIn_7 : decode cX5_isIn 7 = .ok (.lload_n 2, 1) := by decide +kernel
theorem dX5_isIn_8 : decode cX5_isIn 8 = .ok (.lcmp, 1) := by decide +kernel
theorem dX5_isIn_9 : decode cX5_isIn 9 = .ok (.ifCond .ge 25, 3) := by decide +kernel
theorem dX5_isIn_12 : decode cX5_isIn 12 = .ok (.aload_n 0, 1) := by decide +kernel
theorem dX5_isIn_13 : decode cX5_isIn 13 = .ok (.getfield 22, 3) := by decide +kernel
theorem dX5_isIn_16 : decode cX5_isIn 16 = .ok (.iload_n 1, 1) := by decide +kernel
theorem dX5_isIn_17 : decode cX5_isIn 17 = .ok (.iaload, 1) := by decide +kernel
theorem dX5_isIn_18 : decode cX5_isIn 18 = .ok (.i2l, 1) := by decide +kernel
theorem dX5_isIn_19 : decode cX5_isIn 19 = .ok (.lload_n 2, 1) := by decide +kernel
theorem dX5_isIn_20 : decode cX5_isIn 20 = .ok (.aload_n 0, 1) := by decide +kernel
theorem dX5_isIn_21 : decode cX5_isIn 21 = .ok (.getfield 7, 3) := by decide +kernel
theorem dX5_isIn_24 : decode cX5_isIn 24 = .ok (.i2l, 1) := by decide +kernel
theorem dX5_isIn_25 : decode cX5_isIn 25 = .ok (.lsub, 1) := by decide +kernel
theorem dX5_isIn_26 : decode cX5_isIn 26 = .ok (.lcmp, 1) := by decide +kernel
theorem dX5_isIn_27 : decode cX5_isIn 27 = .ok (.ifCond .lt 7, 3) := by decide +kernel
theorem dX5_isIn_30 : decode cX5_isIn 30 = .ok (.iconst 1, 1) := by decide +kernel
theorem dX5_isIn_31 : decode cX5_isIn 31 = .ok (.goto 4, 3) := by decide +kernel
theorem dX5_isIn_34 : decode cX5_isIn 34 = .ok (.iconst 0, 1) := by decide +kernel
theorem dX5_isIn_35 : decode cX5_isIn 35 = .ok (.ireturn, 1) := by decide +kernel
theorem dX5_isOver_0 : decode cX5_isOver 0 = .ok (.lload_n 1, 1) := by decide +kernel
theorem dX5_isOver_1 : decode cX5_isOver 1 = .ok (.aload_n 0, 1) := by decide +kernel
theorem dX5_isOver_2 : decode cX5_isOver 2 = .ok (.getfield 67, 3) := by decide +kernel
theorem dX5_isOver_5 : decode cX5_isOver 5 = .ok (.i2l, 1) := by decide +kernel
theorem dX5_isOver_6 : decode cX5_isOver 6 = .ok (.ladd, 1) := by decide +kernel
theorem dX5_isOver_7 : decode cX5_isOver 7 = .ok (.lload_n 3, 1) := by decide +kernel
theorem dX5_isOver_8 : decode cX5_isOver 8 = .ok (.lcmp, 1) := by decide +kernel
theorem dX5_isOver_9 : decode cX5_isOver 9 = .ok (.ifCond .gt 7, 3) := by decide +kernel
theorem dX5_isOver_12 : decode cX5_isOver 12 = .ok (.iconst 1, 1) := by decide +kernel
theorem dX5_isOver_13 : decode cX5_isOver 13 = .ok (.goto 4, 3) := by decide +kernel
theorem dX5_isOver_16 : decode cX5_isOver 16 = .ok (.iconst 0, 1) := by decide +kernel
theorem dX5_isOver_17 : decode cX5_isOver 17 = .ok (.ireturn, 1) := by decide +kernel
set_option maxRecDepth 20000 in
theorem ggX5_nextEnd_X5_lastEnd : GoodIn wsX5_nextEnd wsX5_lastEnd := goodIn_r _ [8, 9, 3, 10, 15, 16, 17, 18, 19, 20, 21, 22, 23, 24, 25, 26, 27, 28, 29, 30, 31, 32, 33, 34, 35] (by decide +kernel) (by decide +kernel)
set_option maxRecDepth 20000 in
theorem gX5_nextEnd_X5_lastEnd : GoodIn wsX5_nextEnd (wsV RX5 101 RX5 yX5_lastEnd wsX5_lastEnd) := goodIn_app (goodIn_of _ (by decide +kernel)) ggX5_nextEnd_X5_lastEnd
set_option maxRecDepth 20000 in
theorem ggX5_nextEnd_X5_isIn : GoodIn wsX5_nextEnd wsX5_isIn := goodIn_r _ [14, 9, 10, 15, 16, 17, 18, 19, 20, 21, 22, 23, 24, 25, 26, 27, 28, 29, 30, 31, 32, 33, 34, 35] (by decide +kernel) (by decide +kernel)
set_option maxRecDepth 20000 in
theorem gX5_nextEnd_X5_isIn : GoodIn wsX5_nextEnd (wsV RX5 105 RX5 yX5_isIn wsX5_isIn) := goodIn_app (goodIn_of _ (by decide +kernel)) ggX5_nextEnd_X5_isIn
theorem dX5_nextEnd_0 : decode cX5_nextEnd 0 = .ok (.ldc2_w 99, 3) := by decide +kernel
theorem dX5_nextEnd_3 : decode cX5_nextEnd 3 = .ok (.lstore_n 3, 1) := by decide +kernel
theorem dX5_nextEnd_4 : decode cX5_nextEnd 4 = .ok (.iconst 0, 1) := by decide +kernel
theorem dX5_nextEnd_5 : decode cX5_nextEnd 5 = .ok (.istore 5, 2) := by decide +kernel
theorem dX5_nextEnd_7 : decode cX5_nextEnd 7 = .ok (.iload 5, 2) := by decide +kernel
theorem dX5_nextEnd_9 : decode cX5_nextEnd 9 = .ok (.aload_n 0, 1) := by decide +kernel
theorem dX5_nextEnd_10 : decode cX5_nextEnd 10 = .ok (.getfield 32, 3) := by decide +kernel
theorem dX5_nextEnd_13 : decode cX5_nextEnd 13 = .ok (.iconst 0, 1) := by decide +kernel
theorem dX5_nextEnd_14 : decode cX5_nextEnd 14 = .ok (.iaload, 1) := by decide +kernel
theorem dX5_nextEnd_15 : decode cX5_nextEnd 15 = .ok (.if_icmp .ge 87, 3) := by decide +kernel
theorem dX5_nextEnd_18 : decode cX5_nextEnd 18 = .ok (.iconst 0, 1) := by decide +kernel
theorem dX5_nextEnd_19 : decode cX5_nextEnd 19 = .ok (.istore 6, 2) := by decide +kernel
theorem dX5_nextEnd_21 : decode cX5_nextEnd 21 = .ok (.iload 6, 2) := by decide +kernel
theorem dX5_nextEnd_23 : decode cX5_nextEnd 23 = .ok (.bipush 16, 2) := by decide +kernel
theorem dX5_nextEnd_25 : decode cX5_nextEnd 25 = .ok (.if_icmp .ge 71, 3) := by decide +kernel
theorem dX5_nextEnd_28 : decode cX5_nextEnd 28 = .ok (.aload_n 0, 1) := by decide +kernel
theorem dX5_nextEnd_29 : decode cX5_nextEnd 29 = .ok (.iload 5, 2) := by decide +kernel
theorem dX5_nextEnd_31 : decode cX5_nextEnd 31 = .ok (.invokevirtual 101, 3) := by decide +kernel
theorem dX5_nextEnd_34 : decode cX5_nextEnd 34 = .ok (.iload 6, 2) := by decide +kernel
theorem dX5_nextEnd_36 : decode cX5_nextEnd 36 = .ok (.i2l, 1) := by decide +kernel
theorem dX5_nextEnd_37 : decode cX5_nextEnd 37 = .ok (.aload_n 0, 1) := by decide +kernel
theorem dX5_nextEnd_38 : decode cX5_nextEnd 38 = .ok (.getfield 13, 3) := by decide +kernel
theorem dX5_nextEnd_41 : decode cX5_nextEnd 41 = .ok (.i2l, 1) := by decide +kernel
theorem dX5_nextEnd_42 : decode cX5_nextEnd 42 = .ok (.lmul, 1) := by decide +kernel
theorem dX5_nextEnd_43 : decode cX5_nextEnd 43 = .ok (.lsub, 1) := by decide +kernel
theorem dX5_nextEnd_44 : decode cX5_nextEnd 44 = .ok (.lstore 7, 2) := by decide +kernel
theorem dX5_nextEnd_46 : decode cX5_nextEnd 46 = .ok (.aload_n 0, 1) := by decide +kernel
theorem dX5_nextEnd_47 : decode cX5_nextEnd 47 = .ok (.iload 5, 2) := by decide +kernel
theorem dX5_nextEnd_49 : decode cX5_nextEnd 49 = .ok (.lload 7, 2) := by decide +kernel
theorem dX5_nextEnd_51 : decode cX5_nextEnd 51 = .ok (.invokevirtual 105, 3) := by decide +kernel
theorem dX5_nextEnd_54 : decode cX5_nextEnd 54 = .ok (.ifCond .eq 21, 3) := by decide +kernel
theorem dX5_nextEnd_57 : decode cX5_nextEnd 57 = .ok (.lload 7, 2) := by decide +kernel
theorem dX5_nextEnd_59 : decode cX5_nextEnd 59 = .ok (.lload_n 1, 1) := by decide +kernel
theorem dX5_nextEnd_60 : decode cX5_nextEnd 60 = .ok (.lcmp, 1) := by decide +kernel
theorem dX5_nextEnd_61 : decode cX5_nextEnd 61 = .ok (.ifCond .le 14, 3) := by decide +kernel
theorem dX5_nextEnd_64 : decode cX5_nextEnd 64 = .ok (.lload 7, 2) := by decide +kernel
theorem dX5_nextEnd_66 : decode cX5_nextEnd 66 = .ok (.lload_n 3, 1) := by decide +kernel
theorem dX5_nextEnd_67 : decode cX5_nextEnd 67 = .ok (.lcmp, 1) := by decide +kernel
theorem dX5_nextEnd_68 : decode cX5_nextEnd 68 = .ok (.ifCond .ge 7, 3) := by decide +kernel
theorem dX5_nextEnd_71 : decode cX5_nextEnd 71 = .ok (.iconst 1, 1) := by decide +kernel
theorem dX5_nextEnd_72 : decode cX5_nextEnd 72 = .ok (.goto 4, 3) := by decide +kernel
theorem dX5_nextEnd_75 : decode cX5_nextEnd 75 = .ok (.iconst 0, 1) := by decide +kernel
theorem dX5_nextEnd_76 : decode cX5_nextEnd 76 = .ok (.istore 9, 2) := by decide +kernel
theorem dX5_nextEnd_78 : decode cX5_nextEnd 78 = .ok (.iload 9, 2) := by decide +kernel
theorem dX5_nextEnd_80 : decode cX5_nextEnd 80 = .ok (.ifCond .eq 8, 3) := by decide +kernel
theorem dX5_nextEnd_83 : decode cX5_nextEnd 83 = .ok (.lload 7, 2) := by decide +kernel
theorem dX5_nextEnd_85 : decode cX5_nextEnd 85 = .ok (.goto 4, 3) := by decide +kernel
theorem dX5_nextEnd_88 : decode cX5_nextEnd 88 = .ok (.lload_n 3, 1) := by decide +kernel
theorem dX5_nextEnd_89 : decode cX5_nextEnd 89 = .ok (.lstore_n 3, 1) := by decide +kernel
theorem dX5_nextEnd_90 : decode cX5_nextEnd 90 = .ok (.iinc 6 1, 3) := by decide +kernel
theorem dX5_nextEnd_93 : decode cX5_nextEnd 93 = .ok (.goto (-72), 3) := by decide +kernel
theorem dX5_nextEnd_96 : decode cX5_nextEnd 96 = .ok (.iinc 5 1, 3) := by decide +kernel
theorem dX5_nextEnd_99 : decode cX5_nextEnd 99 = .ok (.goto (-92), 3) := by decide +kernel
theorem dX5_nextEnd_102 : decode cX5_nextEnd 102 = .ok (.lload_n 3, 1) := by decide +kernel
theorem dX5_nextEnd_103 : decode cX5_nextEnd 103 = .ok (.lreturn, 1) := by decide +kernel
set_option maxRecDepth 20000 in
theorem ggX5_nextKey_X5_isIn : GoodIn wsX5_nextKey wsX5_isIn := goodIn_r _ [8, 9, 10, 11, 12, 13, 14, 15, 16, 17, 18, 19, 20, 21, 22, 23, 24, 25, 26, 27, 28, 29, 30, 31] (by decide +kernel) (by decide +kernel)
set_option maxRecDepth 20000 in
theorem gX5_nextKey_X5_isIn : GoodIn wsX5_nextKey (wsV RX5 105 RX5 yX5_isIn wsX5_isIn) := goodIn_app (goodIn_of _ (by decide +kernel)) ggX5_nextKey_X5_isIn
theorem dX5_nextKey_0 : decode cX5_nextKey 0 = .ok (.ldc2_w 99, 3) := by decide +kernel
theorem dX5_nextKey_3 : decode cX5_nextKey 3 = .ok (.lstore 5, 2) := by decide +kernel
theorem dX5_nextKey_5 : decode cX5_nextKey 5 = .ok (.iconst 0, 1) := by decide +kernel
theorem dX5_nextKey_6 : decode cX5_nextKey 6 = .ok (.istore 7, 2) := by decide +kernel
theorem dX5_nextKey_8 : decode cX5_nextKey 8 = .ok (.iload 7, 2) := by decide +kernel
theorem dX5_nextKey_10 : decode cX5_nextKey 10 = .ok (.aload_n 0, 1) := by decide +kernel
theorem dX5_nextKey_11 : decode cX5_nextKey 11 = .ok (.getfield 32, 3) := by decide +kernel
theorem dX5_nextKey_14 : decode cX5_nextKey 14 = .ok (.iconst 0, 1) := by decide +kernel
theorem dX5_nextKey_15 : decode cX5_nextKey 15 = .ok (.iaload, 1) := by decide +kernel
theorem dX5_nextKey_16 : decode cX5_nextKey 16 = .ok (.if_icmp .ge 61, 3) := by decide +kernel
theorem dX5_nextKey_19 : decode cX5_nextKey 19 = .ok (.aload_n 0, 1) := by decide +kernel
theorem dX5_nextKey_20 : decode cX5_nextKey 20 = .ok (.iload 7, 2) := by decide +kernel
theorem dX5_nextKey_22 : decode cX5_nextKey 22 = .ok (.lload_n 1, 1) := by decide +kernel
theorem dX5_nextKey_23 : decode cX5_nextKey 23 = .ok (.invokevirtual 105, 3) := by decide +kernel
theorem dX5_nextKey_26 : decode cX5_nextKey 26 = .ok (.ifCond .eq 41, 3) := by decide +kernel
theorem dX5_nextKey_29 : decode cX5_nextKey 29 = .ok (.aload_n 0, 1) := by decide +kernel
theorem dX5_nextKey_30 : decode cX5_nextKey 30 = .ok (.getfield 26, 3) := by decide +kernel
theorem dX5_nextKey_33 : decode cX5_nextKey 33 = .ok (.iload 7, 2) := by decide +kernel
theorem dX5_nextKey_35 : decode cX5_nextKey 35 = .ok (.iaload, 1) := by decide +kernel
theorem dX5_nextKey_36 : decode cX5_nextKey 36 = .ok (.i2l, 1) := by decide +kernel
theorem dX5_nextKey_37 : decode cX5_nextKey 37 = .ok (.lload_n 3, 1) := by decide +kernel
theorem dX5_nextKey_38 : decode cX5_nextKey 38 = .ok (.lcmp, 1) := by decide +kernel
theorem dX5_nextKey_39 : decode cX5_nextKey 39 = .ok (.ifCond .le 28, 3) := by decide +kernel
theorem dX5_nextKey_42 : decode cX5_nextKey 42 = .ok (.aload_n 0, 1) := by decide +kernel
theorem dX5_nextKey_43 : decode cX5_nextKey 43 = .ok (.getfield 26, 3) := by decide +kernel
theorem dX5_nextKey_46 : decode cX5_nextKey 46 = .ok (.iload 7, 2) := by decide +kernel
theorem dX5_nextKey_48 : decode cX5_nextKey 48 = .ok (.iaload, 1) := by decide +kernel
theorem dX5_nextKey_49 : decode cX5_nextKey 49 = .ok (.i2l, 1) := by decide +kernel
theorem dX5_nextKey_50 : decode cX5_nextKey 50 = .ok (.lload 5, 2) := by decide +kernel
theorem dX5_nextKey_52 : decode cX5_nextKey 52 = .ok (.lcmp, 1) := by decide +kernel
theorem dX5_nextKey_53 : decode cX5_nextKey 53 = .ok (.ifCond .ge 14, 3) := by decide +kernel
theorem dX5_nextKey_56 : decode cX5_nextKey 56 = .ok (.aload_n 0, 1) := by decide +kernel
theorem dX5_nextKey_57 : decode cX5_nextKey 57 = .ok (.getfield 26, 3) := by decide +kernel
theorem dX5_nextKey_60 : decode cX5_nextKey 60 = .ok (.iload 7, 2) := by decide +kernel
theorem dX5_nextKey_62 : decode cX5_nextKey 62 = .ok (.iaload, 1) := by decide +kernel
theorem dX5_nextKey_63 : decode cX5_nextKey 63 = .ok (.i2l, 1) := by decide +kernel
theorem dX5_nextKey_64 : decode cX5_nextKey 64 = .ok (.goto 5, 3) := by decide +kernel
theorem dX5_nextKey_67 : decode cX5_nextKey 67 = .ok (.lload 5, 2) := by decide +kernel
theorem dX5_nextKey_69 : decode cX5_nextKey 69 = .ok (.lstore 5, 2) := by decide +kernel
theorem dX5_nextKey_71 : decode cX5_nextKey 71 = .ok (.iinc 7 1, 3) := by decide +kernel
theorem dX5_nextKey_74 : decode cX5_nextKey 74 = .ok (.goto (-66), 3) := by decide +kernel
theorem dX5_nextKey_77 : decode cX5_nextKey 77 = .ok (.lload 5, 2) := by decide +kernel
theorem dX5_nextKey_79 : decode cX5_nextKey 79 = .ok (.lreturn, 1) := by decide +kernel
set_option maxRecDepth 20000 in
theorem ggX5_gather_X5_isIn : GoodIn wsX5_gather wsX5_isIn := goodIn_r _ [11, 12, 13, 14, 15, 16, 17, 18, 19, 20, 21, 22, 23, 24, 25, 26, 27, 28, 29, 30, 31, 32, 33, 34] (by decide +kernel) (by decide +kernel)
set_option maxRecDepth 20000 in
theorem gX5_gather_X5_isIn : GoodIn wsX5_gather (wsV RX5 105 RX5 yX5_isIn wsX5_isIn) := goodIn_app (goodIn_of _ (by decide +kernel)) ggX5_gather_X5_isIn
theorem dX5_gather_0 : decode cX5_gather 0 = .ok (.aload_n 0, 1) := by decide +kernel
theorem dX5_gather_1 : decode cX5_gather 1 = .ok (.iconst 0, 1) := by decide +kernel
theorem dX5_gather_2 : decode cX5_gather 2 = .ok (.putfield 109, 3) := by decide +kernel
theorem dX5_gather_5 : decode cX5_gather 5 = .ok (.aload_n 0, 1) := by decide +kernel
theorem dX5_gather_6 : decode cX5_gather 6 = .ok (.iconst 0, 1) := by decide +kernel
theorem dX5_gather_7 : decode cX5_gather 7 = .ok (.putfield 112, 3) := by decide +kernel
theorem dX5_gather_10 : decode cX5_gather 10 = .ok (.aload_n 0, 1) := by decide +kernel
theorem dX5_gather_11 : decode cX5_gather 11 = .ok (.iconst 0, 1) := by decide +kernel
theorem dX5_gather_12 : decode cX5_gather 12 = .ok (.putfield 115, 3) := by decide +kernel
theorem dX5_gather_15 : decode cX5_gather 15 = .ok (.iconst 0, 1) := by decide +kernel
theorem dX5_gather_16 : decode cX5_gather 16 = .ok (.istore 4, 2) := by decide +kernel
theorem dX5_gather_18 : decode cX5_gather 18 = .ok (.iload 4, 2) := by decide +kernel
theorem dX5_gather_20 : decode cX5_gather 20 = .ok (.aload_n 0, 1) := by decide +kernel
theorem dX5_gather_21 : decode cX5_gather 21 = .ok (.getfield 32, 3) := by decide +kernel
theorem dX5_gather_24 : decode cX5_gather 24 = .ok (.iconst 0, 1) := by decide +kernel
theorem dX5_gather_25 : decode cX5_gather 25 = .ok (.iaload, 1) := by decide +kernel
theorem dX5_gather_26 : decode cX5_gather 26 = .ok (.if_icmp .ge 95, 3) := by decide +kernel
theorem dX5_gather_29 : decode cX5_gather 29 = .ok (.aload_n 0, 1) := by decide +kernel
theorem dX5_gather_30 : decode cX5_gather 30 = .ok (.iload 4, 2) := by decide +kernel
theorem dX5_gather_32 : decode cX5_gather 32 = .ok (.lload_n 1, 1) := by decide +kernel
theorem dX5_gather_33 : decode cX5_gather 33 = .ok (.invokevirtual 105, 3) := by decide +kernel
theorem dX5_gather_36 : decode cX5_gather 36 = .ok (.ifCond .eq 79, 3) := by decide +kernel
theorem dX5_gather_39 : decode cX5_gather 39 = .ok (.aload_n 0, 1) := by decide +kernel
theorem dX5_gather_40 : decode cX5_gather 40 = .ok (.getfield 26, 3) := by decide +kernel
theorem dX5_gather_43 : decode cX5_gather 43 = .ok (.iload 4, 2) := by decide +kernel
theorem dX5_gather_45 : decode cX5_gather 45 = .ok (.iaload, 1) := by decide +kernel
theorem dX5_gather_46 : decode cX5_gather 46 = .ok (.iload_n 3, 1) := by decide +kernel
theorem dX5_gather_47 : decode cX5_gather 47 = .ok (.if_icmp .ne 68, 3) := by decide +kernel
theorem dX5_gather_50 : decode cX5_gather 50 = .ok (.aload_n 0, 1) := by decide +kernel
theorem dX5_gather_51 : decode cX5_gather 51 = .ok (.aload_n 0, 1) := by decide +kernel
theorem dX5_gather_52 : decode cX5_gather 52 = .ok (.getfield 112, 3) := by decide +kernel
theorem dX5_gather_55 : decode cX5_gather 55 = .ok (.ifCond .eq 17, 3) := by decide +kernel
theorem dX5_gather_58 : decode cX5_gather 58 = .ok (.aload_n 0, 1) := by decide +kernel
theorem dX5_gather_59 : decode cX5_gather 59 = .ok (.getfield 29, 3) := by decide +kernel
theorem dX5_gather_62 : decode cX5_gather 62 = .ok (.iload 4, 2) := by decide +kernel
theorem dX5_gather_64 : decode cX5_gather 64 = .ok (.iaload, 1) := by decide +kernel
theorem dX5_gather_65 : decode cX5_gather 65 = .ok (.aload_n 0, 1) := by decide +kernel
theorem dX5_gather_66 : decode cX5_gather 66 = .ok (.getfield 115, 3) := by decide +kernel
theorem dX5_gather_69 : decode cX5_gather 69 = .ok (.if_icmp .le 13, 3) := by decide +kernel
theorem dX5_gather_72 : decode cX5_gather 72 = .ok (.aload_n 0, 1) := by decide +kernel
theorem dX5_gather_73 : decode cX5_gather 73 = .ok (.getfield 29, 3) := by decide +kernel
theorem dX5_gather_76 : decode cX5_gather 76 = .ok (.iload 4, 2) := by decide +kernel
theorem dX5_gather_78 : decode cX5_gather 78 = .ok (.iaload, 1) := by decide +kernel
theorem dX5_gather_79 : decode cX5_gather 79 = .ok (.goto 7, 3) := by decide +kernel
theorem dX5_gather_82 : decode cX5_gather 82 = .ok (.aload_n 0, 1) := by decide +kernel
theorem dX5_gather_83 : decode cX5_gather 83 = .ok (.getfield 115, 3) := by decide +kernel
theorem dX5_gather_86 : decode cX5_gather 86 = .ok (.putfield 115, 3) := by decide +kernel
theorem dX5_gather_89 : decode cX5_gather 89 = .ok (.aload_n 0, 1) := by decide +kernel
theorem dX5_gather_90 : decode cX5_gather 90 = .ok (.dup, 1) := by decide +kernel
theorem dX5_gather_91 : decode cX5_gather 91 = .ok (.getfield 109, 3) := by decide +kernel
theorem dX5_gather_94 : decode cX5_gather 94 = .ok (.aload_n 0, 1) := by decide +kernel
theorem dX5_gather_95 : decode cX5_gather 95 = .ok (.getfield 29, 3) := by decide +kernel
theorem dX5_gather_98 : decode cX5_gather 98 = .ok (.iload 4, 2) := by decide +kernel
theorem dX5_gather_100 : decode cX5_gather 100 = .ok (.iaload, 1) := by decide +kernel
theorem dX5_gather_101 : decode cX5_gather 101 = .ok (.iadd, 1) := by decide +kernel
theorem dX5_gather_102 : decode cX5_gather 102 = .ok (.putfield 109, 3) := by decide +kernel
theorem dX5_gather_105 : decode cX5_gather 105 = .ok (.aload_n 0, 1) := by decide +kernel
theorem dX5_gather_106 : decode cX5_gather 106 = .ok (.dup, 1) := by decide +kernel
theorem dX5_gather_107 : decode cX5_gather 107 = .ok (.getfield 112, 3) := by decide +kernel
theorem dX5_gather_110 : decode cX5_gather 110 = .ok (.iconst 1, 1) := by decide +kernel
theorem dX5_gather_111 : decode cX5_gather 111 = .ok (.iadd, 1) := by decide +kernel
theorem dX5_gather_112 : decode cX5_gather 112 = .ok (.putfield 112, 3) := by decide +kernel
theorem dX5_gather_115 : decode cX5_gather 115 = .ok (.iinc 4 1, 3) := by decide +kernel
theorem dX5_gather_118 : decode cX5_gather 118 = .ok (.goto (-100), 3) := by decide +kernel
theorem dX5_gather_121 : decode cX5_gather 121 = .ok (.return_, 1) := by decide +kernel
set_option maxRecDepth 20000 in
theorem ggX5_goOver_X5_nextEnd : GoodIn wsX5_goOver wsX5_nextEnd := goodIn_r _ [11, 3, 12, 13, 14, 15, 16, 10, 17, 18, 19, 20, 21, 22, 23, 45, 46, 47, 48, 49, 50, 51, 52, 53, 54, 55, 56, 57, 58, 59, 60, 61, 62, 63, 64, 65] (by decide +kernel) (by decide +kernel)
set_option maxRecDepth 20000 in
theorem gX5_goOver_X5_nextEnd : GoodIn wsX5_goOver (wsV RX5 123 RX5 yX5_nextEnd wsX5_nextEnd) := goodIn_app (goodIn_of _ (by decide +kernel)) ggX5_goOver_X5_nextEnd
set_option maxRecDepth 20000 in
theorem ggX5_goOver_X5_isOver : GoodIn wsX5_goOver wsX5_isOver := goodIn_r _ [27, 28, 45, 46, 47, 48, 49, 50, 51, 52, 53, 54, 55, 56, 57, 58, 59, 60, 61, 62, 63, 64, 65] (by decide +kernel) (by decide +kernel)
set_option maxRecDepth 20000 in
theorem gX5_goOver_X5_isOver : GoodIn wsX5_goOver (wsV RX5 127 RX5 yX5_isOver wsX5_isOver) := goodIn_app (goodIn_of _ (by decide +kernel)) ggX5_goOver_X5_isOver
set_option maxRecDepth 20000 in
theorem ggX5_goOver_X5_nextKey : GoodIn wsX5_goOver wsX5_nextKey := goodIn_r _ [32, 3, 12, 33, 20, 21, 22, 10, 23, 18, 19, 45, 46, 47, 48, 49, 50, 51, 52, 53, 54, 55, 56, 57, 58, 59, 60, 61, 62, 63, 64, 65] (by decide +kernel) (by decide +kernel)
set_option maxRecDepth 20000 in
theorem gX5_goOver_X5_nextKey : GoodIn wsX5_goOver (wsV RX5 131 RX5 yX5_nextKey wsX5_nextKey) := goodIn_app (goodIn_of _ (by decide +kernel)) ggX5_goOver_X5_nextKey
set_option maxRecDepth 20000 in
theorem ggX5_goOver_X5_gather : GoodIn wsX5_goOver wsX5_gather := goodIn_r _ [37, 4, 5, 6, 12, 33, 38, 20, 21, 22, 10, 23, 18, 19, 45, 46, 47, 48, 49, 50, 51, 52, 53, 54, 55, 56, 57, 58, 59, 60, 61, 62, 63, 64, 65] (by decide +kernel) (by decide +kernel)
set_option maxRecDepth 20000 in
theorem gX5_goOver_X5_gather : GoodIn wsX5_goOver (wsV RX5 135 RX5 yX5_gather wsX5_gather) := goodIn_app (goodIn_of _ (by decide +kernel)) ggX5_goOver_X5_gather
set_option maxRecDepth 20000 in
theorem ggX5_goOver_X5_record : GoodIn wsX5_goOver wsX5_record := goodIn_r _ [42, 43, 44, 45, 46, 47, 48, 49, 50, 51, 52, 53, 54, 55, 56, 57, 58, 59, 60, 61, 62, 63, 64, 65] (by decide +kernel) (by decide +kernel)
set_option maxRecDepth 20000 in
theorem gX5_goOver_X5_record : GoodIn wsX5_goOver (wsV RX5 79 RX5 yX5_record wsX5_record) := goodIn_app (goodIn_of _ (by decide +kernel)) ggX5_goOver_X5_record
theorem dX5_goOver_0 : decode cX5_goOver 0 = .ok (.iconst 0, 1) := by decide +kernel
theorem dX5_goOver_1 : decode cX5_goOver 1 = .ok (.istore 6, 2) := by decide +kernel
theorem dX5_goOver_3 : decode cX5_goOver 3 = .ok (.aload_n 0, 1) := by decide +kernel
theorem dX5_goOver_4 : decode cX5_goOver 4 = .ok (.iconst 0, 1) := by decide +kernel
theorem dX5_goOver_5 : decode cX5_goOver 5 = .ok (.putfield 118, 3) := by decide +kernel
theorem dX5_goOver_8 : decode cX5_goOver 8 = .ok (.aload_n 0, 1) := by decide +kernel
theorem dX5_goOver_9 : decode cX5_goOver 9 = .ok (.ldc2_w 121, 3) := by decide +kernel
theorem dX5_goOver_12 : decode cX5_goOver 12 = .ok (.invokevirtual 123, 3) := by decide +kernel
theorem dX5_goOver_15 : decode cX5_goOver 15 = .ok (.lstore 7, 2) := by decide +kernel
theorem dX5_goOver_17 : decode cX5_goOver 17 = .ok (.lload 7, 2) := by decide +kernel
theorem dX5_goOver_19 : decode cX5_goOver 19 = .ok (.ldc2_w 99, 3) := by decide +kernel
theorem dX5_goOver_22 : decode cX5_goOver 22 = .ok (.lcmp, 1) := by decide +kernel
theorem dX5_goOver_23 : decode cX5_goOver 23 = .ok (.ifCond .ge 117, 3) := by decide +kernel
theorem dX5_goOver_26 : decode cX5_goOver 26 = .ok (.aload_n 0, 1) := by decide +kernel
theorem dX5_goOver_27 : decode cX5_goOver 27 = .ok (.lload 7, 2) := by decide +kernel
theorem dX5_goOver_29 : decode cX5_goOver 29 = .ok (.lload_n 3, 1) := by decide +kernel
theorem dX5_goOver_30 : decode cX5_goOver 30 = .ok (.invokevirtual 127, 3) := by decide +kernel
theorem dX5_goOver_33 : decode cX5_goOver 33 = .ok (.ifCond .eq 107, 3) := by decide +kernel
theorem dX5_goOver_36 : decode cX5_goOver 36 = .ok (.aload_n 0, 1) := by decide +kernel
theorem dX5_goOver_37 : decode cX5_goOver 37 = .ok (.lload 7, 2) := by decide +kernel
theorem dX5_goOver_39 : decode cX5_goOver 39 = .ok (.lload_n 1, 1) := by decide +kernel
theorem dX5_goOver_40 : decode cX5_goOver 40 = .ok (.invokevirtual 127, 3) := by decide +kernel
theorem dX5_goOver_43 : decode cX5_goOver 43 = .ok (.ifCond .ne 86, 3) := by decide +kernel
theorem dX5_goOver_46 : decode cX5_goOver 46 = .ok (.iinc 6 1, 3) := by decide +kernel
end
section
theorem dX5_goOver_49 : decode cX5_goOver 49 = .ok (.aload_n 0, 1) := by decide +kernel
theorem dX5_goOver_50 : decode cX5_goOver 50 = .ok (.lload 7, 2) := by decide +kernel
theorem dX5_goOver_52 : decode cX5_goOver 52 = .ok (.ldc2_w 121, 3) := by decide +kernel
theorem dX5_goOver_55 : decode cX5_goOver 55 = .ok (.invokevirtual 131, 3) := by decide +kernel
theorem dX5_goOver_58 : decode cX5_goOver 58 = .ok (.lstore 9, 2) := by decide +kernel
theorem dX5_goOver_60 : decode cX5_goOver 60 = .ok (.lload 9, 2) := by decide +kernel
theorem dX5_goOver_62 : decode cX5_goOver 62 = .ok (.ldc2_w 99, 3) := by decide +kernel
theorem dX5_goOver_65 : decode cX5_goOver 65 = .ok (.lcmp, 1) := by decide +kernel
theorem dX5_goOver_66 : decode cX5_goOver 66 = .ok (.ifCond .ge 63, 3) := by decide +kernel
theorem dX5_goOver_69 : decode cX5_goOver 69 = .ok (.aload_n 0, 1) := by decide +kernel
theorem dX5_goOver_70 : decode cX5_goOver 70 = .ok (.dup, 1) := by decide +kernel
theorem dX5_goOver_71 : decode cX5_goOver 71 = .ok (.getfield 118, 3) := by decide +kernel
theorem dX5_goOver_74 : decode cX5_goOver 74 = .ok (.iconst 1, 1) := by decide +kernel
theorem dX5_goOver_75 : decode cX5_goOver 75 = .ok (.iadd, 1) := by decide +kernel
theorem dX5_goOver_76 : decode cX5_goOver 76 = .ok (.putfield 118, 3) := by decide +kernel
theorem dX5_goOver_79 : decode cX5_goOver 79 = .ok (.iload 5, 2) := by decide +kernel
theorem dX5_goOver_81 : decode cX5_goOver 81 = .ok (.ifCond .eq 35, 3) := by decide +kernel
theorem dX5_goOver_84 : decode cX5_goOver 84 = .ok (.aload_n 0, 1) := by decide +kernel
theorem dX5_goOver_85 : decode cX5_goOver 85 = .ok (.lload 7, 2) := by decide +kernel
theorem dX5_goOver_87 : decode cX5_goOver 87 = .ok (.lload 9, 2) := by decide +kernel
theorem dX5_goOver_89 : decode cX5_goOver 89 = .ok (.l2i, 1) := by decide +kernel
theorem dX5_goOver_90 : decode cX5_goOver 90 = .ok (.invokevirtual 135, 3) := by decide +kernel
theorem dX5_goOver_93 : decode cX5_goOver 93 = .ok (.aload_n 0, 1) := by decide +kernel
theorem dX5_goOver_94 : decode cX5_goOver 94 = .ok (.iconst 1, 1) := by decide +kernel
theorem dX5_goOver_95 : decode cX5_goOver 95 = .ok (.lload 7, 2) := by decide +kernel
theorem dX5_goOver_97 : decode cX5_goOver 97 = .ok (.l2i, 1) := by decide +kernel
theorem dX5_goOver_98 : decode cX5_goOver 98 = .ok (.lload 9, 2) := by decide +kernel
theorem dX5_goOver_100 : decode cX5_goOver 100 = .ok (.l2i, 1) := by decide +kernel
theorem dX5_goOver_101 : decode cX5_goOver 101 = .ok (.aload_n 0, 1) := by decide +kernel
theorem dX5_goOver_102 : decode cX5_goOver 102 = .ok (.getfield 109, 3) := by decide +kernel
theorem dX5_goOver_105 : decode cX5_goOver 105 = .ok (.aload_n 0, 1) := by decide +kernel
theorem dX5_goOver_106 : decode cX5_goOver 106 = .ok (.getfield 112, 3) := by decide +kernel
theorem dX5_goOver_109 : decode cX5_goOver 109 = .ok (.aload_n 0, 1) := by decide +kernel
theorem dX5_goOver_110 : decode cX5_goOver 110 = .ok (.getfield 115, 3) := by decide +kernel
theorem dX5_goOver_113 : decode cX5_goOver 113 = .ok (.invokevirtual 79, 3) := by decide +kernel
theorem dX5_goOver_116 : decode cX5_goOver 116 = .ok (.aload_n 0, 1) := by decide +kernel
theorem dX5_goOver_117 : decode cX5_goOver 117 = .ok (.lload 7, 2) := by decide +kernel
theorem dX5_goOver_119 : decode cX5_goOver 119 = .ok (.lload 9, 2) := by decide +kernel
theorem dX5_goOver_121 : decode cX5_goOver 121 = .ok (.invokevirtual 131, 3) := by decide +kernel
theorem dX5_goOver_124 : decode cX5_goOver 124 = .ok (.lstore 9, 2) := by decide +kernel
theorem dX5_goOver_126 : decode cX5_goOver 126 = .ok (.goto (-66), 3) := by decide +kernel
theorem dX5_goOver_129 : decode cX5_goOver 129 = .ok (.aload_n 0, 1) := by decide +kernel
theorem dX5_goOver_130 : decode cX5_goOver 130 = .ok (.lload 7, 2) := by decide +kernel
theorem dX5_goOver_132 : decode cX5_goOver 132 = .ok (.invokevirtual 123, 3) := by decide +kernel
theorem dX5_goOver_135 : decode cX5_goOver 135 = .ok (.lstore 7, 2) := by decide +kernel
theorem dX5_goOver_137 : decode cX5_goOver 137 = .ok (.goto (-120), 3) := by decide +kernel
theorem dX5_goOver_140 : decode cX5_goOver 140 = .ok (.iload 6, 2) := by decide +kernel
theorem dX5_goOver_142 : decode cX5_goOver 142 = .ok (.ireturn, 1) := by decide +kernel
set_option maxRecDepth 20000 in
theorem ggX5_isKept_X5_mark : GoodIn wsX5_isKept wsX5_mark := goodIn_r _ [8, 9, 20, 21, 22, 23, 24, 25, 26, 27, 28, 29, 30, 31, 32, 33, 34, 35, 36, 37, 38, 39, 40] (by decide +kernel) (by decide +kernel)
set_option maxRecDepth 20000 in
theorem gX5_isKept_X5_mark : GoodIn wsX5_isKept (wsV RX5 87 RX5 yX5_mark wsX5_mark) := goodIn_app (goodIn_of _ (by decide +kernel)) ggX5_isKept_X5_mark
set_option maxRecDepth 20000 in
theorem ggX5_isKept_X5_lastEnd : GoodIn wsX5_isKept wsX5_lastEnd := goodIn_r _ [13, 1, 14, 15, 20, 21, 22, 23, 24, 25, 26, 27, 28, 29, 30, 31, 32, 33, 34, 35, 36, 37, 38, 39, 40] (by decide +kernel) (by decide +kernel)
set_option maxRecDepth 20000 in
theorem gX5_isKept_X5_lastEnd : GoodIn wsX5_isKept (wsV RX5 101 RX5 yX5_lastEnd wsX5_lastEnd) := goodIn_app (goodIn_of _ (by decide +kernel)) ggX5_isKept_X5_lastEnd
set_option maxRecDepth 20000 in
theorem ggX5_isKept_X5_isOver : GoodIn wsX5_isKept wsX5_isOver := goodIn_r _ [19, 3, 20, 21, 22, 23, 24, 25, 26, 27, 28, 29, 30, 31, 32, 33, 34, 35, 36, 37, 38, 39, 40] (by decide +kernel) (by decide +kernel)
set_option maxRecDepth 20000 in
theorem gX5_isKept_X5_isOver : GoodIn wsX5_isKept (wsV RX5 127 RX5 yX5_isOver wsX5_isOver) := goodIn_app (goodIn_of _ (by decide +kernel)) ggX5_isKept_X5_isOver
theorem dX5_isKept_0 : decode cX5_isKept 0 = .ok (.aload_n 0, 1) := by decide +kernel
theorem dX5_isKept_1 : decode cX5_isKept 1 = .ok (.getfield 22, 3) := by decide +kernel
theorem dX5_isKept_4 : decode cX5_isKept 4 = .ok (.iload_n 2, 1) := by decide +kernel
theorem dX5_isKept_5 : decode cX5_isKept 5 = .ok (.iaload, 1) := by decide +kernel
theorem dX5_isKept_6 : decode cX5_isKept 6 = .ok (.i2l, 1) := by decide +kernel
theorem dX5_isKept_7 : decode cX5_isKept 7 = .ok (.aload_n 0, 1) := by decide +kernel
theorem dX5_isKept_8 : decode cX5_isKept 8 = .ok (.getfield 70, 3) := by decide +kernel
theorem dX5_isKept_11 : decode cX5_isKept 11 = .ok (.i2l, 1) := by decide +kernel
theorem dX5_isKept_12 : decode cX5_isKept 12 = .ok (.ladd, 1) := by decide +kernel
theorem dX5_isKept_13 : decode cX5_isKept 13 = .ok (.aload_n 0, 1) := by decide +kernel
theorem dX5_isKept_14 : decode cX5_isKept 14 = .ok (.invokevirtual 87, 3) := by decide +kernel
theorem dX5_isKept_17 : decode cX5_isKept 17 = .ok (.i2l, 1) := by decide +kernel
theorem dX5_isKept_18 : decode cX5_isKept 18 = .ok (.aload_n 0, 1) := by decide +kernel
theorem dX5_isKept_19 : decode cX5_isKept 19 = .ok (.getfield 67, 3) := by decide +kernel
theorem dX5_isKept_22 : decode cX5_isKept 22 = .ok (.i2l, 1) := by decide +kernel
theorem dX5_isKept_23 : decode cX5_isKept 23 = .ok (.lsub, 1) := by decide +kernel
theorem dX5_isKept_24 : decode cX5_isKept 24 = .ok (.lcmp, 1) := by decide +kernel
theorem dX5_isKept_25 : decode cX5_isKept 25 = .ok (.ifCond .ge 24, 3) := by decide +kernel
theorem dX5_isKept_28 : decode cX5_isKept 28 = .ok (.iload_n 1, 1) := by decide +kernel
theorem dX5_isKept_29 : decode cX5_isKept 29 = .ok (.ifCond .ne 24, 3) := by decide +kernel
theorem dX5_isKept_32 : decode cX5_isKept 32 = .ok (.aload_n 0, 1) := by decide +kernel
theorem dX5_isKept_33 : decode cX5_isKept 33 = .ok (.aload_n 0, 1) := by decide +kernel
theorem dX5_isKept_34 : decode cX5_isKept 34 = .ok (.iload_n 2, 1) := by decide +kernel
theorem dX5_isKept_35 : decode cX5_isKept 35 = .ok (.invokevirtual 101, 3) := by decide +kernel
theorem dX5_isKept_38 : decode cX5_isKept 38 = .ok (.aload_n 0, 1) := by decide +kernel
theorem dX5_isKept_39 : decode cX5_isKept 39 = .ok (.invokevirtual 87, 3) := by decide +kernel
theorem dX5_isKept_42 : decode cX5_isKept 42 = .ok (.i2l, 1) := by decide +kernel
theorem dX5_isKept_43 : decode cX5_isKept 43 = .ok (.invokevirtual 127, 3) := by decide +kernel
theorem dX5_isKept_46 : decode cX5_isKept 46 = .ok (.ifCond .ne 7, 3) := by decide +kernel
theorem dX5_isKept_49 : decode cX5_isKept 49 = .ok (.iconst 1, 1) := by decide +kernel
theorem dX5_isKept_50 : decode cX5_isKept 50 = .ok (.goto 4, 3) := by decide +kernel
theorem dX5_isKept_53 : decode cX5_isKept 53 = .ok (.iconst 0, 1) := by decide +kernel
theorem dX5_isKept_54 : decode cX5_isKept 54 = .ok (.ireturn, 1) := by decide +kernel
set_option maxRecDepth 20000 in
theorem ggX5_sweep_X5_isKept : GoodIn wsX5_sweep wsX5_isKept := goodIn_r _ [9, 2, 10, 11, 12, 13, 14, 8, 15, 16, 17, 18, 19, 20, 21, 22, 23, 24, 25, 26, 27, 28, 29, 30, 31, 32, 33, 34, 35, 36, 37, 38, 39, 40, 41, 42, 43, 44, 45, 46, 47] (by decide +kernel) (by decide +kernel)
set_option maxRecDepth 20000 in
theorem gX5_sweep_X5_isKept : GoodIn wsX5_sweep (wsV RX5 139 RX5 yX5_isKept wsX5_isKept) := goodIn_app (goodIn_of _ (by decide +kernel)) ggX5_sweep_X5_isKept
theorem dX5_sweep_0 : decode cX5_sweep 0 = .ok (.sipush 200, 3) := by decide +kernel
theorem dX5_sweep_3 : decode cX5_sweep 3 = .ok (.iload_n 1, 1) := by decide +kernel
theorem dX5_sweep_4 : decode cX5_sweep 4 = .ok (.imul, 1) := by decide +kernel
theorem dX5_sweep_5 : decode cX5_sweep 5 = .ok (.istore_n 2, 1) := by decide +kernel
theorem dX5_sweep_6 : decode cX5_sweep 6 = .ok (.iconst 0, 1) := by decide +kernel
theorem dX5_sweep_7 : decode cX5_sweep 7 = .ok (.istore_n 3, 1) := by decide +kernel
theorem dX5_sweep_8 : decode cX5_sweep 8 = .ok (.iload_n 2, 1) := by decide +kernel
theorem dX5_sweep_9 : decode cX5_sweep 9 = .ok (.istore 4, 2) := by decide +kernel
theorem dX5_sweep_11 : decode cX5_sweep 11 = .ok (.iload 4, 2) := by decide +kernel
theorem dX5_sweep_13 : decode cX5_sweep 13 = .ok (.iload_n 2, 1) := by decide +kernel
theorem dX5_sweep_14 : decode cX5_sweep 14 = .ok (.aload_n 0, 1) := by decide +kernel
theorem dX5_sweep_15 : decode cX5_sweep 15 = .ok (.getfield 32, 3) := by decide +kernel
theorem dX5_sweep_18 : decode cX5_sweep 18 = .ok (.iload_n 1, 1) := by decide +kernel
theorem dX5_sweep_19 : decode cX5_sweep 19 = .ok (.iaload, 1) := by decide +kernel
theorem dX5_sweep_20 : decode cX5_sweep 20 = .ok (.iadd, 1) := by decide +kernel
theorem dX5_sweep_21 : decode cX5_sweep 21 = .ok (.if_icmp .ge 67, 3) := by decide +kernel
theorem dX5_sweep_24 : decode cX5_sweep 24 = .ok (.aload_n 0, 1) := by decide +kernel
theorem dX5_sweep_25 : decode cX5_sweep 25 = .ok (.iload_n 1, 1) := by decide +kernel
theorem dX5_sweep_26 : decode cX5_sweep 26 = .ok (.iload 4, 2) := by decide +kernel
theorem dX5_sweep_28 : decode cX5_sweep 28 = .ok (.invokevirtual 139, 3) := by decide +kernel
theorem dX5_sweep_31 : decode cX5_sweep 31 = .ok (.ifCond .eq 51, 3) := by decide +kernel
theorem dX5_sweep_34 : decode cX5_sweep 34 = .ok (.aload_n 0, 1) := by decide +kernel
theorem dX5_sweep_35 : decode cX5_sweep 35 = .ok (.getfield 22, 3) := by decide +kernel
theorem dX5_sweep_38 : decode cX5_sweep 38 = .ok (.iload_n 2, 1) := by decide +kernel
theorem dX5_sweep_39 : decode cX5_sweep 39 = .ok (.iload_n 3, 1) := by decide +kernel
theorem dX5_sweep_40 : decode cX5_sweep 40 = .ok (.iadd, 1) := by decide +kernel
theorem dX5_sweep_41 : decode cX5_sweep 41 = .ok (.aload_n 0, 1) := by decide +kernel
theorem dX5_sweep_42 : decode cX5_sweep 42 = .ok (.getfield 22, 3) := by decide +kernel
theorem dX5_sweep_45 : decode cX5_sweep 45 = .ok (.iload 4, 2) := by decide +kernel
theorem dX5_sweep_47 : decode cX5_sweep 47 = .ok (.iaload, 1) := by decide +kernel
theorem dX5_sweep_48 : decode cX5_sweep 48 = .ok (.iastore, 1) := by decide +kernel
theorem dX5_sweep_49 : decode cX5_sweep 49 = .ok (.aload_n 0, 1) := by decide +kernel
theorem dX5_sweep_50 : decode cX5_sweep 50 = .ok (.getfield 26, 3) := by decide +kernel
theorem dX5_sweep_53 : decode cX5_sweep 53 = .ok (.iload_n 2, 1) := by decide +kernel
theorem dX5_sweep_54 : decode cX5_sweep 54 = .ok (.iload_n 3, 1) := by decide +kernel
theorem dX5_sweep_55 : decode cX5_sweep 55 = .ok (.iadd, 1) := by decide +kernel
theorem dX5_sweep_56 : decode cX5_sweep 56 = .ok (.aload_n 0, 1) := by decide +kernel
theorem dX5_sweep_57 : decode cX5_sweep 57 = .ok (.getfield 26, 3) := by decide +kernel
theorem dX5_sweep_60 : decode cX5_sweep 60 = .ok (.iload 4, 2) := by decide +kernel
theorem dX5_sweep_62 : decode cX5_sweep 62 = .ok (.iaload, 1) := by decide +kernel
theorem dX5_sweep_63 : decode cX5_sweep 63 = .ok (.iastore, 1) := by decide +kernel
theorem dX5_sweep_64 : decode cX5_sweep 64 = .ok (.aload_n 0, 1) := by decide +kernel
theorem dX5_sweep_65 : decode cX5_sweep 65 = .ok (.getfield 29, 3) := by decide +kernel
theorem dX5_sweep_68 : decode cX5_sweep 68 = .ok (.iload_n 2, 1) := by decide +kernel
theorem dX5_sweep_69 : decode cX5_sweep 69 = .ok (.iload_n 3, 1) := by decide +kernel
theorem dX5_sweep_70 : decode cX5_sweep 70 = .ok (.iadd, 1) := by decide +kernel
theorem dX5_sweep_71 : decode cX5_sweep 71 = .ok (.aload_n 0, 1) := by decide +kernel
theorem dX5_sweep_72 : decode cX5_sweep 72 = .ok (.getfield 29, 3) := by decide +kernel
theorem dX5_sweep_75 : decode cX5_sweep 75 = .ok (.iload 4, 2) := by decide +kernel
theorem dX5_sweep_77 : decode cX5_sweep 77 = .ok (.iaload, 1) := by decide +kernel
theorem dX5_sweep_78 : decode cX5_sweep 78 = .ok (.iastore, 1) := by decide +kernel
theorem dX5_sweep_79 : decode cX5_sweep 79 = .ok (.iinc 3 1, 3) := by decide +kernel
theorem dX5_sweep_82 : decode cX5_sweep 82 = .ok (.iinc 4 1, 3) := by decide +kernel
theorem dX5_sweep_85 : decode cX5_sweep 85 = .ok (.goto (-74), 3) := by decide +kernel
theorem dX5_sweep_88 : decode cX5_sweep 88 = .ok (.aload_n 0, 1) := by decide +kernel
theorem dX5_sweep_89 : decode cX5_sweep 89 = .ok (.getfield 32, 3) := by decide +kernel
theorem dX5_sweep_92 : decode cX5_sweep 92 = .ok (.iload_n 1, 1) := by decide +kernel
theorem dX5_sweep_93 : decode cX5_sweep 93 = .ok (.iload_n 3, 1) := by decide +kernel
theorem dX5_sweep_94 : decode cX5_sweep 94 = .ok (.iastore, 1) := by decide +kernel
theorem dX5_sweep_95 : decode cX5_sweep 95 = .ok (.return_, 1) := by decide +kernel
set_option maxRecDepth 20000 in
theorem ggX5_pass_X5_isTime : GoodIn wsX5_pass wsX5_isTime := goodIn_r _ [9, 10, 11, 12, 13, 8, 14] (by decide +kernel) (by decide +kernel)
set_option maxRecDepth 20000 in
theorem gX5_pass_X5_isTime : GoodIn wsX5_pass (va_wsS RX5 83 yX5_isTime wsX5_isTime) := goodIn_app (goodIn_of _ (by decide +kernel)) ggX5_pass_X5_isTime
set_option maxRecDepth 20000 in
theorem ggX5_pass_X5_mark : GoodIn wsX5_pass wsX5_mark := goodIn_r _ [18, 1, 73, 74, 75, 76, 77, 78, 79, 80, 81, 82, 83, 84, 85, 86, 87, 88, 89, 90, 91, 92, 93] (by decide +kernel) (by decide +kernel)
set_option maxRecDepth 20000 in
theorem gX5_pass_X5_mark : GoodIn wsX5_pass (wsV RX5 87 RX5 yX5_mark wsX5_mark) := goodIn_app (goodIn_of _ (by decide +kernel)) ggX5_pass_X5_mark
set_option maxRecDepth 20000 in
theorem ggX5_pass_X5_goOver : GoodIn wsX5_pass wsX5_goOver := goodIn_r _ [22, 3, 23, 24, 25, 26, 27, 28, 29, 30, 8, 31, 32, 33, 34, 35, 36, 37, 38, 39, 40, 41, 42, 43, 44, 45, 46, 47, 48, 49, 50, 51, 52, 53, 54, 55, 56, 57, 58, 59, 60, 61, 62, 2, 63, 73, 74, 75, 76, 77, 78, 79, 80, 81, 82, 83, 84, 85, 86, 87, 88, 89, 90, 91, 92, 93] (by decide +kernel) (by decide +kernel)
set_option maxRecDepth 20000 in
theorem gX5_pass_X5_goOver : GoodIn wsX5_pass (wsV RX5 142 RX5 yX5_goOver wsX5_goOver) := goodIn_app (goodIn_of _ (by decide +kernel)) ggX5_pass_X5_goOver
set_option maxRecDepth 20000 in
theorem ggX5_pass_X5_sweep : GoodIn wsX5_pass wsX5_sweep := goodIn_r _ [67, 32, 38, 53, 58, 68, 69, 70, 8, 71, 72, 48, 15, 16, 17, 18, 1, 34, 35, 36, 37, 33, 39, 44, 45, 46, 47, 73, 74, 75, 76, 77, 78, 79, 80, 81, 82, 83, 84, 85, 86, 87, 88, 89, 90, 91, 92, 93] (by decide +kernel) (by decide +kernel)
set_option maxRecDepth 20000 in
theorem gX5_pass_X5_sweep : GoodIn wsX5_pass (wsV RX5 146 RX5 yX5_sweep wsX5_sweep) := goodIn_app (goodIn_of _ (by decide +kernel)) ggX5_pass_X5_sweep
theorem dX5_pass_0 : decode cX5_pass 0 = .ok (.iload_n 2, 1) := by decide +kernel
theorem dX5_pass_1 : decode cX5_pass 1 = .ok (.invokestatic 83, 3) := by decide +kernel
theorem dX5_pass_4 : decode cX5_pass 4 = .ok (.ifCond .ne 6, 3) := by decide +kernel
theorem dX5_pass_7 : decode cX5_pass 7 = .ok (.bipush (-2), 2) := by decide +kernel
theorem dX5_pass_9 : decode cX5_pass 9 = .ok (.ireturn, 1) := by decide +kernel
theorem dX5_pass_10 : decode cX5_pass 10 = .ok (.iload_n 2, 1) := by decide +kernel
theorem dX5_pass_11 : decode cX5_pass 11 = .ok (.aload_n 0, 1) := by decide +kernel
theorem dX5_pass_12 : decode cX5_pass 12 = .ok (.getfield 35, 3) := by decide +kernel
theorem dX5_pass_15 : decode cX5_pass 15 = .ok (.iload_n 1, 1) := by decide +kernel
theorem dX5_pass_16 : decode cX5_pass 16 = .ok (.iaload, 1) := by decide +kernel
theorem dX5_pass_17 : decode cX5_pass 17 = .ok (.if_icmp .gt 6, 3) := by decide +kernel
theorem dX5_pass_20 : decode cX5_pass 20 = .ok (.bipush (-5), 2) := by decide +kernel
theorem dX5_pass_22 : decode cX5_pass 22 = .ok (.ireturn, 1) := by decide +kernel
theorem dX5_pass_23 : decode cX5_pass 23 = .ok (.aload_n 0, 1) := by decide +kernel
theorem dX5_pass_24 : decode cX5_pass 24 = .ok (.invokevirtual 87, 3) := by decide +kernel
theorem dX5_pass_27 : decode cX5_pass 27 = .ok (.istore_n 3, 1) := by decide +kernel
theorem dX5_pass_28 : decode cX5_pass 28 = .ok (.aload_n 0, 1) := by decide +kernel
theorem dX5_pass_29 : decode cX5_pass 29 = .ok (.getfield 35, 3) := by decide +kernel
theorem dX5_pass_32 : decode cX5_pass 32 = .ok (.iload_n 1, 1) := by decide +kernel
theorem dX5_pass_33 : decode cX5_pass 33 = .ok (.iaload, 1) := by decide +kernel
theorem dX5_pass_34 : decode cX5_pass 34 = .ok (.istore 4, 2) := by decide +kernel
theorem dX5_pass_36 : decode cX5_pass 36 = .ok (.aload_n 0, 1) := by decide +kernel
theorem dX5_pass_37 : decode cX5_pass 37 = .ok (.getfield 35, 3) := by decide +kernel
theorem dX5_pass_40 : decode cX5_pass 40 = .ok (.iload_n 1, 1) := by decide +kernel
theorem dX5_pass_41 : decode cX5_pass 41 = .ok (.iload_n 2, 1) := by decide +kernel
theorem dX5_pass_42 : decode cX5_pass 42 = .ok (.iastore, 1) := by decide +kernel
theorem dX5_pass_43 : decode cX5_pass 43 = .ok (.aload_n 0, 1) := by decide +kernel
theorem dX5_pass_44 : decode cX5_pass 44 = .ok (.iload_n 3, 1) := by decide +kernel
theorem dX5_pass_45 : decode cX5_pass 45 = .ok (.i2l, 1) := by decide +kernel
theorem dX5_pass_46 : decode cX5_pass 46 = .ok (.aload_n 0, 1) := by decide +kernel
theorem dX5_pass_47 : decode cX5_pass 47 = .ok (.invokevirtual 87, 3) := by decide +kernel
theorem dX5_pass_50 : decode cX5_pass 50 = .ok (.i2l, 1) := by decide +kernel
theorem dX5_pass_51 : decode cX5_pass 51 = .ok (.iconst 0, 1) := by decide +kernel
theorem dX5_pass_52 : decode cX5_pass 52 = .ok (.invokevirtual 142, 3) := by decide +kernel
theorem dX5_pass_55 : decode cX5_pass 55 = .ok (.istore 5, 2) := by decide +kernel
theorem dX5_pass_57 : decode cX5_pass 57 = .ok (.aload_n 0, 1) := by decide +kernel
theorem dX5_pass_58 : decode cX5_pass 58 = .ok (.getfield 45, 3) := by decide +kernel
theorem dX5_pass_61 : decode cX5_pass 61 = .ok (.aload_n 0, 1) := by decide +kernel
theorem dX5_pass_62 : decode cX5_pass 62 = .ok (.getfield 118, 3) := by decide +kernel
theorem dX5_pass_65 : decode cX5_pass 65 = .ok (.iadd, 1) := by decide +kernel
theorem dX5_pass_66 : decode cX5_pass 66 = .ok (.aload_n 0, 1) := by decide +kernel
theorem dX5_pass_67 : decode cX5_pass 67 = .ok (.getfield 19, 3) := by decide +kernel
theorem dX5_pass_70 : decode cX5_pass 70 = .ok (.if_icmp .le 14, 3) := by decide +kernel
theorem dX5_pass_73 : decode cX5_pass 73 = .ok (.aload_n 0, 1) := by decide +kernel
theorem dX5_pass_74 : decode cX5_pass 74 = .ok (.getfield 35, 3) := by decide +kernel
theorem dX5_pass_77 : decode cX5_pass 77 = .ok (.iload_n 1, 1) := by decide +kernel
theorem dX5_pass_78 : decode cX5_pass 78 = .ok (.iload 4, 2) := by decide +kernel
theorem dX5_pass_80 : decode cX5_pass 80 = .ok (.iastore, 1) := by decide +kernel
theorem dX5_pass_81 : decode cX5_pass 81 = .ok (.bipush (-3), 2) := by decide +kernel
theorem dX5_pass_83 : decode cX5_pass 83 = .ok (.ireturn, 1) := by decide +kernel
theorem dX5_pass_84 : decode cX5_pass 84 = .ok (.aload_n 0, 1) := by decide +kernel
theorem dX5_pass_85 : decode cX5_pass 85 = .ok (.iload_n 3, 1) := by decide +kernel
theorem dX5_pass_86 : decode cX5_pass 86 = .ok (.i2l, 1) := by decide +kernel
theorem dX5_pass_87 : decode cX5_pass 87 = .ok (.aload_n 0, 1) := by decide +kernel
theorem dX5_pass_88 : decode cX5_pass 88 = .ok (.invokevirtual 87, 3) := by decide +kernel
theorem dX5_pass_91 : decode cX5_pass 91 = .ok (.i2l, 1) := by decide +kernel
theorem dX5_pass_92 : decode cX5_pass 92 = .ok (.iconst 1, 1) := by decide +kernel
theorem dX5_pass_93 : decode cX5_pass 93 = .ok (.invokevirtual 142, 3) := by decide +kernel
theorem dX5_pass_96 : decode cX5_pass 96 = .ok (.istore 5, 2) := by decide +kernel
theorem dX5_pass_98 : decode cX5_pass 98 = .ok (.aload_n 0, 1) := by decide +kernel
theorem dX5_pass_99 : decode cX5_pass 99 = .ok (.dup, 1) := by decide +kernel
theorem dX5_pass_100 : decode cX5_pass 100 = .ok (.getfield 54, 3) := by decide +kernel
theorem dX5_pass_103 : decode cX5_pass 103 = .ok (.aload_n 0, 1) := by decide +kernel
theorem dX5_pass_104 : decode cX5_pass 104 = .ok (.getfield 118, 3) := by decide +kernel
theorem dX5_pass_107 : decode cX5_pass 107 = .ok (.iadd, 1) := by decide +kernel
theorem dX5_pass_108 : decode cX5_pass 108 = .ok (.putfield 54, 3) := by decide +kernel
theorem dX5_pass_111 : decode cX5_pass 111 = .ok (.aload_n 0, 1) := by decide +kernel
theorem dX5_pass_112 : decode cX5_pass 112 = .ok (.iconst 0, 1) := by decide +kernel
theorem dX5_pass_113 : decode cX5_pass 113 = .ok (.invokevirtual 146, 3) := by decide +kernel
theorem dX5_pass_116 : decode cX5_pass 116 = .ok (.aload_n 0, 1) := by decide +kernel
theorem dX5_pass_117 : decode cX5_pass 117 = .ok (.iconst 1, 1) := by decide +kernel
theorem dX5_pass_118 : decode cX5_pass 118 = .ok (.invokevirtual 146, 3) := by decide +kernel
theorem dX5_pass_121 : decode cX5_pass 121 = .ok (.iload 5, 2) := by decide +kernel
theorem dX5_pass_123 : decode cX5_pass 123 = .ok (.ireturn, 1) := by decide +kernel
set_option maxRecDepth 20000 in
theorem ggX5_markA_X5_pass : GoodIn wsX5_markA wsX5_pass := goodIn_r _ [5, 6, 7, 8, 9, 10, 11, 12, 4, 13, 14, 15, 16, 17, 18, 19, 20, 21, 22, 23, 24, 25, 26, 27, 28, 29, 30, 31, 32, 33, 34, 35, 36, 37, 38, 39, 40, 41, 42, 43, 44, 45, 46, 47, 48, 49, 50, 51, 52, 53, 54, 55, 56, 57, 58, 59, 60, 61, 62, 63, 64, 65, 66, 67, 68, 69, 70, 71, 72, 73, 74, 75, 76, 77, 78, 79, 80, 81, 82, 83, 84, 85, 86, 87, 88, 89, 90, 91, 92, 93, 94, 95, 96, 97] (by decide +kernel) (by decide +kernel)
set_option maxRecDepth 20000 in
theorem gX5_markA_X5_pass : GoodIn wsX5_markA (wsV RX5 150 RX5 yX5_pass wsX5_pass) := goodIn_app (goodIn_of _ (by decide +kernel)) ggX5_markA_X5_pass
theorem dX5_markA_0 : decode cX5_markA 0 = .ok (.aload_n 0, 1) := by decide +kernel
theorem dX5_markA_1 : decode cX5_markA 1 = .ok (.iconst 0, 1) := by decide +kernel
theorem dX5_markA_2 : decode cX5_markA 2 = .ok (.iload_n 1, 1) := by decide +kernel
theorem dX5_markA_3 : decode cX5_markA 3 = .ok (.invokevirtual 150, 3) := by decide +kernel
theorem dX5_markA_6 : decode cX5_markA 6 = .ok (.ireturn, 1) := by decide +kernel
set_option maxRecDepth 20000 in
theorem ggX5_markB_X5_pass : GoodIn wsX5_markB wsX5_pass := goodIn_r _ [5, 6, 7, 8, 9, 10, 11, 12, 4, 13, 14, 15, 16, 17, 18, 19, 20, 21, 22, 23, 24, 25, 26, 27, 28, 29, 30, 31, 32, 33, 34, 35, 36, 37, 38, 39, 40, 41, 42, 43, 44, 45, 46, 47, 48, 49, 50, 51, 52, 53, 54, 55, 56, 57, 58, 59, 60, 61, 62, 63, 64, 65, 66, 67, 68, 69, 70, 71, 72, 73, 74, 75, 76, 77, 78, 79, 80, 81, 82, 83, 84, 85, 86, 87, 88, 89, 90, 91, 92, 93, 94, 95, 96, 97] (by decide +kernel) (by decide +kernel)
set_option maxRecDepth 20000 in
theorem gX5_markB_X5_pass : GoodIn wsX5_markB (wsV RX5 150 RX5 yX5_pass wsX5_pass) := goodIn_app (goodIn_of _ (by decide +kernel)) ggX5_markB_X5_pass
theorem dX5_markB_0 : decode cX5_markB 0 = .ok (.aload_n 0, 1) := by decide +kernel
theorem dX5_markB_1 : decode cX5_markB 1 = .ok (.iconst 1, 1) := by decide +kernel
theorem dX5_markB_2 : decode cX5_markB 2 = .ok (.iload_n 1, 1) := by decide +kernel
theorem dX5_markB_3 : decode cX5_markB 3 = .ok (.invokevirtual 150, 3) := by decide +kernel
theorem dX5_markB_6 : decode cX5_markB 6 = .ok (.ireturn, 1) := by decide +kernel
theorem dX5_available_0 : decode cX5_available 0 = .ok (.aload_n 0, 1) := by decide +kernel
theorem dX5_available_1 : decode cX5_available 1 = .ok (.getfield 45, 3) := by decide +kernel
theorem dX5_available_4 : decode cX5_available 4 = .ok (.ireturn, 1) := by decide +kernel
set_option maxRecDepth 20000 in
theorem ggX5_kind_X5_in : GoodIn wsX5_kind wsX5_in := goodIn_r _ [6] (by decide +kernel) (by decide +kernel)
set_option maxRecDepth 20000 in
theorem gX5_kind_X5_in : GoodIn wsX5_kind (va_wsS RX5 61 yX5_in wsX5_in) := goodIn_app (goodIn_of _ (by decide +kernel)) ggX5_kind_X5_in
theorem dX5_kind_0 : decode cX5_kind 0 = .ok (.iload_n 1, 1) := by decide +kernel
theorem dX5_kind_1 : decode cX5_kind 1 = .ok (.iconst 0, 1) := by decide +kernel
theorem dX5_kind_2 : decode cX5_kind 2 = .ok (.aload_n 0, 1) := by decide +kernel
theorem dX5_kind_3 : decode cX5_kind 3 = .ok (.getfield 45, 3) := by decide +kernel
theorem dX5_kind_6 : decode cX5_kind 6 = .ok (.iconst 1, 1) := by decide +kernel
theorem dX5_kind_7 : decode cX5_kind 7 = .ok (.isub, 1) := by decide +kernel
theorem dX5_kind_8 : decode cX5_kind 8 = .ok (.invokestatic 61, 3) := by decide +kernel
theorem dX5_kind_11 : decode cX5_kind 11 = .ok (.ifCond .eq 15, 3) := by decide +kernel
theorem dX5_kind_14 : decode cX5_kind 14 = .ok (.aload_n 0, 1) := by decide +kernel
theorem dX5_kind_15 : decode cX5_kind 15 = .ok (.getfield 38, 3) := by decide +kernel
theorem dX5_kind_18 : decode cX5_kind 18 = .ok (.bipush 6, 2) := by decide +kernel
theorem dX5_kind_20 : decode cX5_kind 20 = .ok (.iload_n 1, 1) := by decide +kernel
theorem dX5_kind_21 : decode cX5_kind 21 = .ok (.imul, 1) := by decide +kernel
theorem dX5_kind_22 : decode cX5_kind 22 = .ok (.iaload, 1) := by decide +kernel
theorem dX5_kind_23 : decode cX5_kind 23 = .ok (.goto 4, 3) := by decide +kernel
theorem dX5_kind_26 : decode cX5_kind 26 = .ok (.iconst 0, 1) := by decide +kernel
theorem dX5_kind_27 : decode cX5_kind 27 = .ok (.ireturn, 1) := by decide +kernel
set_option maxRecDepth 20000 in
theorem ggX5_field_X5_in : GoodIn wsX5_field wsX5_in := goodIn_r _ [6] (by decide +kernel) (by decide +kernel)
set_option maxRecDepth 20000 in
theorem gX5_field_X5_in : GoodIn wsX5_field (va_wsS RX5 61 yX5_in wsX5_in) := goodIn_app (goodIn_of _ (by decide +kernel)) ggX5_field_X5_in
theorem dX5_field_0 : decode cX5_field 0 = .ok (.iload_n 1, 1) := by decide +kernel
theorem dX5_field_1 : decode cX5_field 1 = .ok (.iconst 0, 1) := by decide +kernel
theorem dX5_field_2 : decode cX5_field 2 = .ok (.aload_n 0, 1) := by decide +kernel
theorem dX5_field_3 : decode cX5_field 3 = .ok (.getfield 45, 3) := by decide +kernel
theorem dX5_field_6 : decode cX5_field 6 = .ok (.iconst 1, 1) := by decide +kernel
theorem dX5_field_7 : decode cX5_field 7 = .ok (.isub, 1) := by decide +kernel
theorem dX5_field_8 : decode cX5_field 8 = .ok (.invokestatic 61, 3) := by decide +kernel
theorem dX5_field_11 : decode cX5_field 11 = .ok (.ifCond .eq 28, 3) := by decide +kernel
theorem dX5_field_14 : decode cX5_field 14 = .ok (.iload_n 2, 1) := by decide +kernel
theorem dX5_field_15 : decode cX5_field 15 = .ok (.iconst 0, 1) := by decide +kernel
theorem dX5_field_16 : decode cX5_field 16 = .ok (.iconst 4, 1) := by decide +kernel
theorem dX5_field_17 : decode cX5_field 17 = .ok (.invokestatic 61, 3) := by decide +kernel
theorem dX5_field_20 : decode cX5_field 20 = .ok (.ifCond .eq 19, 3) := by decide +kernel
theorem dX5_field_23 : decode cX5_field 23 = .ok (.aload_n 0, 1) := by decide +kernel
theorem dX5_field_24 : decode cX5_field 24 = .ok (.getfield 38, 3) := by decide +kernel
theorem dX5_field_27 : decode cX5_field 27 = .ok (.bipush 6, 2) := by decide +kernel
theorem dX5_field_29 : decode cX5_field 29 = .ok (.iload_n 1, 1) := by decide +kernel
theorem dX5_field_30 : decode cX5_field 30 = .ok (.imul, 1) := by decide +kernel
theorem dX5_field_31 : decode cX5_field 31 = .ok (.iconst 1, 1) := by decide +kernel
theorem dX5_field_32 : decode cX5_field 32 = .ok (.iadd, 1) := by decide +kernel
theorem dX5_field_33 : decode cX5_field 33 = .ok (.iload_n 2, 1) := by decide +kernel
theorem dX5_field_34 : decode cX5_field 34 = .ok (.iadd, 1) := by decide +kernel
theorem dX5_field_35 : decode cX5_field 35 = .ok (.iaload, 1) := by decide +kernel
theorem dX5_field_36 : decode cX5_field 36 = .ok (.goto 4, 3) := by decide +kernel
theorem dX5_field_39 : decode cX5_field 39 = .ok (.iconst 0, 1) := by decide +kernel
theorem dX5_field_40 : decode cX5_field 40 = .ok (.ireturn, 1) := by decide +kernel
theorem dX5_pop_0 : decode cX5_pop 0 = .ok (.aload_n 0, 1) := by decide +kernel
theorem dX5_pop_1 : decode cX5_pop 1 = .ok (.getfield 45, 3) := by decide +kernel
theorem dX5_pop_4 : decode cX5_pop 4 = .ok (.ifCond .ne 5, 3) := by decide +kernel
theorem dX5_pop_7 : decode cX5_pop 7 = .ok (.iconst 0, 1) := by decide +kernel
theorem dX5_pop_8 : decode cX5_pop 8 = .ok (.ireturn, 1) := by decide +kernel
theorem dX5_pop_9 : decode cX5_pop 9 = .ok (.aload_n 0, 1) := by decide +kernel
theorem dX5_pop_10 : decode cX5_pop 10 = .ok (.dup, 1) := by decide +kernel
theorem dX5_pop_11 : decode cX5_pop 11 = .ok (.getfield 45, 3) := by decide +kernel
theorem dX5_pop_14 : decode cX5_pop 14 = .ok (.iconst 1, 1) := by decide +kernel
theorem dX5_pop_15 : decode cX5_pop 15 = .ok (.isub, 1) := by decide +kernel
theorem dX5_pop_16 : decode cX5_pop 16 = .ok (.putfield 45, 3) := by decide +kernel
theorem dX5_pop_19 : decode cX5_pop 19 = .ok (.iconst 0, 1) := by decide +kernel
theorem dX5_pop_20 : decode cX5_pop 20 = .ok (.istore_n 1, 1) := by decide +kernel
theorem dX5_pop_21 : decode cX5_pop 21 = .ok (.iload_n 1, 1) := by decide +kernel
theorem dX5_pop_22 : decode cX5_pop 22 = .ok (.bipush 6, 2) := by decide +kernel
theorem dX5_pop_24 : decode cX5_pop 24 = .ok (.aload_n 0, 1) := by decide +kernel
theorem dX5_pop_25 : decode cX5_pop 25 = .ok (.getfield 45, 3) := by decide +kernel
theorem dX5_pop_28 : decode cX5_pop 28 = .ok (.imul, 1) := by decide +kernel
theorem dX5_pop_29 : decode cX5_pop 29 = .ok (.if_icmp .ge 24, 3) := by decide +kernel
theorem dX5_pop_32 : decode cX5_pop 32 = .ok (.aload_n 0, 1) := by decide +kernel
theorem dX5_pop_33 : decode cX5_pop 33 = .ok (.getfield 38, 3) := by decide +kernel
theorem dX5_pop_36 : decode cX5_pop 36 = .ok (.iload_n 1, 1) := by decide +kernel
theorem dX5_pop_37 : decode cX5_pop 37 = .ok (.aload_n 0, 1) := by decide +kernel
theorem dX5_pop_38 : decode cX5_pop 38 = .ok (.getfield 38, 3) := by decide +kernel
theorem dX5_pop_41 : decode cX5_pop 41 = .ok (.iload_n 1, 1) := by decide +kernel
theorem dX5_pop_42 : decode cX5_pop 42 = .ok (.bipush 6, 2) := by decide +kernel
theorem dX5_pop_44 : decode cX5_pop 44 = .ok (.iadd, 1) := by decide +kernel
theorem dX5_pop_45 : decode cX5_pop 45 = .ok (.iaload, 1) := by decide +kernel
theorem dX5_pop_46 : decode cX5_pop 46 = .ok (.iastore, 1) := by decide +kernel
theorem dX5_pop_47 : decode cX5_pop 47 = .ok (.iinc 1 1, 3) := by decide +kernel
theorem dX5_pop_50 : decode cX5_pop 50 = .ok (.goto (-29), 3) := by decide +kernel
theorem dX5_pop_53 : decode cX5_pop 53 = .ok (.iconst 1, 1) := by decide +kernel
theorem dX5_pop_54 : decode cX5_pop 54 = .ok (.ireturn, 1) := by decide +kernel
set_option maxRecDepth 20000 in
theorem ggX5_look_X5_mark : GoodIn wsX5_look wsX5_mark := goodIn_r _ [10, 11, 32, 33, 34, 35, 36, 37, 38, 39, 40, 41, 42, 43, 44, 45, 46, 47, 48, 49, 50, 51, 52] (by decide +kernel) (by decide +kernel)
set_option maxRecDepth 20000 in
theorem gX5_look_X5_mark : GoodIn wsX5_look (wsV RX5 87 RX5 yX5_mark wsX5_mark) := goodIn_app (goodIn_of _ (by decide +kernel)) ggX5_look_X5_mark
set_option maxRecDepth 20000 in
theorem ggX5_look_X5_isOver : GoodIn wsX5_look wsX5_isOver := goodIn_r _ [15, 16, 32, 33, 34, 35, 36, 37, 38, 39, 40, 41, 42, 43, 44, 45, 46, 47, 48, 49, 50, 51, 52] (by decide +kernel) (by decide +kernel)
set_option maxRecDepth 20000 in
theorem gX5_look_X5_isOver : GoodIn wsX5_look (wsV RX5 127 RX5 yX5_isOver wsX5_isOver) := goodIn_app (goodIn_of _ (by decide +kernel)) ggX5_look_X5_isOver
set_option maxRecDepth 20000 in
theorem ggX5_look_X5_in : GoodIn wsX5_look wsX5_in := goodIn_r _ [19] (by decide +kernel) (by decide +kernel)
set_option maxRecDepth 20000 in
theorem gX5_look_X5_in : GoodIn wsX5_look (va_wsS RX5 61 yX5_in wsX5_in) := goodIn_app (goodIn_of _ (by decide +kernel)) ggX5_look_X5_in
set_option maxRecDepth 20000 in
theorem ggX5_look_X5_gather : GoodIn wsX5_look wsX5_gather := goodIn_r _ [23, 3, 4, 5, 24, 25, 26, 27, 28, 29, 9, 30, 31, 1, 32, 33, 34, 35, 36, 37, 38, 39, 40, 41, 42, 43, 44, 45, 46, 47, 48, 49, 50, 51, 52] (by decide +kernel) (by decide +kernel)
set_option maxRecDepth 20000 in
theorem gX5_look_X5_gather : GoodIn wsX5_look (wsV RX5 135 RX5 yX5_gather wsX5_gather) := goodIn_app (goodIn_of _ (by decide +kernel)) ggX5_look_X5_gather
theorem dX5_look_0 : decode cX5_look 0 = .ok (.iload_n 1, 1) := by decide +kernel
theorem dX5_look_1 : decode cX5_look 1 = .ok (.i2l, 1) := by decide +kernel
theorem dX5_look_2 : decode cX5_look 2 = .ok (.aload_n 0, 1) := by decide +kernel
theorem dX5_look_3 : decode cX5_look 3 = .ok (.getfield 7, 3) := by decide +kernel
theorem dX5_look_6 : decode cX5_look 6 = .ok (.i2l, 1) := by decide +kernel
theorem dX5_look_7 : decode cX5_look 7 = .ok (.lsub, 1) := by decide +kernel
theorem dX5_look_8 : decode cX5_look 8 = .ok (.lstore 4, 2) := by decide +kernel
theorem dX5_look_10 : decode cX5_look 10 = .ok (.lload 4, 2) := by decide +kernel
theorem dX5_look_12 : decode cX5_look 12 = .ok (.aload_n 0, 1) := by decide +kernel
theorem dX5_look_13 : decode cX5_look 13 = .ok (.getfield 13, 3) := by decide +kernel
theorem dX5_look_16 : decode cX5_look 16 = .ok (.i2l, 1) := by decide +kernel
theorem dX5_look_17 : decode cX5_look 17 = .ok (.lrem, 1) := by decide +kernel
theorem dX5_look_18 : decode cX5_look 18 = .ok (.lconst 0, 1) := by decide +kernel
theorem dX5_look_19 : decode cX5_look 19 = .ok (.lcmp, 1) := by decide +kernel
theorem dX5_look_20 : decode cX5_look 20 = .ok (.ifCond .ne 26, 3) := by decide +kernel
theorem dX5_look_23 : decode cX5_look 23 = .ok (.aload_n 0, 1) := by decide +kernel
theorem dX5_look_24 : decode cX5_look 24 = .ok (.iload_n 1, 1) := by decide +kernel
theorem dX5_look_25 : decode cX5_look 25 = .ok (.i2l, 1) := by decide +kernel
theorem dX5_look_26 : decode cX5_look 26 = .ok (.aload_n 0, 1) := by decide +kernel
theorem dX5_look_27 : decode cX5_look 27 = .ok (.invokevirtual 87, 3) := by decide +kernel
theorem dX5_look_30 : decode cX5_look 30 = .ok (.i2l, 1) := by decide +kernel
theorem dX5_look_31 : decode cX5_look 31 = .ok (.invokevirtual 127, 3) := by decide +kernel
theorem dX5_look_34 : decode cX5_look 34 = .ok (.ifCond .ne 12, 3) := by decide +kernel
theorem dX5_look_37 : decode cX5_look 37 = .ok (.iload_n 3, 1) := by decide +kernel
theorem dX5_look_38 : decode cX5_look 38 = .ok (.iconst 0, 1) := by decide +kernel
theorem dX5_look_39 : decode cX5_look 39 = .ok (.iconst 2, 1) := by decide +kernel
theorem dX5_look_40 : decode cX5_look 40 = .ok (.invokestatic 61, 3) := by decide +kernel
theorem dX5_look_43 : decode cX5_look 43 = .ok (.ifCond .ne 5, 3) := by decide +kernel
theorem dX5_look_46 : decode cX5_look 46 = .ok (.iconst 0, 1) := by decide +kernel
theorem dX5_look_47 : decode cX5_look 47 = .ok (.ireturn, 1) := by decide +kernel
theorem dX5_look_48 : decode cX5_look 48 = .ok (.aload_n 0, 1) := by decide +kernel
theorem dX5_look_49 : decode cX5_look 49 = .ok (.iload_n 1, 1) := by decide +kernel
theorem dX5_look_50 : decode cX5_look 50 = .ok (.i2l, 1) := by decide +kernel
theorem dX5_look_51 : decode cX5_look 51 = .ok (.iload_n 2, 1) := by decide +kernel
theorem dX5_look_52 : decode cX5_look 52 = .ok (.invokevirtual 135, 3) := by decide +kernel
theorem dX5_look_55 : decode cX5_look 55 = .ok (.iload_n 3, 1) := by decide +kernel
theorem dX5_look_56 : decode cX5_look 56 = .ok (.ifCond .ne 10, 3) := by decide +kernel
theorem dX5_look_59 : decode cX5_look 59 = .ok (.aload_n 0, 1) := by decide +kernel
theorem dX5_look_60 : decode cX5_look 60 = .ok (.getfield 109, 3) := by decide +kernel
theorem dX5_look_63 : decode cX5_look 63 = .ok (.goto 19, 3) := by decide +kernel
theorem dX5_look_66 : decode cX5_look 66 = .ok (.iload_n 3, 1) := by decide +kernel
theorem dX5_look_67 : decode cX5_look 67 = .ok (.iconst 1, 1) := by decide +kernel
theorem dX5_look_68 : decode cX5_look 68 = .ok (.if_icmp .ne 10, 3) := by decide +kernel
theorem dX5_look_71 : decode cX5_look 71 = .ok (.aload_n 0, 1) := by decide +kernel
theorem dX5_look_72 : decode cX5_look 72 = .ok (.getfield 112, 3) := by decide +kernel
theorem dX5_look_75 : decode cX5_look 75 = .ok (.goto 7, 3) := by decide +kernel
theorem dX5_look_78 : decode cX5_look 78 = .ok (.aload_n 0, 1) := by decide +kernel
theorem dX5_look_79 : decode cX5_look 79 = .ok (.getfield 115, 3) := by decide +kernel
theorem dX5_look_82 : decode cX5_look 82 = .ok (.ireturn, 1) := by decide +kernel
set_option maxRecDepth 20000 in
theorem ggX5_event__X5_in : GoodIn wsX5_event_ wsX5_in := goodIn_r _ [8] (by decide +kernel) (by decide +kernel)
set_option maxRecDepth 20000 in
theorem gX5_event__X5_in : GoodIn wsX5_event_ (va_wsS RX5 61 yX5_in wsX5_in) := goodIn_app (goodIn_of _ (by decide +kernel)) ggX5_event__X5_in
theorem dX5_event__0 : decode cX5_event_ 0 = .ok (.iload_n 1, 1) := by decide +kernel
theorem dX5_event__1 : decode cX5_event_ 1 = .ok (.iconst 0, 1) := by decide +kernel
theorem dX5_event__2 : decode cX5_event_ 2 = .ok (.iconst 1, 1) := by decide +kernel
theorem dX5_event__3 : decode cX5_event_ 3 = .ok (.invokestatic 61, 3) := by decide +kernel
theorem dX5_event__6 : decode cX5_event_ 6 = .ok (.ifCond .eq 19, 3) := by decide +kernel
theorem dX5_event__9 : decode cX5_event_ 9 = .ok (.iload_n 2, 1) := by decide +kernel
theorem dX5_event__10 : decode cX5_event_ 10 = .ok (.iconst 0, 1) := by decide +kernel
theorem dX5_event__11 : decode cX5_event_ 11 = .ok (.aload_n 0, 1) := by decide +kernel
theorem dX5_event__12 : decode cX5_event_ 12 = .ok (.getfield 32, 3) := by decide +kernel
theorem dX5_event__15 : decode cX5_event_ 15 = .ok (.iload_n 1, 1) := by decide +kernel
theorem dX5_event__16 : decode cX5_event_ 16 = .ok (.iaload, 1) := by decide +kernel
theorem dX5_event__17 : decode cX5_event_ 17 = .ok (.iconst 1, 1) := by decide +kernel
theorem dX5_event__18 : decode cX5_event_ 18 = .ok (.isub, 1) := by decide +kernel
theorem dX5_event__19 : decode cX5_event_ 19 = .ok (.invokestatic 61, 3) := by decide +kernel
theorem dX5_event__22 : decode cX5_event_ 22 = .ok (.ifCond .ne 5, 3) := by decide +kernel
theorem dX5_event__25 : decode cX5_event_ 25 = .ok (.iconst 0, 1) := by decide +kernel
theorem dX5_event__26 : decode cX5_event_ 26 = .ok (.ireturn, 1) := by decide +kernel
theorem dX5_event__27 : decode cX5_event_ 27 = .ok (.sipush 200, 3) := by decide +kernel
theorem dX5_event__30 : decode cX5_event_ 30 = .ok (.iload_n 1, 1) := by decide +kernel
theorem dX5_event__31 : decode cX5_event_ 31 = .ok (.imul, 1) := by decide +kernel
theorem dX5_event__32 : decode cX5_event_ 32 = .ok (.iload_n 2, 1) := by decide +kernel
theorem dX5_event__33 : decode cX5_event_ 33 = .ok (.iadd, 1) := by decide +kernel
theorem dX5_event__34 : decode cX5_event_ 34 = .ok (.istore 4, 2) := by decide +kernel
theorem dX5_event__36 : decode cX5_event_ 36 = .ok (.iload_n 3, 1) := by decide +kernel
theorem dX5_event__37 : decode cX5_event_ 37 = .ok (.tableswitch 51 0 2 #[27, 35, 43], 27) := by decide +kernel
theorem dX5_event__64 : decode cX5_event_ 64 = .ok (.aload_n 0, 1) := by decide +kernel
theorem dX5_event__65 : decode cX5_event_ 65 = .ok (.getfield 22, 3) := by decide +kernel
theorem dX5_event__68 : decode cX5_event_ 68 = .ok (.iload 4, 2) := by decide +kernel
theorem dX5_event__70 : decode cX5_event_ 70 = .ok (.iaload, 1) := by decide +kernel
theorem dX5_event__71 : decode cX5_event_ 71 = .ok (.ireturn, 1) := by decide +kernel
theorem dX5_event__72 : decode cX5_event_ 72 = .ok (.aload_n 0, 1) := by decide +kernel
theorem dX5_event__73 : decode cX5_event_ 73 = .ok (.getfield 26, 3) := by decide +kernel
theorem dX5_event__76 : decode cX5_event_ 76 = .ok (.iload 4, 2) := by decide +kernel
theorem dX5_event__78 : decode cX5_event_ 78 = .ok (.iaload, 1) := by decide +kernel
theorem dX5_event__79 : decode cX5_event_ 79 = .ok (.ireturn, 1) := by decide +kernel
theorem dX5_event__80 : decode cX5_event_ 80 = .ok (.aload_n 0, 1) := by decide +kernel
theorem dX5_event__81 : decode cX5_event_ 81 = .ok (.getfield 29, 3) := by decide +kernel
theorem dX5_event__84 : decode cX5_event_ 84 = .ok (.iload 4, 2) := by decide +kernel
theorem dX5_event__86 : decode cX5_event_ 86 = .ok (.iaload, 1) := by decide +kernel
theorem dX5_event__87 : decode cX5_event_ 87 = .ok (.ireturn, 1) := by decide +kernel
theorem dX5_event__88 : decode cX5_event_ 88 = .ok (.iconst 0, 1) := by decide +kernel
theorem dX5_event__89 : decode cX5_event_ 89 = .ok (.ireturn, 1) := by decide +kernel
set_option maxRecDepth 20000 in
theorem ggX5_windows_X5_nextEnd : GoodIn wsX5_windows wsX5_nextEnd := goodIn_r _ [7, 2, 8, 9, 10, 11, 12, 6, 13, 14, 15, 16, 17, 18, 19, 30, 31, 32, 33, 34, 35, 36, 37, 38, 39, 40, 41, 42, 43, 44, 45, 46, 47, 48, 49, 50] (by decide +kernel) (by decide +kernel)
set_option maxRecDepth 20000 in
theorem gX5_windows_X5_nextEnd : GoodIn wsX5_windows (wsV RX5 123 RX5 yX5_nextEnd wsX5_nextEnd) := goodIn_app (goodIn_of _ (by decide +kernel)) ggX5_windows_X5_nextEnd
set_option maxRecDepth 20000 in
theorem ggX5_windows_X5_mark : GoodIn wsX5_windows wsX5_mark := goodIn_r _ [23, 24, 30, 31, 32, 33, 34, 35, 36, 37, 38, 39, 40, 41, 42, 43, 44, 45, 46, 47, 48, 49, 50] (by decide +kernel) (by decide +kernel)
set_option maxRecDepth 20000 in
theorem gX5_windows_X5_mark : GoodIn wsX5_windows (wsV RX5 87 RX5 yX5_mark wsX5_mark) := goodIn_app (goodIn_of _ (by decide +kernel)) ggX5_windows_X5_mark
set_option maxRecDepth 20000 in
theorem ggX5_windows_X5_isOver : GoodIn wsX5_windows wsX5_isOver := goodIn_r _ [28, 29, 30, 31, 32, 33, 34, 35, 36, 37, 38, 39, 40, 41, 42, 43, 44, 45, 46, 47, 48, 49, 50] (by decide +kernel) (by decide +kernel)
set_option maxRecDepth 20000 in
theorem gX5_windows_X5_isOver : GoodIn wsX5_windows (wsV RX5 127 RX5 yX5_isOver wsX5_isOver) := goodIn_app (goodIn_of _ (by decide +kernel)) ggX5_windows_X5_isOver
theorem dX5_windows_0 : decode cX5_windows 0 = .ok (.iconst 0, 1) := by decide +kernel
theorem dX5_windows_1 : decode cX5_windows 1 = .ok (.istore_n 1, 1) := by decide +kernel
theorem dX5_windows_2 : decode cX5_windows 2 = .ok (.aload_n 0, 1) := by decide +kernel
theorem dX5_windows_3 : decode cX5_windows 3 = .ok (.ldc2_w 121, 3) := by decide +kernel
theorem dX5_windows_6 : decode cX5_windows 6 = .ok (.invokevirtual 123, 3) := by decide +kernel
theorem dX5_windows_9 : decode cX5_windows 9 = .ok (.lstore_n 2, 1) := by decide +kernel
theorem dX5_windows_10 : decode cX5_windows 10 = .ok (.lload_n 2, 1) := by decide +kernel
theorem dX5_windows_11 : decode cX5_windows 11 = .ok (.ldc2_w 99, 3) := by decide +kernel
theorem dX5_windows_14 : decode cX5_windows 14 = .ok (.lcmp, 1) := by decide +kernel
theorem dX5_windows_15 : decode cX5_windows 15 = .ok (.ifCond .ge 33, 3) := by decide +kernel
theorem dX5_windows_18 : decode cX5_windows 18 = .ok (.aload_n 0, 1) := by decide +kernel
theorem dX5_windows_19 : decode cX5_windows 19 = .ok (.lload_n 2, 1) := by decide +kernel
theorem dX5_windows_20 : decode cX5_windows 20 = .ok (.aload_n 0, 1) := by decide +kernel
theorem dX5_windows_21 : decode cX5_windows 21 = .ok (.invokevirtual 87, 3) := by decide +kernel
theorem dX5_windows_24 : decode cX5_windows 24 = .ok (.i2l, 1) := by decide +kernel
theorem dX5_windows_25 : decode cX5_windows 25 = .ok (.invokevirtual 127, 3) := by decide +kernel
theorem dX5_windows_28 : decode cX5_windows 28 = .ok (.ifCond .eq 7, 3) := by decide +kernel
theorem dX5_windows_31 : decode cX5_windows 31 = .ok (.iload_n 1, 1) := by decide +kernel
theorem dX5_windows_32 : decode cX5_windows 32 = .ok (.goto 6, 3) := by decide +kernel
theorem dX5_windows_35 : decode cX5_windows 35 = .ok (.iload_n 1, 1) := by decide +kernel
theorem dX5_windows_36 : decode cX5_windows 36 = .ok (.iconst 1, 1) := by decide +kernel
theorem dX5_windows_37 : decode cX5_windows 37 = .ok (.iadd, 1) := by decide +kernel
theorem dX5_windows_38 : decode cX5_windows 38 = .ok (.istore_n 1, 1) := by decide +kernel
theorem dX5_windows_39 : decode cX5_windows 39 = .ok (.aload_n 0, 1) := by decide +kernel
theorem dX5_windows_40 : decode cX5_windows 40 = .ok (.lload_n 2, 1) := by decide +kernel
theorem dX5_windows_41 : decode cX5_windows 41 = .ok (.invokevirtual 123, 3) := by decide +kernel
theorem dX5_windows_44 : decode cX5_windows 44 = .ok (.lstore_n 2, 1) := by decide +kernel
theorem dX5_windows_45 : decode cX5_windows 45 = .ok (.goto (-35), 3) := by decide +kernel
theorem dX5_windows_48 : decode cX5_windows 48 = .ok (.iload_n 1, 1) := by decide +kernel
theorem dX5_windows_49 : decode cX5_windows 49 = .ok (.ireturn, 1) := by decide +kernel
set_option maxRecDepth 20000 in
theorem ggX5_count_X5_windows : GoodIn wsX5_count wsX5_windows := goodIn_r _ [11, 12, 13, 14, 15, 16, 10, 17, 1, 18, 19, 20, 21, 22, 23, 24, 25, 26, 27, 28, 29, 30, 31, 32, 3, 33, 34, 35, 36, 37, 38, 39, 40, 41, 42, 43, 44, 45, 46, 47, 48, 49, 50, 51, 52, 53, 54, 55, 56, 57, 58] (by decide +kernel) (by decide +kernel)
set_option maxRecDepth 20000 in
theorem gX5_count_X5_windows : GoodIn wsX5_count (wsV RX5 154 RX5 yX5_windows wsX5_windows) := goodIn_app (goodIn_of _ (by decide +kernel)) ggX5_count_X5_windows
theorem dX5_count_0 : decode cX5_count 0 = .ok (.iload_n 1, 1) := by decide +kernel
theorem dX5_count_1 : decode cX5_count 1 = .ok (.tableswitch 92 0 8 #[51, 51, 58, 63, 63, 72, 77, 82, 87], 51) := by decide +kernel
theorem dX5_count_52 : decode cX5_count 52 = .ok (.aload_n 0, 1) := by decide +kernel
theorem dX5_count_53 : decode cX5_count 53 = .ok (.getfield 32, 3) := by decide +kernel
theorem dX5_count_56 : decode cX5_count 56 = .ok (.iload_n 1, 1) := by decide +kernel
theorem dX5_count_57 : decode cX5_count 57 = .ok (.iaload, 1) := by decide +kernel
theorem dX5_count_58 : decode cX5_count 58 = .ok (.ireturn, 1) := by decide +kernel
theorem dX5_count_59 : decode cX5_count 59 = .ok (.aload_n 0, 1) := by decide +kernel
theorem dX5_count_60 : decode cX5_count 60 = .ok (.getfield 48, 3) := by decide +kernel
theorem dX5_count_63 : decode cX5_count 63 = .ok (.ireturn, 1) := by decide +kernel
theorem dX5_count_64 : decode cX5_count 64 = .ok (.aload_n 0, 1) := by decide +kernel
theorem dX5_count_65 : decode cX5_count 65 = .ok (.getfield 35, 3) := by decide +kernel
theorem dX5_count_68 : decode cX5_count 68 = .ok (.iload_n 1, 1) := by decide +kernel
theorem dX5_count_69 : decode cX5_count 69 = .ok (.iconst 3, 1) := by decide +kernel
theorem dX5_count_70 : decode cX5_count 70 = .ok (.isub, 1) := by decide +kernel
theorem dX5_count_71 : decode cX5_count 71 = .ok (.iaload, 1) := by decide +kernel
theorem dX5_count_72 : decode cX5_count 72 = .ok (.ireturn, 1) := by decide +kernel
theorem dX5_count_73 : decode cX5_count 73 = .ok (.aload_n 0, 1) := by decide +kernel
theorem dX5_count_74 : decode cX5_count 74 = .ok (.invokevirtual 154, 3) := by decide +kernel
theorem dX5_count_77 : decode cX5_count 77 = .ok (.ireturn, 1) := by decide +kernel
theorem dX5_count_78 : decode cX5_count 78 = .ok (.aload_n 0, 1) := by decide +kernel
theorem dX5_count_79 : decode cX5_count 79 = .ok (.getfield 51, 3) := by decide +kernel
theorem dX5_count_82 : decode cX5_count 82 = .ok (.ireturn, 1) := by decide +kernel
theorem dX5_count_83 : decode cX5_count 83 = .ok (.aload_n 0, 1) := by decide +kernel
theorem dX5_count_84 : decode cX5_count 84 = .ok (.getfield 54, 3) := by decide +kernel
theorem dX5_count_87 : decode cX5_count 87 = .ok (.ireturn, 1) := by decide +kernel
theorem dX5_count_88 : decode cX5_count 88 = .ok (.aload_n 0, 1) := by decide +kernel
theorem dX5_count_89 : decode cX5_count 89 = .ok (.getfield 57, 3) := by decide +kernel
theorem dX5_count_92 : decode cX5_count 92 = .ok (.ireturn, 1) := by decide +kernel
theorem dX5_count_93 : decode cX5_count 93 = .ok (.bipush (-2), 2) := by decide +kernel
theorem dX5_count_95 : decode cX5_count 95 = .ok (.ireturn, 1) := by decide +kernel
theorem dJ9_floorDiv_7cf53_0 : decode cJ9_floorDiv_7cf53 0 = .ok (.iload_n 0, 1) := by decide +kernel
theorem dJ9_floorDiv_7cf53_1 : decode cJ9_floorDiv_7cf53 1 = .ok (.iload_n 1, 1) := by decide +kernel
theorem dJ9_floorDiv_7cf53_2 : decode cJ9_floorDiv_7cf53 2 = .ok (.idiv, 1) := by decide +kernel
theorem dJ9_floorDiv_7cf53_3 : decode cJ9_floorDiv_7cf53 3 = .ok (.istore_n 2, 1) := by decide +kernel
theorem dJ9_floorDiv_7cf53_4 : decode cJ9_floorDiv_7cf53 4 = .ok (.iload_n 0, 1) := by decide +kernel
theorem dJ9_floorDiv_7cf53_5 : decode cJ9_floorDiv_7cf53 5 = .ok (.iload_n 1, 1) := by decide +kernel
theorem dJ9_floorDiv_7cf53_6 : decode cJ9_floorDiv_7cf53 6 = .ok (.ixor, 1) := by decide +kernel
theorem dJ9_floorDiv_7cf53_7 : decode cJ9_floorDiv_7cf53 7 = .ok (.ifCond .ge 14, 3) := by decide +kernel
theorem dJ9_floorDiv_7cf53_10 : decode cJ9_floorDiv_7cf53 10 = .ok (.iload_n 2, 1) := by decide +kernel
theorem dJ9_floorDiv_7cf53_11 : decode cJ9_floorDiv_7cf53 11 = .ok (.iload_n 1, 1) := by decide +kernel
theorem dJ9_floorDiv_7cf53_12 : decode cJ9_floorDiv_7cf53 12 = .ok (.imul, 1) := by decide +kernel
theorem dJ9_floorDiv_7cf53_13 : decode cJ9_floorDiv_7cf53 13 = .ok (.iload_n 0, 1) := by decide +kernel
theorem dJ9_floorDiv_7cf53_14 : decode cJ9_floorDiv_7cf53 14 = .ok (.if_icmp .eq 7, 3) := by decide +kernel
theorem dJ9_floorDiv_7cf53_17 : decode cJ9_floorDiv_7cf53 17 = .ok (.iload_n 2, 1) := by decide +kernel
theorem dJ9_floorDiv_7cf53_18 : decode cJ9_floorDiv_7cf53 18 = .ok (.iconst 1, 1) := by decide +kernel
theorem dJ9_floorDiv_7cf53_19 : decode cJ9_floorDiv_7cf53 19 = .ok (.isub, 1) := by decide +kernel
theorem dJ9_floorDiv_7cf53_20 : decode cJ9_floorDiv_7cf53 20 = .ok (.ireturn, 1) := by decide +kernel
theorem dJ9_floorDiv_7cf53_21 : decode cJ9_floorDiv_7cf53 21 = .ok (.iload_n 2, 1) := by decide +kernel
theorem dJ9_floorDiv_7cf53_22 : decode cJ9_floorDiv_7cf53 22 = .ok (.ireturn, 1) := by decide +kernel
theorem dJ9_abs_0f7a4_0 : decode cJ9_abs_0f7a4 0 = .ok (.iload_n 0, 1) := by decide +kernel
theorem dJ9_abs_0f7a4_1 : decode cJ9_abs_0f7a4 1 = .ok (.ifCond .ge 8, 3) := by decide +kernel
theorem dJ9_abs_0f7a4_4 : decode cJ9_abs_0f7a4 4 = .ok (.iload_n 0, 1) := by decide +kernel
theorem dJ9_abs_0f7a4_5 : decode cJ9_abs_0f7a4 5 = .ok (.ineg, 1) := by decide +kernel
theorem dJ9_abs_0f7a4_6 : decode cJ9_abs_0f7a4 6 = .ok (.goto 4, 3) := by decide +kernel
theorem dJ9_abs_0f7a4_9 : decode cJ9_abs_0f7a4 9 = .ok (.iload_n 0, 1) := by decide +kernel
theorem dJ9_abs_0f7a4_10 : decode cJ9_abs_0f7a4 10 = .ok (.ireturn, 1) := by decide +kernel
theorem dJ9_max_7cf53_0 : decode cJ9_max_7cf53 0 = .ok (.iload_n 0, 1) := by decide +kernel
theorem dJ9_max_7cf53_1 : decode cJ9_max_7cf53 1 = .ok (.iload_n 1, 1) := by decide +kernel
theorem dJ9_max_7cf53_2 : decode cJ9_max_7cf53 2 = .ok (.if_icmp .lt 7, 3) := by decide +kernel
theorem dJ9_max_7cf53_5 : decode cJ9_max_7cf53 5 = .ok (.iload_n 0, 1) := by decide +kernel
theorem dJ9_max_7cf53_6 : decode cJ9_max_7cf53 6 = .ok (.goto 4, 3) := by decide +kernel
theorem dJ9_max_7cf53_9 : decode cJ9_max_7cf53 9 = .ok (.iload_n 1, 1) := by decide +kernel
theorem dJ9_max_7cf53_10 : decode cJ9_max_7cf53 10 = .ok (.ireturn, 1) := by decide +kernel
theorem dJ9_min_7cf53_0 : decode cJ9_min_7cf53 0 = .ok (.iload_n 0, 1) := by decide +kernel
theorem dJ9_min_7cf53_1 : decode cJ9_min_7cf53 1 = .ok (.iload_n 1, 1) := by decide +kernel
theorem dJ9_min_7cf53_2 : decode cJ9_min_7cf53 2 = .ok (.if_icmp .gt 7, 3) := by decide +kernel
theorem dJ9_min_7cf53_5 : decode cJ9_min_7cf53 5 = .ok (.iload_n 0, 1) := by decide +kernel
theorem dJ9_min_7cf53_6 : decode cJ9_min_7cf53 6 = .ok (.goto 4, 3) := by decide +kernel
theorem dJ9_min_7cf53_9 : decode cJ9_min_7cf53 9 = .ok (.iload_n 1, 1) := by decide +kernel
theorem dJ9_min_7cf53_10 : decode cJ9_min_7cf53 10 = .ok (.ireturn, 1) := by decide +kernel
set_option maxRecDepth 20000 in
theorem ggL_law_X4_init : GoodIn wsL_law wsX4_init := goodIn_r _ [8, 9, 10, 11, 12, 13, 14, 15, 16, 17, 18, 19, 20, 21, 22, 23, 24, 25, 26, 27, 28, 29, 30, 31, 32, 33, 34, 35, 36, 37, 38, 39, 40, 41, 42, 43, 44, 45, 46, 47, 48, 49, 50, 51, 52, 53, 54, 55, 56, 57, 58, 59, 60, 61, 62, 63, 64, 65, 66, 2, 67, 68, 69, 70, 71, 72, 73, 74, 75, 76, 77, 78, 79, 80, 81, 82, 83, 84, 85, 86, 483, 484, 485, 486, 446, 447, 448, 449, 450, 451, 452, 453, 454, 455, 456, 457, 458, 459, 460, 461, 487, 488, 489, 490, 491, 492, 493, 494, 495, 496] (by decide +kernel) (by decide +kernel)
set_option maxRecDepth 20000 in
theorem gL_law_X4_init : GoodIn wsL_law (wsX4_init) := ggL_law_X4_init
set_option maxRecDepth 20000 in
theorem ggL_law_X5_init : GoodIn wsL_law wsX5_init := goodIn_r _ [89, 90, 10, 11, 91, 92, 93, 94, 34, 95, 96, 97, 98, 99, 100, 101, 102, 103, 5, 104, 105, 106, 107, 108, 109, 110, 462, 463, 464, 465, 466, 467, 468, 469, 470, 471, 472, 473, 474, 475, 476, 477, 478, 479, 480, 481, 482] (by decide +kernel) (by decide +kernel)
set_option maxRecDepth 20000 in
theorem gL_law_X5_init : GoodIn wsL_law (wsX5_init) := ggL_law_X5_init
set_option maxRecDepth 20000 in
theorem ggL_law_X4_set : GoodIn wsL_law wsX4_set := goodIn_r _ [114, 115, 25, 26, 27, 28, 29, 30, 116, 117, 2, 118, 119, 120, 121, 64, 65, 66, 67, 15, 16, 20, 24, 68, 69, 70, 71, 72, 73, 74, 75, 76, 77, 14, 78, 38, 79, 80, 81, 19, 82, 46, 83, 84, 85, 23, 86, 62, 63, 446, 447, 448, 449, 450, 451, 452, 453, 454, 455, 456, 457, 458, 459, 460, 461, 483, 484, 485, 486, 487, 491, 492, 493, 494, 495, 496, 488, 489, 490] (by decide +kernel) (by decide +kernel)
set_option maxRecDepth 20000 in
theorem gL_law_X4_set : GoodIn wsL_law (wsV RL 13 RX4 yX4_set wsX4_set) := goodIn_app (goodIn_of _ (by decide +kernel)) ggL_law_X4_set
set_option maxRecDepth 20000 in
theorem ggL_law_X5_set : GoodIn wsL_law wsX5_set := goodIn_r _ [125, 126, 127, 91, 92, 128, 129, 93, 94, 130, 131, 5, 132, 101, 102, 103, 104, 98, 99, 105, 106, 107, 108, 109, 110, 462, 463, 464, 465, 466, 467, 468, 469, 470, 471, 472, 473, 474, 475, 476, 477, 478, 479, 480, 481, 482] (by decide +kernel) (by decide +kernel)
set_option maxRecDepth 20000 in
theorem gL_law_X5_set : GoodIn wsL_law (wsV RL 17 RX5 yX5_set wsX5_set) := goodIn_app (goodIn_of _ (by decide +kernel)) ggL_law_X5_set
set_option maxRecDepth 20000 in
theorem ggL_law_X4_eventA : GoodIn wsL_law wsX4_eventA := goodIn_r _ [136, 16, 28, 24, 15, 137, 138, 139, 2, 140, 27, 71, 29, 30, 141, 142, 143, 144, 145, 119, 120, 121, 146, 147, 148, 149, 69, 70, 150, 151, 152, 153, 154, 155, 156, 14, 157, 38, 158, 159, 160, 161, 162, 163, 164, 165, 36, 35, 166, 167, 168, 169, 170, 171, 172, 173, 174, 175, 23, 176, 63, 177, 178, 179, 180, 181, 182, 183, 184, 185, 37, 186, 187, 188, 189, 61, 190, 191, 192, 193, 62, 194, 195, 196, 197, 198, 199, 200, 201, 20, 25, 26, 202, 203, 204, 19, 205, 46, 206, 207, 208, 209, 210, 211, 212, 213, 214, 215, 216, 217, 42, 43, 44, 218, 219, 220, 221, 222, 223, 224, 55, 56, 225, 226, 227, 228, 47, 48, 49, 50, 10, 11, 51, 52, 53, 54, 57, 229, 230, 231, 232, 233, 234, 235, 236, 237, 238, 239, 72, 74, 446, 447, 448, 449, 450, 451, 452, 453, 454, 455, 456, 457, 458, 459, 460, 461, 483, 484, 485, 486, 488, 489, 490, 487, 491, 492, 493, 494, 495, 496] (by decide +kernel) (by decide +kernel)
set_option maxRecDepth 20000 in
theorem gL_law_X4_eventA : GoodIn wsL_law (wsV RL 18 RX4 yX4_eventA wsX4_eventA) := goodIn_app (goodIn_of _ (by decide +kernel)) ggL_law_X4_eventA
set_option maxRecDepth 20000 in
theorem ggL_law_X5_eventA : GoodIn wsL_law wsX5_eventA := goodIn_r _ [243, 244, 245, 246, 5, 247, 128, 107, 98, 93, 106, 94, 108, 110, 248, 249, 250, 251, 252, 130, 131, 132, 253, 254, 255, 256, 99, 257, 258, 259, 260, 95, 96, 97, 261, 262, 263, 264, 129, 265, 266, 267, 268, 100, 462, 463, 464, 465, 466, 467, 468, 469, 470, 471, 472, 473, 474, 475, 476, 477, 478, 479, 480, 481, 482] (by decide +kernel) (by decide +kernel)
set_option maxRecDepth 20000 in
theorem gL_law_X5_eventA : GoodIn wsL_law (wsV RL 22 RX5 yX5_eventA wsX5_eventA) := goodIn_app (goodIn_of _ (by decide +kernel)) ggL_law_X5_eventA
set_option maxRecDepth 20000 in
theorem ggL_law_X4_eventB : GoodIn wsL_law wsX4_eventB := goodIn_r _ [272, 15, 28, 24, 16, 137, 138, 139, 2, 140, 27, 71, 29, 30, 141, 142, 143, 144, 145, 119, 120, 121, 146, 147, 148, 149, 69, 70, 150, 151, 152, 153, 154, 155, 156, 14, 157, 38, 158, 159, 160, 161, 162, 163, 164, 165, 36, 35, 166, 167, 168, 169, 170, 171, 172, 173, 174, 175, 23, 176, 63, 177, 178, 179, 180, 181, 182, 183, 184, 185, 37, 186, 187, 188, 189, 61, 190, 191, 192, 193, 62, 194, 195, 196, 197, 236, 237, 238, 239, 72, 74, 446, 447, 448, 449, 450, 451, 452, 453, 454, 455, 456, 457, 458, 459, 460, 461, 483, 484, 485, 486, 488, 489, 490] (by decide +kernel) (by decide +kernel)
set_option maxRecDepth 20000 in
theorem gL_law_X4_eventB : GoodIn wsL_law (wsV RL 23 RX4 yX4_eventB wsX4_eventB) := goodIn_app (goodIn_of _ (by decide +kernel)) ggL_law_X4_eventB
set_option maxRecDepth 20000 in
theorem ggL_law_X5_eventB : GoodIn wsL_law wsX5_eventB := goodIn_r _ [276, 244, 245, 246, 5, 247, 128, 107, 98, 93, 106, 94, 108, 110, 248, 249, 250, 251, 252, 130, 131, 132, 253, 254, 255, 256, 99, 257, 258, 259, 260, 95, 96, 97, 261, 262, 263, 264, 129, 265, 266, 267, 268, 100, 462, 463, 464, 465, 466, 467, 468, 469, 470, 471, 472, 473, 474, 475, 476, 477, 478, 479, 480, 481, 482] (by decide +kernel) (by decide +kernel)
set_option maxRecDepth 20000 in
theorem gL_law_X5_eventB : GoodIn wsL_law (wsV RL 26 RX5 yX5_eventB wsX5_eventB) := goodIn_app (goodIn_of _ (by decide +kernel)) ggL_law_X5_eventB
set_option maxRecDepth 20000 in
theorem ggL_law_X4_markA : GoodIn wsL_law wsX4_markA := goodIn_r _ [280, 69, 70, 150, 151, 152, 153, 281, 282, 2, 283, 141, 142, 143, 144, 145, 119, 120, 121, 284, 285, 286, 287, 27, 20, 24, 30, 73, 288, 289, 290, 19, 291, 46, 173, 174, 175, 23, 176, 63, 292, 293, 294, 295, 296, 297, 298, 299, 186, 187, 188, 189, 61, 190, 191, 192, 193, 62, 300, 301, 302, 303, 15, 28, 25, 16, 146, 147, 148, 149, 206, 207, 208, 209, 26, 210, 211, 212, 213, 304, 305, 306, 14, 307, 38, 35, 36, 37, 308, 195, 196, 197, 446, 447, 448, 449, 450, 451, 452, 453, 454, 455, 456, 457, 458, 459, 460, 461, 491, 492, 493, 494, 495, 496, 487, 488, 489, 490, 483, 484, 485, 486] (by decide +kernel) (by decide +kernel)
set_option maxRecDepth 20000 in
theorem gL_law_X4_markA : GoodIn wsL_law (wsV RL 27 RX4 yX4_markA wsX4_markA) := goodIn_app (goodIn_of _ (by decide +kernel)) ggL_law_X4_markA
set_option maxRecDepth 20000 in
theorem ggL_law_X5_markA : GoodIn wsL_law wsX5_markA := goodIn_r _ [312, 313, 314, 315, 5, 316, 99, 106, 317, 94, 109, 248, 249, 250, 251, 252, 130, 131, 132, 253, 254, 255, 256, 318, 319, 320, 321, 322, 323, 324, 325, 326, 327, 328, 329, 330, 98, 92, 331, 332, 333, 334, 95, 91, 335, 336, 337, 338, 339, 340, 341, 342, 128, 343, 344, 345, 346, 96, 347, 348, 349, 350, 97, 265, 266, 267, 268, 100, 351, 352, 353, 354, 355, 356, 357, 358, 129, 462, 463, 464, 465, 466, 467, 468, 469, 470, 471, 472, 473, 474, 475, 476, 477, 478, 479, 480, 481, 482] (by decide +kernel) (by decide +kernel)
set_option maxRecDepth 20000 in
theorem gL_law_X5_markA : GoodIn wsL_law (wsV RL 31 RX5 yX5_markA wsX5_markA) := goodIn_app (goodIn_of _ (by decide +kernel)) ggL_law_X5_markA
set_option maxRecDepth 20000 in
theorem ggL_law_X4_markB : GoodIn wsL_law wsX4_markB := goodIn_r _ [362, 70, 69, 150, 151, 152, 153, 281, 282, 2, 283, 141, 142, 143, 144, 145, 119, 120, 121, 284, 285, 286, 287, 27, 20, 24, 30, 73, 288, 289, 290, 19, 291, 46, 173, 174, 175, 23, 176, 63, 292, 293, 294, 295, 296, 297, 298, 299, 186, 187, 188, 189, 61, 190, 191, 192, 193, 62, 300, 301, 302, 303, 15, 28, 25, 16, 146, 147, 148, 149, 206, 207, 208, 209, 26, 210, 211, 212, 213, 304, 305, 306, 14, 307, 38, 35, 36, 37, 308, 195, 196, 197, 446, 447, 448, 449, 450, 451, 452, 453, 454, 455, 456, 457, 458, 459, 460, 461, 491, 492, 493, 494, 495, 496, 487, 488, 489, 490, 483, 484, 485, 486] (by decide +kernel) (by decide +kernel)
set_option maxRecDepth 20000 in
theorem gL_law_X4_markB : GoodIn wsL_law (wsV RL 32 RX4 yX4_markB wsX4_markB) := goodIn_app (goodIn_of _ (by decide +kernel)) ggL_law_X4_markB
set_option maxRecDepth 20000 in
theorem ggL_law_X5_markB : GoodIn wsL_law wsX5_markB := goodIn_r _ [366, 313, 314, 315, 5, 316, 99, 106, 317, 94, 109, 248, 249, 250, 251, 252, 130, 131, 132, 253, 254, 255, 256, 318, 319, 320, 321, 322, 323, 324, 325, 326, 327, 328, 329, 330, 98, 92, 331, 332, 333, 334, 95, 91, 335, 336, 337, 338, 339, 340, 341, 342, 128, 343, 344, 345, 346, 96, 347, 348, 349, 350, 97, 265, 266, 267, 268, 100, 351, 352, 353, 354, 355, 356, 357, 358, 129, 462, 463, 464, 465, 466, 467, 468, 469, 470, 471, 472, 473, 474, 475, 476, 477, 478, 479, 480, 481, 482] (by decide +kernel) (by decide +kernel)
set_option maxRecDepth 20000 in
theorem gL_law_X5_markB : GoodIn wsL_law (wsV RL 35 RX5 yX5_markB wsX5_markB) := goodIn_app (goodIn_of _ (by decide +kernel)) ggL_law_X5_markB
set_option maxRecDepth 20000 in
theorem ggL_law_X4_mark : GoodIn wsL_law wsX4_mark := goodIn_r _ [149, 69, 70, 150, 151, 152, 153, 446, 447, 448, 449, 450, 451, 452, 453, 454, 455, 456, 457, 458, 459, 460, 461] (by decide +kernel) (by decide +kernel)
set_option maxRecDepth 20000 in
theorem gL_law_X4_mark : GoodIn wsL_law (wsV RL 36 RX4 yX4_mark wsX4_mark) := goodIn_app (goodIn_of _ (by decide +kernel)) ggL_law_X4_mark
set_option maxRecDepth 20000 in
theorem ggL_law_X5_mark : GoodIn wsL_law wsX5_mark := goodIn_r _ [256, 99, 462, 463, 464, 465, 466, 467, 468, 469, 470, 471, 472, 473, 474, 475, 476, 477, 478, 479, 480, 481, 482] (by decide +kernel) (by decide +kernel)
set_option maxRecDepth 20000 in
theorem gL_law_X5_mark : GoodIn wsL_law (wsV RL 40 RX5 yX5_mark wsX5_mark) := goodIn_app (goodIn_of _ (by decide +kernel)) ggL_law_X5_mark
set_option maxRecDepth 20000 in
theorem ggL_law_X4_available : GoodIn wsL_law wsX4_available := goodIn_r _ [372, 24, 173, 174, 175, 23, 176, 63, 446, 447, 448, 449, 450, 451, 452, 453, 454, 455, 456, 457, 458, 459, 460, 461, 488, 489, 490] (by decide +kernel) (by decide +kernel)
set_option maxRecDepth 20000 in
theorem gL_law_X4_available : GoodIn wsL_law (wsV RL 41 RX4 yX4_available wsX4_available) := goodIn_app (goodIn_of _ (by decide +kernel)) ggL_law_X4_available
set_option maxRecDepth 20000 in
theorem ggL_law_X5_available : GoodIn wsL_law wsX5_available := goodIn_r _ [376, 106, 462, 463, 464, 465, 466, 467, 468, 469, 470, 471, 472, 473, 474, 475, 476, 477, 478, 479, 480, 481, 482] (by decide +kernel) (by decide +kernel)
set_option maxRecDepth 20000 in
theorem gL_law_X5_available : GoodIn wsL_law (wsV RL 44 RX5 yX5_available wsX5_available) := goodIn_app (goodIn_of _ (by decide +kernel)) ggL_law_X5_available
set_option maxRecDepth 20000 in
theorem ggL_law_X4_kind : GoodIn wsL_law wsX4_kind := goodIn_r _ [380, 24, 381, 382, 383, 23, 384, 63, 61, 120, 2, 121, 190, 191, 192, 193, 62, 446, 447, 448, 449, 450, 451, 452, 453, 454, 455, 456, 457, 458, 459, 460, 461, 488, 489, 490] (by decide +kernel) (by decide +kernel)
set_option maxRecDepth 20000 in
theorem gL_law_X4_kind : GoodIn wsL_law (wsV RL 45 RX4 yX4_kind wsX4_kind) := goodIn_app (goodIn_of _ (by decide +kernel)) ggL_law_X4_kind
set_option maxRecDepth 20000 in
theorem ggL_law_X5_kind : GoodIn wsL_law wsX5_kind := goodIn_r _ [388, 106, 100, 130, 131, 5, 132, 462, 463, 464, 465, 466, 467, 468, 469, 470, 471, 472, 473, 474, 475, 476, 477, 478, 479, 480, 481, 482] (by decide +kernel) (by decide +kernel)
set_option maxRecDepth 20000 in
theorem gL_law_X5_kind : GoodIn wsL_law (wsV RL 48 RX5 yX5_kind wsX5_kind) := goodIn_app (goodIn_of _ (by decide +kernel)) ggL_law_X5_kind
set_option maxRecDepth 20000 in
theorem ggL_law_X4_field : GoodIn wsL_law wsX4_field := goodIn_r _ [392, 24, 119, 120, 2, 121, 381, 382, 383, 23, 384, 63, 61, 190, 191, 192, 193, 62, 446, 447, 448, 449, 450, 451, 452, 453, 454, 455, 456, 457, 458, 459, 460, 461, 488, 489, 490] (by decide +kernel) (by decide +kernel)
set_option maxRecDepth 20000 in
theorem gL_law_X4_field : GoodIn wsL_law (wsV RL 49 RX4 yX4_field wsX4_field) := goodIn_app (goodIn_of _ (by decide +kernel)) ggL_law_X4_field
set_option maxRecDepth 20000 in
theorem ggL_law_X5_field : GoodIn wsL_law wsX5_field := goodIn_r _ [396, 106, 100, 130, 131, 5, 132, 462, 463, 464, 465, 466, 467, 468, 469, 470, 471, 472, 473, 474, 475, 476, 477, 478, 479, 480, 481, 482] (by decide +kernel) (by decide +kernel)
set_option maxRecDepth 20000 in
theorem gL_law_X5_field : GoodIn wsL_law (wsV RL 53 RX5 yX5_field wsX5_field) := goodIn_app (goodIn_of _ (by decide +kernel)) ggL_law_X5_field
set_option maxRecDepth 20000 in
theorem ggL_law_X4_pop : GoodIn wsL_law wsX4_pop := goodIn_r _ [400, 24, 401, 402, 403, 23, 404, 63, 62, 446, 447, 448, 449, 450, 451, 452, 453, 454, 455, 456, 457, 458, 459, 460, 461, 488, 489, 490] (by decide +kernel) (by decide +kernel)
set_option maxRecDepth 20000 in
theorem gL_law_X4_pop : GoodIn wsL_law (wsV RL 54 RX4 yX4_pop wsX4_pop) := goodIn_app (goodIn_of _ (by decide +kernel)) ggL_law_X4_pop
set_option maxRecDepth 20000 in
theorem ggL_law_X5_pop : GoodIn wsL_law wsX5_pop := goodIn_r _ [408, 106, 100, 462, 463, 464, 465, 466, 467, 468, 469, 470, 471, 472, 473, 474, 475, 476, 477, 478, 479, 480, 481, 482] (by decide +kernel) (by decide +kernel)
set_option maxRecDepth 20000 in
theorem gL_law_X5_pop : GoodIn wsL_law (wsV RL 58 RX5 yX5_pop wsX5_pop) := goodIn_app (goodIn_of _ (by decide +kernel)) ggL_law_X5_pop
set_option maxRecDepth 20000 in
theorem ggL_law_X4_look : GoodIn wsL_law wsX4_look := goodIn_r _ [412, 20, 413, 414, 415, 19, 416, 46, 218, 219, 220, 221, 222, 223, 44, 224, 55, 56, 225, 226, 227, 228, 446, 447, 448, 449, 450, 451, 452, 453, 454, 455, 456, 457, 458, 459, 460, 461, 491, 492, 493, 494, 495, 496, 487] (by decide +kernel) (by decide +kernel)
set_option maxRecDepth 20000 in
theorem gL_law_X4_look : GoodIn wsL_law (wsV RL 59 RX4 yX4_look wsX4_look) := goodIn_app (goodIn_of _ (by decide +kernel)) ggL_law_X4_look
set_option maxRecDepth 20000 in
theorem ggL_law_X5_look : GoodIn wsL_law wsX5_look := goodIn_r _ [420, 91, 92, 324, 325, 326, 253, 254, 255, 5, 256, 99, 339, 340, 341, 342, 128, 130, 131, 132, 347, 348, 349, 350, 98, 96, 97, 335, 336, 337, 338, 95, 462, 463, 464, 465, 466, 467, 468, 469, 470, 471, 472, 473, 474, 475, 476, 477, 478, 479, 480, 481, 482] (by decide +kernel) (by decide +kernel)
set_option maxRecDepth 20000 in
theorem gL_law_X5_look : GoodIn wsL_law (wsV RL 62 RX5 yX5_look wsX5_look) := goodIn_app (goodIn_of _ (by decide +kernel)) ggL_law_X5_look
set_option maxRecDepth 20000 in
theorem ggL_law_X4_event : GoodIn wsL_law wsX4_event := goodIn_r _ [424, 15, 16, 119, 120, 2, 121, 178, 179, 180, 14, 181, 35, 169, 170, 171, 172, 38, 425, 426, 427, 428, 36, 182, 183, 184, 185, 37, 446, 447, 448, 449, 450, 451, 452, 453, 454, 455, 456, 457, 458, 459, 460, 461, 483, 484, 485, 486] (by decide +kernel) (by decide +kernel)
set_option maxRecDepth 20000 in
theorem gL_law_X4_event : GoodIn wsL_law (wsV RL 63 RX4 yX4_event wsX4_event) := goodIn_app (goodIn_of _ (by decide +kernel)) ggL_law_X4_event
set_option maxRecDepth 20000 in
theorem ggL_law_X5_event_ : GoodIn wsL_law wsX5_event_ := goodIn_r _ [432, 98, 95, 96, 97, 130, 131, 5, 132, 462, 463, 464, 465, 466, 467, 468, 469, 470, 471, 472, 473, 474, 475, 476, 477, 478, 479, 480, 481, 482] (by decide +kernel) (by decide +kernel)
set_option maxRecDepth 20000 in
theorem gL_law_X5_event_ : GoodIn wsL_law (wsV RL 66 RX5 yX5_event_ wsX5_event_) := goodIn_app (goodIn_of _ (by decide +kernel)) ggL_law_X5_event_
set_option maxRecDepth 20000 in
theorem ggL_law_X4_count : GoodIn wsL_law wsX4_count := goodIn_r _ [436, 15, 16, 71, 69, 70, 20, 437, 72, 73, 74, 154, 155, 156, 14, 157, 38, 292, 293, 294, 19, 295, 46, 446, 447, 448, 449, 450, 451, 452, 453, 454, 455, 456, 457, 458, 459, 460, 461, 483, 484, 485, 486, 487, 491, 492, 493, 494, 495, 496] (by decide +kernel) (by decide +kernel)
set_option maxRecDepth 20000 in
theorem gL_law_X4_count : GoodIn wsL_law (wsV RL 67 RX4 yX4_count wsX4_count) := goodIn_app (goodIn_of _ (by decide +kernel)) ggL_law_X4_count
set_option maxRecDepth 20000 in
theorem ggL_law_X5_count : GoodIn wsL_law wsX5_count := goodIn_r _ [441, 98, 107, 99, 108, 109, 110, 442, 443, 444, 5, 445, 322, 323, 327, 328, 329, 330, 92, 331, 332, 333, 334, 95, 91, 335, 336, 337, 338, 253, 254, 255, 256, 339, 340, 341, 342, 128, 462, 463, 464, 465, 466, 467, 468, 469, 470, 471, 472, 473, 474, 475, 476, 477, 478, 479, 480, 481, 482] (by decide +kernel) (by decide +kernel)
set_option maxRecDepth 20000 in
theorem gL_law_X5_count : GoodIn wsL_law (wsV RL 70 RX5 yX5_count wsX5_count) := goodIn_app (goodIn_of _ (by decide +kernel)) ggL_law_X5_count
theorem dL_law_0 : decode cL_law 0 = .ok (.new 7, 3) := by decide +kernel
theorem dL_law_3 : decode cL_law 3 = .ok (.dup, 1) := by decide +kernel
theorem dL_law_4 : decode cL_law 4 = .ok (.invokespecial 9, 3) := by decide +kernel
theorem dL_law_7 : decode cL_law 7 = .ok (.astore_n 1, 1) := by decide +kernel
theorem dL_law_8 : decode cL_law 8 = .ok (.new 10, 3) := by decide +kernel
theorem dL_law_11 : decode cL_law 11 = .ok (.dup, 1) := by decide +kernel
theorem dL_law_12 : decode cL_law 12 = .ok (.invokespecial 12, 3) := by decide +kernel
theorem dL_law_15 : decode cL_law 15 = .ok (.astore_n 2, 1) := by decide +kernel
theorem dL_law_16 : decode cL_law 16 = .ok (.iconst 0, 1) := by decide +kernel
theorem dL_law_17 : decode cL_law 17 = .ok (.istore_n 3, 1) := by decide +kernel
theorem dL_law_18 : decode cL_law 18 = .ok (.iload_n 3, 1) := by decide +kernel
theorem dL_law_19 : decode cL_law 19 = .ok (.aload_n 0, 1) := by decide +kernel
theorem dL_law_20 : decode cL_law 20 = .ok (.arraylength, 1) := by decide +kernel
theorem dL_law_21 : decode cL_law 21 = .ok (.bipush 7, 2) := by decide +kernel
theorem dL_law_23 : decode cL_law 23 = .ok (.isub, 1) := by decide +kernel
theorem dL_law_24 : decode cL_law 24 = .ok (.if_icmp .gt 493, 3) := by decide +kernel
theorem dL_law_27 : decode cL_law 27 = .ok (.aload_n 0, 1) := by decide +kernel
theorem dL_law_28 : decode cL_law 28 = .ok (.iload_n 3, 1) := by decide +kernel
theorem dL_law_29 : decode cL_law 29 = .ok (.iaload, 1) := by decide +kernel
theorem dL_law_30 : decode cL_law 30 = .ok (.bipush 15, 2) := by decide +kernel
theorem dL_law_32 : decode cL_law 32 = .ok (.iand, 1) := by decide +kernel
theorem dL_law_33 : decode cL_law 33 = .ok (.tableswitch 478 0 12 #[67, 142, 185, 228, 251, 274, 287, 300, 323, 356, 369, 412, 455], 67) := by decide +kernel
theorem dL_law_100 : decode cL_law 100 = .ok (.aload_n 1, 1) := by decide +kernel
theorem dL_law_101 : decode cL_law 101 = .ok (.aload_n 0, 1) := by decide +kernel
theorem dL_law_102 : decode cL_law 102 = .ok (.iload_n 3, 1) := by decide +kernel
theorem dL_law_103 : decode cL_law 103 = .ok (.iconst 1, 1) := by decide +kernel
theorem dL_law_104 : decode cL_law 104 = .ok (.iadd, 1) := by decide +kernel
theorem dL_law_105 : decode cL_law 105 = .ok (.iaload, 1) := by decide +kernel
theorem dL_law_106 : decode cL_law 106 = .ok (.aload_n 0, 1) := by decide +kernel
theorem dL_law_107 : decode cL_law 107 = .ok (.iload_n 3, 1) := by decide +kernel
theorem dL_law_108 : decode cL_law 108 = .ok (.iconst 2, 1) := by decide +kernel
theorem dL_law_109 : decode cL_law 109 = .ok (.iadd, 1) := by decide +kernel
theorem dL_law_110 : decode cL_law 110 = .ok (.iaload, 1) := by decide +kernel
theorem dL_law_111 : decode cL_law 111 = .ok (.aload_n 0, 1) := by decide +kernel
theorem dL_law_112 : decode cL_law 112 = .ok (.iload_n 3, 1) := by decide +kernel
theorem dL_law_113 : decode cL_law 113 = .ok (.iconst 3, 1) := by decide +kernel
theorem dL_law_114 : decode cL_law 114 = .ok (.iadd, 1) := by decide +kernel
theorem dL_law_115 : decode cL_law 115 = .ok (.iaload, 1) := by decide +kernel
theorem dL_law_116 : decode cL_law 116 = .ok (.aload_n 0, 1) := by decide +kernel
theorem dL_law_117 : decode cL_law 117 = .ok (.iload_n 3, 1) := by decide +kernel
theorem dL_law_118 : decode cL_law 118 = .ok (.iconst 4, 1) := by decide +kernel
theorem dL_law_119 : decode cL_law 119 = .ok (.iadd, 1) := by decide +kernel
theorem dL_law_120 : decode cL_law 120 = .ok (.iaload, 1) := by decide +kernel
theorem dL_law_121 : decode cL_law 121 = .ok (.aload_n 0, 1) := by decide +kernel
theorem dL_law_122 : decode cL_law 122 = .ok (.iload_n 3, 1) := by decide +kernel
theorem dL_law_123 : decode cL_law 123 = .ok (.iconst 5, 1) := by decide +kernel
theorem dL_law_124 : decode cL_law 124 = .ok (.iadd, 1) := by decide +kernel
theorem dL_law_125 : decode cL_law 125 = .ok (.iaload, 1) := by decide +kernel
theorem dL_law_126 : decode cL_law 126 = .ok (.aload_n 0, 1) := by decide +kernel
theorem dL_law_127 : decode cL_law 127 = .ok (.iload_n 3, 1) := by decide +kernel
theorem dL_law_128 : decode cL_law 128 = .ok (.bipush 6, 2) := by decide +kernel
theorem dL_law_130 : decode cL_law 130 = .ok (.iadd, 1) := by decide +kernel
theorem dL_law_131 : decode cL_law 131 = .ok (.iaload, 1) := by decide +kernel
theorem dL_law_132 : decode cL_law 132 = .ok (.invokevirtual 13, 3) := by decide +kernel
theorem dL_law_135 : decode cL_law 135 = .ok (.aload_n 2, 1) := by decide +kernel
theorem dL_law_136 : decode cL_law 136 = .ok (.aload_n 0, 1) := by decide +kernel
theorem dL_law_137 : decode cL_law 137 = .ok (.iload_n 3, 1) := by decide +kernel
theorem dL_law_138 : decode cL_law 138 = .ok (.iconst 1, 1) := by decide +kernel
theorem dL_law_139 : decode cL_law 139 = .ok (.iadd, 1) := by decide +kernel
theorem dL_law_140 : decode cL_law 140 = .ok (.iaload, 1) := by decide +kernel
theorem dL_law_141 : decode cL_law 141 = .ok (.aload_n 0, 1) := by decide +kernel
theorem dL_law_142 : decode cL_law 142 = .ok (.iload_n 3, 1) := by decide +kernel
theorem dL_law_143 : decode cL_law 143 = .ok (.iconst 2, 1) := by decide +kernel
theorem dL_law_144 : decode cL_law 144 = .ok (.iadd, 1) := by decide +kernel
theorem dL_law_145 : decode cL_law 145 = .ok (.iaload, 1) := by decide +kernel
theorem dL_law_146 : decode cL_law 146 = .ok (.aload_n 0, 1) := by decide +kernel
theorem dL_law_147 : decode cL_law 147 = .ok (.iload_n 3, 1) := by decide +kernel
theorem dL_law_148 : decode cL_law 148 = .ok (.iconst 3, 1) := by decide +kernel
theorem dL_law_149 : decode cL_law 149 = .ok (.iadd, 1) := by decide +kernel
theorem dL_law_150 : decode cL_law 150 = .ok (.iaload, 1) := by decide +kernel
theorem dL_law_151 : decode cL_law 151 = .ok (.aload_n 0, 1) := by decide +kernel
theorem dL_law_152 : decode cL_law 152 = .ok (.iload_n 3, 1) := by decide +kernel
theorem dL_law_153 : decode cL_law 153 = .ok (.iconst 4, 1) := by decide +kernel
theorem dL_law_154 : decode cL_law 154 = .ok (.iadd, 1) := by decide +kernel
theorem dL_law_155 : decode cL_law 155 = .ok (.iaload, 1) := by decide +kernel
theorem dL_law_156 : decode cL_law 156 = .ok (.aload_n 0, 1) := by decide +kernel
theorem dL_law_157 : decode cL_law 157 = .ok (.iload_n 3, 1) := by decide +kernel
theorem dL_law_158 : decode cL_law 158 = .ok (.iconst 5, 1) := by decide +kernel
theorem dL_law_159 : decode cL_law 159 = .ok (.iadd, 1) := by decide +kernel
theorem dL_law_160 : decode cL_law 160 = .ok (.iaload, 1) := by decide +kernel
theorem dL_law_161 : decode cL_law 161 = .ok (.aload_n 0, 1) := by decide +kernel
theorem dL_law_162 : decode cL_law 162 = .ok (.iload_n 3, 1) := by decide +kernel
theorem dL_law_163 : decode cL_law 163 = .ok (.bipush 6, 2) := by decide +kernel
theorem dL_law_165 : decode cL_law 165 = .ok (.iadd, 1) := by decide +kernel
theorem dL_law_166 : decode cL_law 166 = .ok (.iaload, 1) := by decide +kernel
theorem dL_law_167 : decode cL_law 167 = .ok (.invokevirtual 17, 3) := by decide +kernel
theorem dL_law_170 : decode cL_law 170 = .ok (.if_icmp .eq 341, 3) := by decide +kernel
theorem dL_law_173 : decode cL_law 173 = .ok (.iconst 0, 1) := by decide +kernel
theorem dL_law_174 : decode cL_law 174 = .ok (.ireturn, 1) := by decide +kernel
theorem dL_law_175 : decode cL_law 175 = .ok (.aload_n 1, 1) := by decide +kernel
theorem dL_law_176 : decode cL_law 176 = .ok (.aload_n 0, 1) := by decide +kernel
theorem dL_law_177 : decode cL_law 177 = .ok (.iload_n 3, 1) := by decide +kernel
theorem dL_law_178 : decode cL_law 178 = .ok (.iconst 1, 1) := by decide +kernel
theorem dL_law_179 : decode cL_law 179 = .ok (.iadd, 1) := by decide +kernel
theorem dL_law_180 : decode cL_law 180 = .ok (.iaload, 1) := by decide +kernel
theorem dL_law_181 : decode cL_law 181 = .ok (.aload_n 0, 1) := by decide +kernel
theorem dL_law_182 : decode cL_law 182 = .ok (.iload_n 3, 1) := by decide +kernel
theorem dL_law_183 : decode cL_law 183 = .ok (.iconst 2, 1) := by decide +kernel
theorem dL_law_184 : decode cL_law 184 = .ok (.iadd, 1) := by decide +kernel
theorem dL_law_185 : decode cL_law 185 = .ok (.iaload, 1) := by decide +kernel
theorem dL_law_186 : decode cL_law 186 = .ok (.aload_n 0, 1) := by decide +kernel
theorem dL_law_187 : decode cL_law 187 = .ok (.iload_n 3, 1) := by decide +kernel
theorem dL_law_188 : decode cL_law 188 = .ok (.iconst 3, 1) := by decide +kernel
theorem dL_law_189 : decode cL_law 189 = .ok (.iadd, 1) := by decide +kernel
theorem dL_law_190 : decode cL_law 190 = .ok (.iaload, 1) := by decide +kernel
theorem dL_law_191 : decode cL_law 191 = .ok (.invokevirtual 18, 3) := by decide +kernel
theorem dL_law_194 : decode cL_law 194 = .ok (.aload_n 2, 1) := by decide +kernel
theorem dL_law_195 : decode cL_law 195 = .ok (.aload_n 0, 1) := by decide +kernel
theorem dL_law_196 : decode cL_law 196 = .ok (.iload_n 3, 1) := by decide +kernel
theorem dL_law_197 : decode cL_law 197 = .ok (.iconst 1, 1) := by decide +kernel
theorem dL_law_198 : decode cL_law 198 = .ok (.iadd, 1) := by decide +kernel
theorem dL_law_199 : decode cL_law 199 = .ok (.iaload, 1) := by decide +kernel
theorem dL_law_200 : decode cL_law 200 = .ok (.aload_n 0, 1) := by decide +kernel
theorem dL_law_201 : decode cL_law 201 = .ok (.iload_n 3, 1) := by decide +kernel
theorem dL_law_202 : decode cL_law 202 = .ok (.iconst 2, 1) := by decide +kernel
theorem dL_law_203 : decode cL_law 203 = .ok (.iadd, 1) := by decide +kernel
theorem dL_law_204 : decode cL_law 204 = .ok (.iaload, 1) := by decide +kernel
theorem dL_law_205 : decode cL_law 205 = .ok (.aload_n 0, 1) := by decide +kernel
theorem dL_law_206 : decode cL_law 206 = .ok (.iload_n 3, 1) := by decide +kernel
theorem dL_law_207 : decode cL_law 207 = .ok (.iconst 3, 1) := by decide +kernel
theorem dL_law_208 : decode cL_law 208 = .ok (.iadd, 1) := by decide +kernel
theorem dL_law_209 : decode cL_law 209 = .ok (.iaload, 1) := by decide +kernel
theorem dL_law_210 : decode cL_law 210 = .ok (.invokevirtual 22, 3) := by decide +kernel
theorem dL_law_213 : decode cL_law 213 = .ok (.if_icmp .eq 298, 3) := by decide +kernel
theorem dL_law_216 : decode cL_law 216 = .ok (.iconst 0, 1) := by decide +kernel
theorem dL_law_217 : decode cL_law 217 = .ok (.ireturn, 1) := by decide +kernel
theorem dL_law_218 : decode cL_law 218 = .ok (.aload_n 1, 1) := by decide +kernel
theorem dL_law_219 : decode cL_law 219 = .ok (.aload_n 0, 1) := by decide +kernel
theorem dL_law_220 : decode cL_law 220 = .ok (.iload_n 3, 1) := by decide +kernel
theorem dL_law_221 : decode cL_law 221 = .ok (.iconst 1, 1) := by decide +kernel
theorem dL_law_222 : decode cL_law 222 = .ok (.iadd, 1) := by decide +kernel
theorem dL_law_223 : decode cL_law 223 = .ok (.iaload, 1) := by decide +kernel
theorem dL_law_224 : decode cL_law 224 = .ok (.aload_n 0, 1) := by decide +kernel
theorem dL_law_225 : decode cL_law 225 = .ok (.iload_n 3, 1) := by decide +kernel
theorem dL_law_226 : decode cL_law 226 = .ok (.iconst 2, 1) := by decide +kernel
theorem dL_law_227 : decode cL_law 227 = .ok (.iadd, 1) := by decide +kernel
theorem dL_law_228 : decode cL_law 228 = .ok (.iaload, 1) := by decide +kernel
theorem dL_law_229 : decode cL_law 229 = .ok (.aload_n 0, 1) := by decide +kernel
theorem dL_law_230 : decode cL_law 230 = .ok (.iload_n 3, 1) := by decide +kernel
theorem dL_law_231 : decode cL_law 231 = .ok (.iconst 3, 1) := by decide +kernel
theorem dL_law_232 : decode cL_law 232 = .ok (.iadd, 1) := by decide +kernel
theorem dL_law_233 : decode cL_law 233 = .ok (.iaload, 1) := by decide +kernel
theorem dL_law_234 : decode cL_law 234 = .ok (.invokevirtual 23, 3) := by decide +kernel
theorem dL_law_237 : decode cL_law 237 = .ok (.aload_n 2, 1) := by decide +kernel
theorem dL_law_238 : decode cL_law 238 = .ok (.aload_n 0, 1) := by decide +kernel
theorem dL_law_239 : decode cL_law 239 = .ok (.iload_n 3, 1) := by decide +kernel
theorem dL_law_240 : decode cL_law 240 = .ok (.iconst 1, 1) := by decide +kernel
theorem dL_law_241 : decode cL_law 241 = .ok (.iadd, 1) := by decide +kernel
theorem dL_law_242 : decode cL_law 242 = .ok (.iaload, 1) := by decide +kernel
theorem dL_law_243 : decode cL_law 243 = .ok (.aload_n 0, 1) := by decide +kernel
theorem dL_law_244 : decode cL_law 244 = .ok (.iload_n 3, 1) := by decide +kernel
theorem dL_law_245 : decode cL_law 245 = .ok (.iconst 2, 1) := by decide +kernel
theorem dL_law_246 : decode cL_law 246 = .ok (.iadd, 1) := by decide +kernel
theorem dL_law_247 : decode cL_law 247 = .ok (.iaload, 1) := by decide +kernel
theorem dL_law_248 : decode cL_law 248 = .ok (.aload_n 0, 1) := by decide +kernel
theorem dL_law_249 : decode cL_law 249 = .ok (.iload_n 3, 1) := by decide +kernel
theorem dL_law_250 : decode cL_law 250 = .ok (.iconst 3, 1) := by decide +kernel
theorem dL_law_251 : decode cL_law 251 = .ok (.iadd, 1) := by decide +kernel
theorem dL_law_252 : decode cL_law 252 = .ok (.iaload, 1) := by decide +kernel
theorem dL_law_253 : decode cL_law 253 = .ok (.invokevirtual 26, 3) := by decide +kernel
theorem dL_law_256 : decode cL_law 256 = .ok (.if_icmp .eq 255, 3) := by decide +kernel
theorem dL_law_259 : decode cL_law 259 = .ok (.iconst 0, 1) := by decide +kernel
theorem dL_law_260 : decode cL_law 260 = .ok (.ireturn, 1) := by decide +kernel
theorem dL_law_261 : decode cL_law 261 = .ok (.aload_n 1, 1) := by decide +kernel
theorem dL_law_262 : decode cL_law 262 = .ok (.aload_n 0, 1) := by decide +kernel
theorem dL_law_263 : decode cL_law 263 = .ok (.iload_n 3, 1) := by decide +kernel
theorem dL_law_264 : decode cL_law 264 = .ok (.iconst 1, 1) := by decide +kernel
theorem dL_law_265 : decode cL_law 265 = .ok (.iadd, 1) := by decide +kernel
theorem dL_law_266 : decode cL_law 266 = .ok (.iaload, 1) := by decide +kernel
theorem dL_law_267 : decode cL_law 267 = .ok (.invokevirtual 27, 3) := by decide +kernel
theorem dL_law_270 : decode cL_law 270 = .ok (.aload_n 2, 1) := by decide +kernel
theorem dL_law_271 : decode cL_law 271 = .ok (.aload_n 0, 1) := by decide +kernel
theorem dL_law_272 : decode cL_law 272 = .ok (.iload_n 3, 1) := by decide +kernel
theorem dL_law_273 : decode cL_law 273 = .ok (.iconst 1, 1) := by decide +kernel
theorem dL_law_274 : decode cL_law 274 = .ok (.iadd, 1) := by decide +kernel
theorem dL_law_275 : decode cL_law 275 = .ok (.iaload, 1) := by decide +kernel
theorem dL_law_276 : decode cL_law 276 = .ok (.invokevirtual 31, 3) := by decide +kernel
theorem dL_law_279 : decode cL_law 279 = .ok (.if_icmp .eq 232, 3) := by decide +kernel
theorem dL_law_282 : decode cL_law 282 = .ok (.iconst 0, 1) := by decide +kernel
theorem dL_law_283 : decode cL_law 283 = .ok (.ireturn, 1) := by decide +kernel
theorem dL_law_284 : decode cL_law 284 = .ok (.aload_n 1, 1) := by decide +kernel
theorem dL_law_285 : decode cL_law 285 = .ok (.aload_n 0, 1) := by decide +kernel
theorem dL_law_286 : decode cL_law 286 = .ok (.iload_n 3, 1) := by decide +kernel
theorem dL_law_287 : decode cL_law 287 = .ok (.iconst 1, 1) := by decide +kernel
theorem dL_law_288 : decode cL_law 288 = .ok (.iadd, 1) := by decide +kernel
theorem dL_law_289 : decode cL_law 289 = .ok (.iaload, 1) := by decide +kernel
theorem dL_law_290 : decode cL_law 290 = .ok (.invokevirtual 32, 3) := by decide +kernel
theorem dL_law_293 : decode cL_law 293 = .ok (.aload_n 2, 1) := by decide +kernel
theorem dL_law_294 : decode cL_law 294 = .ok (.aload_n 0, 1) := by decide +kernel
theorem dL_law_295 : decode cL_law 295 = .ok (.iload_n 3, 1) := by decide +kernel
theorem dL_law_296 : decode cL_law 296 = .ok (.iconst 1, 1) := by decide +kernel
theorem dL_law_297 : decode cL_law 297 = .ok (.iadd, 1) := by decide +kernel
theorem dL_law_298 : decode cL_law 298 = .ok (.iaload, 1) := by decide +kernel
theorem dL_law_299 : decode cL_law 299 = .ok (.invokevirtual 35, 3) := by decide +kernel
theorem dL_law_302 : decode cL_law 302 = .ok (.if_icmp .eq 209, 3) := by decide +kernel
theorem dL_law_305 : decode cL_law 305 = .ok (.iconst 0, 1) := by decide +kernel
theorem dL_law_306 : decode cL_law 306 = .ok (.ireturn, 1) := by decide +kernel
theorem dL_law_307 : decode cL_law 307 = .ok (.aload_n 1, 1) := by decide +kernel
theorem dL_law_308 : decode cL_law 308 = .ok (.invokevirtual 36, 3) := by decide +kernel
theorem dL_law_311 : decode cL_law 311 = .ok (.aload_n 2, 1) := by decide +kernel
theorem dL_law_312 : decode cL_law 312 = .ok (.invokevirtual 40, 3) := by decide +kernel
theorem dL_law_315 : decode cL_law 315 = .ok (.if_icmp .eq 196, 3) := by decide +kernel
theorem dL_law_318 : decode cL_law 318 = .ok (.iconst 0, 1) := by decide +kernel
theorem dL_law_319 : decode cL_law 319 = .ok (.ireturn, 1) := by decide +kernel
theorem dL_law_320 : decode cL_law 320 = .ok (.aload_n 1, 1) := by decide +kernel
theorem dL_law_321 : decode cL_law 321 = .ok (.invokevirtual 41, 3) := by decide +kernel
theorem dL_law_324 : decode cL_law 324 = .ok (.aload_n 2, 1) := by decide +kernel
theorem dL_law_325 : decode cL_law 325 = .ok (.invokevirtual 44, 3) := by decide +kernel
theorem dL_law_328 : decode cL_law 328 = .ok (.if_icmp .eq 183, 3) := by decide +kernel
theorem dL_law_331 : decode cL_law 331 = .ok (.iconst 0, 1) := by decide +kernel
theorem dL_law_332 : decode cL_law 332 = .ok (.ireturn, 1) := by decide +kernel
theorem dL_law_333 : decode cL_law 333 = .ok (.aload_n 1, 1) := by decide +kernel
theorem dL_law_334 : decode cL_law 334 = .ok (.aload_n 0, 1) := by decide +kernel
theorem dL_law_335 : decode cL_law 335 = .ok (.iload_n 3, 1) := by decide +kernel
theorem dL_law_336 : decode cL_law 336 = .ok (.iconst 1, 1) := by decide +kernel
theorem dL_law_337 : decode cL_law 337 = .ok (.iadd, 1) := by decide +kernel
theorem dL_law_338 : decode cL_law 338 = .ok (.iaload, 1) := by decide +kernel
theorem dL_law_339 : decode cL_law 339 = .ok (.invokevirtual 45, 3) := by decide +kernel
theorem dL_law_342 : decode cL_law 342 = .ok (.aload_n 2, 1) := by decide +kernel
theorem dL_law_343 : decode cL_law 343 = .ok (.aload_n 0, 1) := by decide +kernel
theorem dL_law_344 : decode cL_law 344 = .ok (.iload_n 3, 1) := by decide +kernel
theorem dL_law_345 : decode cL_law 345 = .ok (.iconst 1, 1) := by decide +kernel
theorem dL_law_346 : decode cL_law 346 = .ok (.iadd, 1) := by decide +kernel
theorem dL_law_347 : decode cL_law 347 = .ok (.iaload, 1) := by decide +kernel
theorem dL_law_348 : decode cL_law 348 = .ok (.invokevirtual 48, 3) := by decide +kernel
theorem dL_law_351 : decode cL_law 351 = .ok (.if_icmp .eq 160, 3) := by decide +kernel
theorem dL_law_354 : decode cL_law 354 = .ok (.iconst 0, 1) := by decide +kernel
theorem dL_law_355 : decode cL_law 355 = .ok (.ireturn, 1) := by decide +kernel
theorem dL_law_356 : decode cL_law 356 = .ok (.aload_n 1, 1) := by decide +kernel
theorem dL_law_357 : decode cL_law 357 = .ok (.aload_n 0, 1) := by decide +kernel
theorem dL_law_358 : decode cL_law 358 = .ok (.iload_n 3, 1) := by decide +kernel
theorem dL_law_359 : decode cL_law 359 = .ok (.iconst 1, 1) := by decide +kernel
theorem dL_law_360 : decode cL_law 360 = .ok (.iadd, 1) := by decide +kernel
theorem dL_law_361 : decode cL_law 361 = .ok (.iaload, 1) := by decide +kernel
theorem dL_law_362 : decode cL_law 362 = .ok (.aload_n 0, 1) := by decide +kernel
theorem dL_law_363 : decode cL_law 363 = .ok (.iload_n 3, 1) := by decide +kernel
theorem dL_law_364 : decode cL_law 364 = .ok (.iconst 2, 1) := by decide +kernel
theorem dL_law_365 : decode cL_law 365 = .ok (.iadd, 1) := by decide +kernel
theorem dL_law_366 : decode cL_law 366 = .ok (.iaload, 1) := by decide +kernel
theorem dL_law_367 : decode cL_law 367 = .ok (.invokevirtual 49, 3) := by decide +kernel
theorem dL_law_370 : decode cL_law 370 = .ok (.aload_n 2, 1) := by decide +kernel
theorem dL_law_371 : decode cL_law 371 = .ok (.aload_n 0, 1) := by decide +kernel
theorem dL_law_372 : decode cL_law 372 = .ok (.iload_n 3, 1) := by decide +kernel
theorem dL_law_373 : decode cL_law 373 = .ok (.iconst 1, 1) := by decide +kernel
theorem dL_law_374 : decode cL_law 374 = .ok (.iadd, 1) := by decide +kernel
theorem dL_law_375 : decode cL_law 375 = .ok (.iaload, 1) := by decide +kernel
theorem dL_law_376 : decode cL_law 376 = .ok (.aload_n 0, 1) := by decide +kernel
theorem dL_law_377 : decode cL_law 377 = .ok (.iload_n 3, 1) := by decide +kernel
theorem dL_law_378 : decode cL_law 378 = .ok (.iconst 2, 1) := by decide +kernel
theorem dL_law_379 : decode cL_law 379 = .ok (.iadd, 1) := by decide +kernel
theorem dL_law_380 : decode cL_law 380 = .ok (.iaload, 1) := by decide +kernel
theorem dL_law_381 : decode cL_law 381 = .ok (.invokevirtual 53, 3) := by decide +kernel
theorem dL_law_384 : decode cL_law 384 = .ok (.if_icmp .eq 127, 3) := by decide +kernel
theorem dL_law_387 : decode cL_law 387 = .ok (.iconst 0, 1) := by decide +kernel
theorem dL_law_388 : decode cL_law 388 = .ok (.ireturn, 1) := by decide +kernel
theorem dL_law_389 : decode cL_law 389 = .ok (.aload_n 1, 1) := by decide +kernel
theorem dL_law_390 : decode cL_law 390 = .ok (.invokevirtual 54, 3) := by decide +kernel
theorem dL_law_393 : decode cL_law 393 = .ok (.aload_n 2, 1) := by decide +kernel
theorem dL_law_394 : decode cL_law 394 = .ok (.invokevirtual 58, 3) := by decide +kernel
theorem dL_law_397 : decode cL_law 397 = .ok (.if_icmp .eq 114, 3) := by decide +kernel
theorem dL_law_400 : decode cL_law 400 = .ok (.iconst 0, 1) := by decide +kernel
theorem dL_law_401 : decode cL_law 401 = .ok (.ireturn, 1) := by decide +kernel
theorem dL_law_402 : decode cL_law 402 = .ok (.aload_n 1, 1) := by decide +kernel
theorem dL_law_403 : decode cL_law 403 = .ok (.aload_n 0, 1) := by decide +kernel
theorem dL_law_404 : decode cL_law 404 = .ok (.iload_n 3, 1) := by decide +kernel
theorem dL_law_405 : decode cL_law 405 = .ok (.iconst 1, 1) := by decide +kernel
theorem dL_law_406 : decode cL_law 406 = .ok (.iadd, 1) := by decide +kernel
theorem dL_law_407 : decode cL_law 407 = .ok (.iaload, 1) := by decide +kernel
theorem dL_law_408 : decode cL_law 408 = .ok (.aload_n 0, 1) := by decide +kernel
theorem dL_law_409 : decode cL_law 409 = .ok (.iload_n 3, 1) := by decide +kernel
theorem dL_law_410 : decode cL_law 410 = .ok (.iconst 2, 1) := by decide +kernel
theorem dL_law_411 : decode cL_law 411 = .ok (.iadd, 1) := by decide +kernel
theorem dL_law_412 : decode cL_law 412 = .ok (.iaload, 1) := by decide +kernel
theorem dL_law_413 : decode cL_law 413 = .ok (.aload_n 0, 1) := by decide +kernel
theorem dL_law_414 : decode cL_law 414 = .ok (.iload_n 3, 1) := by decide +kernel
theorem dL_law_415 : decode cL_law 415 = .ok (.iconst 3, 1) := by decide +kernel
theorem dL_law_416 : decode cL_law 416 = .ok (.iadd, 1) := by decide +kernel
theorem dL_law_417 : decode cL_law 417 = .ok (.iaload, 1) := by decide +kernel
theorem dL_law_418 : decode cL_law 418 = .ok (.invokevirtual 59, 3) := by decide +kernel
theorem dL_law_421 : decode cL_law 421 = .ok (.aload_n 2, 1) := by decide +kernel
theorem dL_law_422 : decode cL_law 422 = .ok (.aload_n 0, 1) := by decide +kernel
theorem dL_law_423 : decode cL_law 423 = .ok (.iload_n 3, 1) := by decide +kernel
theorem dL_law_424 : decode cL_law 424 = .ok (.iconst 1, 1) := by decide +kernel
theorem dL_law_425 : decode cL_law 425 = .ok (.iadd, 1) := by decide +kernel
theorem dL_law_426 : decode cL_law 426 = .ok (.iaload, 1) := by decide +kernel
theorem dL_law_427 : decode cL_law 427 = .ok (.aload_n 0, 1) := by decide +kernel
theorem dL_law_428 : decode cL_law 428 = .ok (.iload_n 3, 1) := by decide +kernel
theorem dL_law_429 : decode cL_law 429 = .ok (.iconst 2, 1) := by decide +kernel
theorem dL_law_430 : decode cL_law 430 = .ok (.iadd, 1) := by decide +kernel
theorem dL_law_431 : decode cL_law 431 = .ok (.iaload, 1) := by decide +kernel
theorem dL_law_432 : decode cL_law 432 = .ok (.aload_n 0, 1) := by decide +kernel
theorem dL_law_433 : decode cL_law 433 = .ok (.iload_n 3, 1) := by decide +kernel
theorem dL_law_434 : decode cL_law 434 = .ok (.iconst 3, 1) := by decide +kernel
theorem dL_law_435 : decode cL_law 435 = .ok (.iadd, 1) := by decide +kernel
theorem dL_law_436 : decode cL_law 436 = .ok (.iaload, 1) := by decide +kernel
theorem dL_law_437 : decode cL_law 437 = .ok (.invokevirtual 62, 3) := by decide +kernel
theorem dL_law_440 : decode cL_law 440 = .ok (.if_icmp .eq 71, 3) := by decide +kernel
theorem dL_law_443 : decode cL_law 443 = .ok (.iconst 0, 1) := by decide +kernel
theorem dL_law_444 : decode cL_law 444 = .ok (.ireturn, 1) := by decide +kernel
theorem dL_law_445 : decode cL_law 445 = .ok (.aload_n 1, 1) := by decide +kernel
theorem dL_law_446 : decode cL_law 446 = .ok (.aload_n 0, 1) := by decide +kernel
theorem dL_law_447 : decode cL_law 447 = .ok (.iload_n 3, 1) := by decide +kernel
theorem dL_law_448 : decode cL_law 448 = .ok (.iconst 1, 1) := by decide +kernel
theorem dL_law_449 : decode cL_law 449 = .ok (.iadd, 1) := by decide +kernel
theorem dL_law_450 : decode cL_law 450 = .ok (.iaload, 1) := by decide +kernel
theorem dL_law_451 : decode cL_law 451 = .ok (.aload_n 0, 1) := by decide +kernel
theorem dL_law_452 : decode cL_law 452 = .ok (.iload_n 3, 1) := by decide +kernel
theorem dL_law_453 : decode cL_law 453 = .ok (.iconst 2, 1) := by decide +kernel
theorem dL_law_454 : decode cL_law 454 = .ok (.iadd, 1) := by decide +kernel
theorem dL_law_455 : decode cL_law 455 = .ok (.iaload, 1) := by decide +kernel
theorem dL_law_456 : decode cL_law 456 = .ok (.aload_n 0, 1) := by decide +kernel
theorem dL_law_457 : decode cL_law 457 = .ok (.iload_n 3, 1) := by decide +kernel
theorem dL_law_458 : decode cL_law 458 = .ok (.iconst 3, 1) := by decide +kernel
theorem dL_law_459 : decode cL_law 459 = .ok (.iadd, 1) := by decide +kernel
theorem dL_law_460 : decode cL_law 460 = .ok (.iaload, 1) := by decide +kernel
theorem dL_law_461 : decode cL_law 461 = .ok (.invokevirtual 63, 3) := by decide +kernel
theorem dL_law_464 : decode cL_law 464 = .ok (.aload_n 2, 1) := by decide +kernel
theorem dL_law_465 : decode cL_law 465 = .ok (.aload_n 0, 1) := by decide +kernel
theorem dL_law_466 : decode cL_law 466 = .ok (.iload_n 3, 1) := by decide +kernel
theorem dL_law_467 : decode cL_law 467 = .ok (.iconst 1, 1) := by decide +kernel
theorem dL_law_468 : decode cL_law 468 = .ok (.iadd, 1) := by decide +kernel
theorem dL_law_469 : decode cL_law 469 = .ok (.iaload, 1) := by decide +kernel
theorem dL_law_470 : decode cL_law 470 = .ok (.aload_n 0, 1) := by decide +kernel
theorem dL_law_471 : decode cL_law 471 = .ok (.iload_n 3, 1) := by decide +kernel
theorem dL_law_472 : decode cL_law 472 = .ok (.iconst 2, 1) := by decide +kernel
theorem dL_law_473 : decode cL_law 473 = .ok (.iadd, 1) := by decide +kernel
theorem dL_law_474 : decode cL_law 474 = .ok (.iaload, 1) := by decide +kernel
theorem dL_law_475 : decode cL_law 475 = .ok (.aload_n 0, 1) := by decide +kernel
theorem dL_law_476 : decode cL_law 476 = .ok (.iload_n 3, 1) := by decide +kernel
theorem dL_law_477 : decode cL_law 477 = .ok (.iconst 3, 1) := by decide +kernel
theorem dL_law_478 : decode cL_law 478 = .ok (.iadd, 1) := by decide +kernel
theorem dL_law_479 : decode cL_law 479 = .ok (.iaload, 1) := by decide +kernel
theorem dL_law_480 : decode cL_law 480 = .ok (.invokevirtual 66, 3) := by decide +kernel
theorem dL_law_483 : decode cL_law 483 = .ok (.if_icmp .eq 28, 3) := by decide +kernel
theorem dL_law_486 : decode cL_law 486 = .ok (.iconst 0, 1) := by decide +kernel
theorem dL_law_487 : decode cL_law 487 = .ok (.ireturn, 1) := by decide +kernel
theorem dL_law_488 : decode cL_law 488 = .ok (.aload_n 1, 1) := by decide +kernel
theorem dL_law_489 : decode cL_law 489 = .ok (.aload_n 0, 1) := by decide +kernel
theorem dL_law_490 : decode cL_law 490 = .ok (.iload_n 3, 1) := by decide +kernel
theorem dL_law_491 : decode cL_law 491 = .ok (.iconst 1, 1) := by decide +kernel
theorem dL_law_492 : decode cL_law 492 = .ok (.iadd, 1) := by decide +kernel
theorem dL_law_493 : decode cL_law 493 = .ok (.iaload, 1) := by decide +kernel
theorem dL_law_494 : decode cL_law 494 = .ok (.invokevirtual 67, 3) := by decide +kernel
theorem dL_law_497 : decode cL_law 497 = .ok (.aload_n 2, 1) := by decide +kernel
theorem dL_law_498 : decode cL_law 498 = .ok (.aload_n 0, 1) := by decide +kernel
theorem dL_law_499 : decode cL_law 499 = .ok (.iload_n 3, 1) := by decide +kernel
theorem dL_law_500 : decode cL_law 500 = .ok (.iconst 1, 1) := by decide +kernel
theorem dL_law_501 : decode cL_law 501 = .ok (.iadd, 1) := by decide +kernel
theorem dL_law_502 : decode cL_law 502 = .ok (.iaload, 1) := by decide +kernel
theorem dL_law_503 : decode cL_law 503 = .ok (.invokevirtual 70, 3) := by decide +kernel
theorem dL_law_506 : decode cL_law 506 = .ok (.if_icmp .eq 5, 3) := by decide +kernel
theorem dL_law_509 : decode cL_law 509 = .ok (.iconst 0, 1) := by decide +kernel
theorem dL_law_510 : decode cL_law 510 = .ok (.ireturn, 1) := by decide +kernel
theorem dL_law_511 : decode cL_law 511 = .ok (.iinc 3 7, 3) := by decide +kernel
theorem dL_law_514 : decode cL_law 514 = .ok (.goto (-496), 3) := by decide +kernel
theorem dL_law_517 : decode cL_law 517 = .ok (.iconst 1, 1) := by decide +kernel
theorem dL_law_518 : decode cL_law 518 = .ok (.ireturn, 1) := by decide +kernel
abbrev vwCl : List vw_C := [(RX0, TX0, 4), (RX1, TX1, 6), (RX2, TX2, 1), (RX3, TX3, 3), (RX4, TX4, 16), (RX5, TX5, 21)]
end
section
/-! The judgement J: the machine at pc with locals L, operands st, over a MEMORY M (a function from addresses to cells) of n cells in all.
It hides the heap, the written places and the slots of the locals; every row below turns J at an instruction into J at the next. -/
abbrev jE : Type := (Nat × vp_A) ⊕ (Nat × List Value)
abbrev jM : Type := Nat → Option jE
abbrev jT : Type := List (ClassId × FieldType)
def j_e (ty : jT) (e : jE) : va_E := match e with
  | .inl x => .inl ((match ty[x.1]? with | some q => q.1 | none => 0), x.2)
  | .inr o => .inr o
def j_up (M : jM) (a : Nat) (e : jE) : jM := fun q => if q = a then some e else M q
theorem j_up_self (M : jM) (a : Nat) (e : jE) : j_up M a e a = some e := by simp [j_up]
theorem j_up_ne (M : jM) {a q : Nat} (e : jE) (h : q ≠ a) : j_up M a e q = M q := by simp [j_up, h]
/-- the heap has n cells and holds the memory, which lies at b0 and above -/
def j_H (D : va_G) (ty : jT) (cl : List vw_C) (b0 : Nat) (M : jM) (n : Nat) (H : Heap) : Prop := H.size = n ∧ b0 ≤ n ∧ ∃ ws : va_W, va_P D cl ws H ∧ va_D (fun q => b0 ≤ q) ws ∧ ∀ (a : Nat) (e : jE), M a = some e → ∃ k : Nat, ws[k]? = some (a, j_e ty e)
/-- the tables: classes, array classes, links to private members of nest mates -/
def j_K (D : va_G) (ty : jT) (cl : List vw_C) (nw : List Cond) (U : State) : Prop := va_K D cl ty U ∧ (∀ w ∈ nw, va_Nw w U) ∧ ∀ (k : Nat) (q : ClassId × FieldType), ty[k]? = some q → U.vm.findClass ("[" ++ q.2.toString) = some q.1
def j_L (ls : Array Slot) (nL : Nat) (L : List (Option Value)) : Prop := ls.size = nL ∧ lv_wf ls ∧ ∀ (i : Nat) (v : Value), L[i]? = some (some v) → ls[i]? = some (.val v)
/-- no half of a long or double stands before place i -/
def j_c2 (L : List (Option Value)) (i : Nat) : Bool := match i with
  | 0 => true
  | j + 1 => match L[j]? with
    | some (some v) => v.category == 1
    | _ => true
def j_as (L : List (Option Value)) : List (Nat × Value) := (List.range L.length).filterMap (fun i => match L[i]? with | some (some v) => some (i, v) | _ => none)
theorem j_as_mem {L : List (Option Value)} {i : Nat} {v : Value} (h : L[i]? = some (some v)) : (i, v) ∈ j_as L := by
  refine List.mem_filterMap.mpr ⟨i, List.mem_range.mpr (List.getElem?_eq_some_iff.mp h).1, ?_⟩
  rw [h]
theorem j_as_of {L : List (Option Value)} {q : Nat × Value} (h : q ∈ j_as L) : L[q.1]? = some (some q.2) := by
  obtain ⟨i, -, hi⟩ := List.mem_filterMap.mp h
  split at hi
  · rename_i v hv
    cases hi
    exact hv
  · cases hi
theorem j_L.has {ls : Array Slot} {nL : Nat} {L : List (Option Value)} (h : j_L ls nL L) : lv_has ls nL (j_as L) := ⟨h.1, h.2.1, fun q hq => h.2.2 q.1 q.2 (j_as_of hq)⟩
theorem j_L.store {ls' : Array Slot} {nL i : Nat} {v : Value} {L : List (Option Value)} (hc2 : j_c2 L i = true)
    (h : lv_has ls' nL ((i, v) :: (j_as L).filter (fun q => !(q.1 == i) && !(q.1 + 1 == i && q.2.category == 2)))) : j_L ls' nL (L.set i (some v)) := by
  refine ⟨h.1, h.2.1, fun j w hj => ?_⟩
  by_cases hij : i = j
  · subst hij
    have hl : i < L.length := by
      have := (List.getElem?_eq_some_iff.mp hj).1
      simpa using this
    rw [List.getElem?_set_self hl] at hj
    cases hj
    exact h.2.2 (i, v) List.mem_cons_self
  · rw [List.getElem?_set_ne hij] at hj
    refine h.2.2 (j, w) (List.mem_cons_of_mem _ (List.mem_filter.mpr ⟨j_as_mem hj, ?_⟩))
    have h1 : (j == i) = false := by simpa using fun q => hij q.symm
    have h2 : (j + 1 == i && w.category == 2) = false := by
      by_cases hk : j + 1 = i
      · subst hk
        have h3 : w.category = 1 := by
          simp only [j_c2, hj] at hc2
          simpa using hc2
        simp [h3]
      · simp [hk]
    simp [h1, h2]
theorem j_L.store2 {ls' : Array Slot} {nL i : Nat} {v : Value} {L : List (Option Value)} (hc2 : j_c2 L i = true)
    (h : lv_has ls' nL ((i, v) :: (j_as L).filter (fun q => !(q.1 == i) && (!(q.1 == i + 1) && !(q.1 + 1 == i && q.2.category == 2))))) : j_L ls' nL ((L.set i (some v)).set (i + 1) none) := by
  refine ⟨h.1, h.2.1, fun j w hj => ?_⟩
  by_cases hj1 : i + 1 = j
  · subst hj1
    by_cases hl : i + 1 < (L.set i (some v)).length
    · rw [List.getElem?_set_self hl] at hj
      cases hj
    · rw [List.getElem?_eq_none (by rw [List.length_set]; omega)] at hj
      cases hj
  · rw [List.getElem?_set_ne hj1] at hj
    by_cases hij : i = j
    · subst hij
      have hl : i < L.length := by
        have := (List.getElem?_eq_some_iff.mp hj).1
        simpa using this
      rw [List.getElem?_set_self hl] at hj
      cases hj
      exact h.2.2 (i, v) List.mem_cons_self
    · rw [List.getElem?_set_ne hij] at hj
      refine h.2.2 (j, w) (List.mem_cons_of_mem _ (List.mem_filter.mpr ⟨j_as_mem hj, ?_⟩))
      have h1 : (j == i) = false := by simpa using fun q => hij q.symm
      have h3 : (j == i + 1) = false := by simpa using fun q => hj1 q.symm
      have h2 : (j + 1 == i && w.category == 2) = false := by
        by_cases hk : j + 1 = i
        · subst hk
          have h3 : w.category = 1 := by
            simp only [j_c2, hj] at hc2
            simpa using hc2
          simp [h3]
        · simp [hk]
      simp [h1, h2, h3]
/-- what a method's walk stands on -/
def j_X (p : Program) (s : State) (m : MethodId) (args : Array Value) (c : Code) (cc : ByteArray) (nL : Nat) (own : String) (Ts : List Cond) (D : va_G) (ty : jT) (cl : List vw_C) (nw : List Cond) : Prop :=
  p.tables.exec = Jvm.exec ∧ c.code = cc ∧ c.maxLocals = nL ∧ s.vm.findClass own = some m.cls ∧ (∀ w ∈ Ts, w.before args s = true) ∧ j_K D ty cl nw s
def J (p : Program) (l : Launch) (e : Env) (R : Room) (s : State) (m : MethodId) (args : Array Value) (below : List Frame) (meth : Method) (c : Code) (D : va_G) (ty : jT) (cl : List vw_C) (b0 : Nat) (Q : State → Prop) (nL : Nat) (M : jM) (n cells slots pc : Nat) (L : List (Option Value)) (st : List Value) : Prop :=
  ∀ (H : Heap) (locs : List Loc) (ls : Array Slot), j_H D ty cl b0 M n H → va_S (fun q => b0 ≤ q) s.heap H locs → j_L ls nL L → W p l e R s m args below meth c H locs cells slots Q (F0 m pc ls st)
/-- a contract's end: what it answers, the memory behind it -/
def j_Q (D : va_G) (ty : jT) (cl : List vw_C) (b0 : Nat) (Rt : Option Value → jM → Nat → Prop) : Array Value → State → Outcome → State → Prop := fun _ st o t =>
  ∃ (r : Option Value) (M' : jM) (n' : Nat), o = .returned r ∧ Rt r M' n' ∧ j_H D ty cl b0 M' n' t.heap ∧ va_F (fun q => b0 ≤ q) st t
def j_P (D : va_G) (ty : jT) (cl : List vw_C) (nw : List Cond) (b0 : Nat) (as : List Value) (M : jM) (n : Nat) : Array Value → State → Prop := fun v U =>
  v = as.toArray ∧ j_H D ty cl b0 M n U.heap ∧ j_K D ty cl nw U
/-- THE CONTRACT of method y: called with 'as' over the memory M of n cells, with so much room -/
def Ct (l : Launch) (D : va_G) (ty : jT) (cl : List vw_C) (nw : List Cond) (b0 : Nat) (y : MethodName) (ws : List Cond) (fr lo mc ms : Nat) (as : List Value) (M : jM) (n : Nat) (Rt : Option Value → jM → Nat → Prop) : Prop :=
  Met l y ws { frames := fr, cells := mc, slots := ms, locals := lo } (j_P D ty cl nw b0 as M n) (j_Q D ty cl b0 Rt) mc ms (fun q => b0 ≤ q)
/-- the links that the tables keep over a walk -/
def j_nest : Cond → Bool
  | .fieldLinkNest .. => true
  | .methodLinkNest .. => true
  | _ => false
theorem j_K.warm {D : va_G} {ty : jT} {cl : List vw_C} {nw : List Cond} (hn : nw.all j_nest = true) {s U : State} (hW : s.WarmedH U.vm) (h : j_K D ty cl nw s) : j_K D ty cl nw U := by
  refine ⟨va_K.moved hW.alike h.1, fun w hw => ?_, fun k q hk => ?_⟩
  · have h1 := List.all_eq_true.mp hn w hw
    have h2 := h.2.1 w hw
    cases w <;> first | (simp [j_nest] at h1; done) | exact va_Nw.warmF hW h2 | exact va_Nw.warmM hW h2
  · rw [hW.alike.findClass]
    exact h.2.2 k q hk
end
section
theorem j_cm3 (x y : Int64) : (y < x ∧ lg_cmp x y = 1) ∨ (x = y ∧ lg_cmp x y = 0) ∨ (x < y ∧ lg_cmp x y = -1) := by
  rcases Int.lt_trichotomy x.toInt y.toInt with h | h | h
  · have h1 : x < y := Int64.lt_iff_toInt_lt.mpr h
    have h2 : ¬ y < x := by rw [Int64.lt_iff_toInt_lt]; omega
    have h3 : ¬ x = y := by intro q; subst q; omega
    exact Or.inr (Or.inr ⟨h1, by simp [lg_cmp, h2, h3]⟩)
  · have h1 : x = y := Int64.toInt_inj.mp h
    subst h1
    exact Or.inr (Or.inl ⟨rfl, by simp [lg_cmp]⟩)
  · have h1 : y < x := Int64.lt_iff_toInt_lt.mpr h
    exact Or.inl ⟨h1, by simp [lg_cmp, h1]⟩
theorem j_cm_eq {x y : Int64} : lg_cmp x y = 0 ↔ x = y := by
  have hx : x = y ↔ x.toInt = y.toInt := ⟨fun h => by rw [h], fun h => Int64.toInt_inj.mp h⟩
  rcases j_cm3 x y with ⟨h, e⟩ | ⟨h, e⟩ | ⟨h, e⟩ <;> rw [e] <;> simp only [Int64.lt_iff_toInt_lt, Int64.le_iff_toInt_le, hx] at h ⊢ <;> constructor <;> intro g <;> first | omega | (exact absurd g (by decide)) | decide
theorem j_cm_ne {x y : Int64} : ¬ lg_cmp x y = 0 ↔ ¬ x = y := by
  have hx : x = y ↔ x.toInt = y.toInt := ⟨fun h => by rw [h], fun h => Int64.toInt_inj.mp h⟩
  rcases j_cm3 x y with ⟨h, e⟩ | ⟨h, e⟩ | ⟨h, e⟩ <;> rw [e] <;> simp only [Int64.lt_iff_toInt_lt, Int64.le_iff_toInt_le, hx] at h ⊢ <;> constructor <;> intro g <;> first | omega | (exact absurd g (by decide)) | decide
theorem j_cm_lt {x y : Int64} : lg_cmp x y < 0 ↔ x < y := by
  have hx : x = y ↔ x.toInt = y.toInt := ⟨fun h => by rw [h], fun h => Int64.toInt_inj.mp h⟩
  rcases j_cm3 x y with ⟨h, e⟩ | ⟨h, e⟩ | ⟨h, e⟩ <;> rw [e] <;> simp only [Int64.lt_iff_toInt_lt, Int64.le_iff_toInt_le, hx] at h ⊢ <;> constructor <;> intro g <;> first | omega | (exact absurd g (by decide)) | decide
theorem j_cm_ge {x y : Int64} : 0 ≤ lg_cmp x y ↔ y ≤ x := by
  have hx : x = y ↔ x.toInt = y.toInt := ⟨fun h => by rw [h], fun h => Int64.toInt_inj.mp h⟩
  rcases j_cm3 x y with ⟨h, e⟩ | ⟨h, e⟩ | ⟨h, e⟩ <;> rw [e] <;> simp only [Int64.lt_iff_toInt_lt, Int64.le_iff_toInt_le, hx] at h ⊢ <;> constructor <;> intro g <;> first | omega | (exact absurd g (by decide)) | decide
theorem j_cm_gt {x y : Int64} : 0 < lg_cmp x y ↔ y < x := by
  have hx : x = y ↔ x.toInt = y.toInt := ⟨fun h => by rw [h], fun h => Int64.toInt_inj.mp h⟩
  rcases j_cm3 x y with ⟨h, e⟩ | ⟨h, e⟩ | ⟨h, e⟩ <;> rw [e] <;> simp only [Int64.lt_iff_toInt_lt, Int64.le_iff_toInt_le, hx] at h ⊢ <;> constructor <;> intro g <;> first | omega | (exact absurd g (by decide)) | decide
theorem j_cm_le {x y : Int64} : lg_cmp x y ≤ 0 ↔ x ≤ y := by
  have hx : x = y ↔ x.toInt = y.toInt := ⟨fun h => by rw [h], fun h => Int64.toInt_inj.mp h⟩
  rcases j_cm3 x y with ⟨h, e⟩ | ⟨h, e⟩ | ⟨h, e⟩ <;> rw [e] <;> simp only [Int64.lt_iff_toInt_lt, Int64.le_iff_toInt_le, hx] at h ⊢ <;> constructor <;> intro g <;> first | omega | (exact absurd g (by decide)) | decide
section JR
variable {p : Program} {l : Launch} {e : Env} {R : Room} {s : State} {m : MethodId} {args : Array Value} {below : List Frame} {meth : Method} {c : Code} {D : va_G} {ty : jT} {cl : List vw_C} {nw : List Cond} {b0 : Nat} {Q : State → Prop} {nL : Nat} {M : jM} {n cells slots pc : Nat} {L L' : List (Option Value)} {st : List Value} {cc : ByteArray} {own : String} {Ts : List Cond}
theorem j_iconst (X : j_X p s m args c cc nL own Ts D ty cl nw) {i : Int} {v : Int32} (hd : decode cc pc = .ok (.iconst i, 1)) (hv : Int32.ofInt i = v) (k : J p l e R s m args below meth c D ty cl b0 Q nL M n cells slots (pc + 1) L (.int v :: st)) : J p l e R s m args below meth c D ty cl b0 Q nL M n cells slots pc L (st) := fun H locs ls hH hS hL => lv_iconst X.1 X.2.1 hd hv (k H locs ls hH hS hL)
theorem j_bipush (X : j_X p s m args c cc nL own Ts D ty cl nw) {i : Int} {v : Int32} (hd : decode cc pc = .ok (.bipush i, 2)) (hv : (Int8.ofInt i).toInt32 = v) (k : J p l e R s m args below meth c D ty cl b0 Q nL M n cells slots (pc + 2) L (.int v :: st)) : J p l e R s m args below meth c D ty cl b0 Q nL M n cells slots pc L (st) := fun H locs ls hH hS hL => lv_bipush X.1 X.2.1 hd hv (k H locs ls hH hS hL)
theorem j_sipush (X : j_X p s m args c cc nL own Ts D ty cl nw) {i : Int} {v : Int32} (hd : decode cc pc = .ok (.sipush i, 3)) (hv : (Int16.ofInt i).toInt32 = v) (k : J p l e R s m args below meth c D ty cl b0 Q nL M n cells slots (pc + 3) L (.int v :: st)) : J p l e R s m args below meth c D ty cl b0 Q nL M n cells slots pc L (st) := fun H locs ls hH hS hL => lv_sipush X.1 X.2.1 hd hv (k H locs ls hH hS hL)
theorem j_ldc (X : j_X p s m args c cc nL own Ts D ty cl nw) {index : Nat} {v : Int32} (hd : decode cc pc = .ok (.ldc index, 2)) (hc : Cond.constant own index v ∈ Ts) (k : J p l e R s m args below meth c D ty cl b0 Q nL M n cells slots (pc + 2) L (.int v :: st)) : J p l e R s m args below meth c D ty cl b0 Q nL M n cells slots pc L (st) := fun H locs ls hH hS hL => lv_ldc X.1 X.2.1 X.2.2.2.1 (X.2.2.2.2.1 _ hc) hd (k H locs ls hH hS hL)
theorem j_null (X : j_X p s m args c cc nL own Ts D ty cl nw) (hd : decode cc pc = .ok (.aconst_null, 1)) (k : J p l e R s m args below meth c D ty cl b0 Q nL M n cells slots (pc + 1) L (.null :: st)) : J p l e R s m args below meth c D ty cl b0 Q nL M n cells slots pc L (st) := fun H locs ls hH hS hL => lv_null X.1 X.2.1 hd (k H locs ls hH hS hL)
theorem j_iload_n (X : j_X p s m args c cc nL own Ts D ty cl nw) {q : Fin 4} (i : Nat) {x : Int32} (hd : decode cc pc = .ok (.iload_n q, 1)) (hi : (q : Nat) = i) (hl : L[i]? = some (some (.int x))) (k : J p l e R s m args below meth c D ty cl b0 Q nL M n cells slots (pc + 1) L (.int x :: st)) : J p l e R s m args below meth c D ty cl b0 Q nL M n cells slots pc L (st) := fun H locs ls hH hS hL => lv_iload_n X.1 X.2.1 hd hi (hL.2.2 _ _ hl) (k H locs ls hH hS hL)
theorem j_iload (X : j_X p s m args c cc nL own Ts D ty cl nw) {i : Nat} {x : Int32} (hd : decode cc pc = .ok (.iload i, 2)) (hl : L[i]? = some (some (.int x))) (k : J p l e R s m args below meth c D ty cl b0 Q nL M n cells slots (pc + 2) L (.int x :: st)) : J p l e R s m args below meth c D ty cl b0 Q nL M n cells slots pc L (st) := fun H locs ls hH hS hL => lv_iload X.1 X.2.1 hd (hL.2.2 _ _ hl) (k H locs ls hH hS hL)
theorem j_aload_n (X : j_X p s m args c cc nL own Ts D ty cl nw) {q : Fin 4} (i : Nat) {x : Nat} (hd : decode cc pc = .ok (.aload_n q, 1)) (hi : (q : Nat) = i) (hl : L[i]? = some (some (.ref x))) (k : J p l e R s m args below meth c D ty cl b0 Q nL M n cells slots (pc + 1) L (.ref x :: st)) : J p l e R s m args below meth c D ty cl b0 Q nL M n cells slots pc L (st) := fun H locs ls hH hS hL => lv_aload_n X.1 X.2.1 hd hi (hL.2.2 _ _ hl) (k H locs ls hH hS hL)
theorem j_aload (X : j_X p s m args c cc nL own Ts D ty cl nw) {i : Nat} {x : Nat} (hd : decode cc pc = .ok (.aload i, 2)) (hl : L[i]? = some (some (.ref x))) (k : J p l e R s m args below meth c D ty cl b0 Q nL M n cells slots (pc + 2) L (.ref x :: st)) : J p l e R s m args below meth c D ty cl b0 Q nL M n cells slots pc L (st) := fun H locs ls hH hS hL => lv_aload X.1 X.2.1 hd (hL.2.2 _ _ hl) (k H locs ls hH hS hL)
theorem j_aload_nN (X : j_X p s m args c cc nL own Ts D ty cl nw) {q : Fin 4} (i : Nat) (hd : decode cc pc = .ok (.aload_n q, 1)) (hi : (q : Nat) = i) (hl : L[i]? = some (some .null)) (k : J p l e R s m args below meth c D ty cl b0 Q nL M n cells slots (pc + 1) L (.null :: st)) : J p l e R s m args below meth c D ty cl b0 Q nL M n cells slots pc L (st) := fun H locs ls hH hS hL => lv_aload_nN X.1 X.2.1 hd hi (hL.2.2 _ _ hl) (k H locs ls hH hS hL)
theorem j_aloadN (X : j_X p s m args c cc nL own Ts D ty cl nw) {i : Nat} (hd : decode cc pc = .ok (.aload i, 2)) (hl : L[i]? = some (some .null)) (k : J p l e R s m args below meth c D ty cl b0 Q nL M n cells slots (pc + 2) L (.null :: st)) : J p l e R s m args below meth c D ty cl b0 Q nL M n cells slots pc L (st) := fun H locs ls hH hS hL => lv_aloadN X.1 X.2.1 hd (hL.2.2 _ _ hl) (k H locs ls hH hS hL)
theorem j_istore_n (X : j_X p s m args c cc nL own Ts D ty cl nw) {q : Fin 4} (i : Nat) {x : Int32} (hd : decode cc pc = .ok (.istore_n q, 1)) (hi : (q : Nat) = i) (hn : i < nL) (hc : j_c2 L i = true) (hl : L.set i (some (.int x)) = L') (k : J p l e R s m args below meth c D ty cl b0 Q nL M n cells slots (pc + 1) L' st) : J p l e R s m args below meth c D ty cl b0 Q nL M n cells slots pc L (.int x :: st) := fun H locs ls hH hS hL => lv_istore_n X.1 X.2.1 hd hi hL.has hn rfl (fun ls' h' => k H locs ls' hH hS (hl ▸ j_L.store hc h'))
theorem j_istore (X : j_X p s m args c cc nL own Ts D ty cl nw) {i : Nat} {x : Int32} (hd : decode cc pc = .ok (.istore i, 2)) (hn : i < nL) (hc : j_c2 L i = true) (hl : L.set i (some (.int x)) = L') (k : J p l e R s m args below meth c D ty cl b0 Q nL M n cells slots (pc + 2) L' st) : J p l e R s m args below meth c D ty cl b0 Q nL M n cells slots pc L (.int x :: st) := fun H locs ls hH hS hL => lv_istore X.1 X.2.1 hd hL.has hn rfl (fun ls' h' => k H locs ls' hH hS (hl ▸ j_L.store hc h'))
theorem j_astore_n (X : j_X p s m args c cc nL own Ts D ty cl nw) {q : Fin 4} (i : Nat) {x : Nat} (hd : decode cc pc = .ok (.astore_n q, 1)) (hi : (q : Nat) = i) (hn : i < nL) (hc : j_c2 L i = true) (hl : L.set i (some (.ref x)) = L') (k : J p l e R s m args below meth c D ty cl b0 Q nL M n cells slots (pc + 1) L' st) : J p l e R s m args below meth c D ty cl b0 Q nL M n cells slots pc L (.ref x :: st) := fun H locs ls hH hS hL => lv_astore_n X.1 X.2.1 hd hi hL.has hn rfl (fun ls' h' => k H locs ls' hH hS (hl ▸ j_L.store hc h'))
theorem j_astore (X : j_X p s m args c cc nL own Ts D ty cl nw) {i : Nat} {x : Nat} (hd : decode cc pc = .ok (.astore i, 2)) (hn : i < nL) (hc : j_c2 L i = true) (hl : L.set i (some (.ref x)) = L') (k : J p l e R s m args below meth c D ty cl b0 Q nL M n cells slots (pc + 2) L' st) : J p l e R s m args below meth c D ty cl b0 Q nL M n cells slots pc L (.ref x :: st) := fun H locs ls hH hS hL => lv_astore X.1 X.2.1 hd hL.has hn rfl (fun ls' h' => k H locs ls' hH hS (hl ▸ j_L.store hc h'))
theorem j_astore_nN (X : j_X p s m args c cc nL own Ts D ty cl nw) {q : Fin 4} (i : Nat)  (hd : decode cc pc = .ok (.astore_n q, 1)) (hi : (q : Nat) = i) (hn : i < nL) (hc : j_c2 L i = true) (hl : L.set i (some (.null)) = L') (k : J p l e R s m args below meth c D ty cl b0 Q nL M n cells slots (pc + 1) L' st) : J p l e R s m args below meth c D ty cl b0 Q nL M n cells slots pc L (.null :: st) := fun H locs ls hH hS hL => lv_astore_nN X.1 X.2.1 hd hi hL.has hn rfl (fun ls' h' => k H locs ls' hH hS (hl ▸ j_L.store hc h'))
theorem j_astoreN (X : j_X p s m args c cc nL own Ts D ty cl nw) {i : Nat}  (hd : decode cc pc = .ok (.astore i, 2)) (hn : i < nL) (hc : j_c2 L i = true) (hl : L.set i (some (.null)) = L') (k : J p l e R s m args below meth c D ty cl b0 Q nL M n cells slots (pc + 2) L' st) : J p l e R s m args below meth c D ty cl b0 Q nL M n cells slots pc L (.null :: st) := fun H locs ls hH hS hL => lv_astoreN X.1 X.2.1 hd hL.has hn rfl (fun ls' h' => k H locs ls' hH hS (hl ▸ j_L.store hc h'))
theorem j_iinc (X : j_X p s m args c cc nL own Ts D ty cl nw) {i : Nat} {d : Int} {x v : Int32} (hd : decode cc pc = .ok (.iinc i d, 3)) (hx : L[i]? = some (some (.int x))) (hv : x + Int32.ofInt d = v) (hn : i < nL) (hc : j_c2 L i = true) (hl : L.set i (some (.int v)) = L') (k : J p l e R s m args below meth c D ty cl b0 Q nL M n cells slots (pc + 3) L' st) : J p l e R s m args below meth c D ty cl b0 Q nL M n cells slots pc L st := by
  intro H locs ls hH hS hL
  obtain ⟨q, hq⟩ := List.getElem?_of_mem (j_as_mem hx)
  exact lv_iinc X.1 X.2.1 hd hL.has hq hv hn rfl (fun ls' h' => k H locs ls' hH hS (hl ▸ j_L.store hc h'))
theorem j_iadd (X : j_X p s m args c cc nL own Ts D ty cl nw) {x y : Int32} (hd : decode cc pc = .ok (.iadd, 1)) (k : J p l e R s m args below meth c D ty cl b0 Q nL M n cells slots (pc + 1) L (.int (x + y) :: st)) : J p l e R s m args below meth c D ty cl b0 Q nL M n cells slots pc L (.int y :: .int x :: st) := fun H locs ls hH hS hL => lv_iadd X.1 X.2.1 hd (k H locs ls hH hS hL)
theorem j_isub (X : j_X p s m args c cc nL own Ts D ty cl nw) {x y : Int32} (hd : decode cc pc = .ok (.isub, 1)) (k : J p l e R s m args below meth c D ty cl b0 Q nL M n cells slots (pc + 1) L (.int (x - y) :: st)) : J p l e R s m args below meth c D ty cl b0 Q nL M n cells slots pc L (.int y :: .int x :: st) := fun H locs ls hH hS hL => lv_isub X.1 X.2.1 hd (k H locs ls hH hS hL)
theorem j_imul (X : j_X p s m args c cc nL own Ts D ty cl nw) {x y : Int32} (hd : decode cc pc = .ok (.imul, 1)) (k : J p l e R s m args below meth c D ty cl b0 Q nL M n cells slots (pc + 1) L (.int (x * y) :: st)) : J p l e R s m args below meth c D ty cl b0 Q nL M n cells slots pc L (.int y :: .int x :: st) := fun H locs ls hH hS hL => lv_imul X.1 X.2.1 hd (k H locs ls hH hS hL)
theorem j_iand (X : j_X p s m args c cc nL own Ts D ty cl nw) {x y : Int32} (hd : decode cc pc = .ok (.iand, 1)) (k : J p l e R s m args below meth c D ty cl b0 Q nL M n cells slots (pc + 1) L (.int (x &&& y) :: st)) : J p l e R s m args below meth c D ty cl b0 Q nL M n cells slots pc L (.int y :: .int x :: st) := fun H locs ls hH hS hL => lv_iand X.1 X.2.1 hd (k H locs ls hH hS hL)
theorem j_ior (X : j_X p s m args c cc nL own Ts D ty cl nw) {x y : Int32} (hd : decode cc pc = .ok (.ior, 1)) (k : J p l e R s m args below meth c D ty cl b0 Q nL M n cells slots (pc + 1) L (.int (x ||| y) :: st)) : J p l e R s m args below meth c D ty cl b0 Q nL M n cells slots pc L (.int y :: .int x :: st) := fun H locs ls hH hS hL => lv_ior X.1 X.2.1 hd (k H locs ls hH hS hL)
theorem j_ixor (X : j_X p s m args c cc nL own Ts D ty cl nw) {x y : Int32} (hd : decode cc pc = .ok (.ixor, 1)) (k : J p l e R s m args below meth c D ty cl b0 Q nL M n cells slots (pc + 1) L (.int (x ^^^ y) :: st)) : J p l e R s m args below meth c D ty cl b0 Q nL M n cells slots pc L (.int y :: .int x :: st) := fun H locs ls hH hS hL => lv_ixor X.1 X.2.1 hd (k H locs ls hH hS hL)
theorem j_ineg (X : j_X p s m args c cc nL own Ts D ty cl nw) {x : Int32} (hd : decode cc pc = .ok (.ineg, 1)) (k : J p l e R s m args below meth c D ty cl b0 Q nL M n cells slots (pc + 1) L (.int (-x) :: st)) : J p l e R s m args below meth c D ty cl b0 Q nL M n cells slots pc L (.int x :: st) := fun H locs ls hH hS hL => lv_ineg X.1 X.2.1 hd (k H locs ls hH hS hL)
theorem j_idiv (X : j_X p s m args c cc nL own Ts D ty cl nw) {x y : Int32} (hd : decode cc pc = .ok (.idiv, 1)) (hne : ¬ y = 0) (k : J p l e R s m args below meth c D ty cl b0 Q nL M n cells slots (pc + 1) L (.int (x / y) :: st)) : J p l e R s m args below meth c D ty cl b0 Q nL M n cells slots pc L (.int y :: .int x :: st) := fun H locs ls hH hS hL => lv_idiv X.1 X.2.1 hd hne (k H locs ls hH hS hL)
theorem j_irem (X : j_X p s m args c cc nL own Ts D ty cl nw) {x y : Int32} (hd : decode cc pc = .ok (.irem, 1)) (hne : ¬ y = 0) (k : J p l e R s m args below meth c D ty cl b0 Q nL M n cells slots (pc + 1) L (.int (x - x / y * y) :: st)) : J p l e R s m args below meth c D ty cl b0 Q nL M n cells slots pc L (.int y :: .int x :: st) := fun H locs ls hH hS hL => lv_irem X.1 X.2.1 hd hne (k H locs ls hH hS hL)
theorem j_dup (X : j_X p s m args c cc nL own Ts D ty cl nw) {v : Value} (hd : decode cc pc = .ok (.dup, 1)) (hv : v.category = 1) (k : J p l e R s m args below meth c D ty cl b0 Q nL M n cells slots (pc + 1) L (v :: v :: st)) : J p l e R s m args below meth c D ty cl b0 Q nL M n cells slots pc L (v :: st) := fun H locs ls hH hS hL => lv_dup X.1 X.2.1 hd hv (k H locs ls hH hS hL)
theorem j_pop (X : j_X p s m args c cc nL own Ts D ty cl nw) {v : Value} (hd : decode cc pc = .ok (.pop, 1)) (hv : v.category = 1) (k : J p l e R s m args below meth c D ty cl b0 Q nL M n cells slots (pc + 1) L st) : J p l e R s m args below meth c D ty cl b0 Q nL M n cells slots pc L (v :: st) := fun H locs ls hH hS hL => lv_pop X.1 X.2.1 hd hv (k H locs ls hH hS hL)
theorem j_dup_x1 (X : j_X p s m args c cc nL own Ts D ty cl nw) {v w : Value} (hd : decode cc pc = .ok (.dup_x1, 1)) (hv : v.category = 1) (hw : w.category = 1) (k : J p l e R s m args below meth c D ty cl b0 Q nL M n cells slots (pc + 1) L (v :: w :: v :: st)) : J p l e R s m args below meth c D ty cl b0 Q nL M n cells slots pc L (v :: w :: st) := fun H locs ls hH hS hL => lv_dup_x1 X.1 X.2.1 hd hv hw (k H locs ls hH hS hL)
theorem j_dup2 (X : j_X p s m args c cc nL own Ts D ty cl nw) {v w : Value} (hd : decode cc pc = .ok (.dup2, 1)) (hv : v.category = 1) (hw : w.category = 1) (k : J p l e R s m args below meth c D ty cl b0 Q nL M n cells slots (pc + 1) L (v :: w :: v :: w :: st)) : J p l e R s m args below meth c D ty cl b0 Q nL M n cells slots pc L (v :: w :: st) := fun H locs ls hH hS hL => lv_dup2_11 X.1 X.2.1 hd hv hw (k H locs ls hH hS hL)
theorem j_goto (X : j_X p s m args c cc nL own Ts D ty cl nw) {off : Int} (tgt : Nat) (hd : decode cc pc = .ok (.goto off, 3)) (ht : (pc : Int) + off = (tgt : Int)) (k : J p l e R s m args below meth c D ty cl b0 Q nL M n cells slots tgt L st) : J p l e R s m args below meth c D ty cl b0 Q nL M n cells slots pc L (st) := fun H locs ls hH hS hL => lv_goto X.1 X.2.1 hd ht (k H locs ls hH hS hL)
theorem j_if_eq (X : j_X p s m args c cc nL own Ts D ty cl nw) {x : Int32} {off : Int} (tgt : Nat) (hd : decode cc pc = .ok (.ifCond .eq off, 3)) (ht : (pc : Int) + off = (tgt : Int)) (kt : x = 0 → J p l e R s m args below meth c D ty cl b0 Q nL M n cells slots tgt L st) (kf : ¬ (x = 0) → J p l e R s m args below meth c D ty cl b0 Q nL M n cells slots (pc + 3) L st) : J p l e R s m args below meth c D ty cl b0 Q nL M n cells slots pc L (.int x :: st) := fun H locs ls hH hS hL => lv_if_eq X.1 X.2.1 hd ht (fun h => kt h H locs ls hH hS hL) (fun h => kf h H locs ls hH hS hL)
theorem j_icmp_eq (X : j_X p s m args c cc nL own Ts D ty cl nw) {x y : Int32} {off : Int} (tgt : Nat) (hd : decode cc pc = .ok (.if_icmp .eq off, 3)) (ht : (pc : Int) + off = (tgt : Int)) (kt : x = y → J p l e R s m args below meth c D ty cl b0 Q nL M n cells slots tgt L st) (kf : ¬ (x = y) → J p l e R s m args below meth c D ty cl b0 Q nL M n cells slots (pc + 3) L st) : J p l e R s m args below meth c D ty cl b0 Q nL M n cells slots pc L (.int y :: .int x :: st) := fun H locs ls hH hS hL => lv_icmp_eq X.1 X.2.1 hd ht (fun h => kt h H locs ls hH hS hL) (fun h => kf h H locs ls hH hS hL)
theorem j_if_ne (X : j_X p s m args c cc nL own Ts D ty cl nw) {x : Int32} {off : Int} (tgt : Nat) (hd : decode cc pc = .ok (.ifCond .ne off, 3)) (ht : (pc : Int) + off = (tgt : Int)) (kt : ¬ x = 0 → J p l e R s m args below meth c D ty cl b0 Q nL M n cells slots tgt L st) (kf : x = 0 → J p l e R s m args below meth c D ty cl b0 Q nL M n cells slots (pc + 3) L st) : J p l e R s m args below meth c D ty cl b0 Q nL M n cells slots pc L (.int x :: st) := fun H locs ls hH hS hL => lv_if_ne X.1 X.2.1 hd ht (fun h => kt h H locs ls hH hS hL) (fun h => kf h H locs ls hH hS hL)
theorem j_icmp_ne (X : j_X p s m args c cc nL own Ts D ty cl nw) {x y : Int32} {off : Int} (tgt : Nat) (hd : decode cc pc = .ok (.if_icmp .ne off, 3)) (ht : (pc : Int) + off = (tgt : Int)) (kt : ¬ x = y → J p l e R s m args below meth c D ty cl b0 Q nL M n cells slots tgt L st) (kf : x = y → J p l e R s m args below meth c D ty cl b0 Q nL M n cells slots (pc + 3) L st) : J p l e R s m args below meth c D ty cl b0 Q nL M n cells slots pc L (.int y :: .int x :: st) := fun H locs ls hH hS hL => lv_icmp_ne X.1 X.2.1 hd ht (fun h => kt h H locs ls hH hS hL) (fun h => kf h H locs ls hH hS hL)
theorem j_if_lt (X : j_X p s m args c cc nL own Ts D ty cl nw) {x : Int32} {off : Int} (tgt : Nat) (hd : decode cc pc = .ok (.ifCond .lt off, 3)) (ht : (pc : Int) + off = (tgt : Int)) (kt : x < 0 → J p l e R s m args below meth c D ty cl b0 Q nL M n cells slots tgt L st) (kf : ¬ (x < 0) → J p l e R s m args below meth c D ty cl b0 Q nL M n cells slots (pc + 3) L st) : J p l e R s m args below meth c D ty cl b0 Q nL M n cells slots pc L (.int x :: st) := fun H locs ls hH hS hL => lv_if_lt X.1 X.2.1 hd ht (fun h => kt h H locs ls hH hS hL) (fun h => kf h H locs ls hH hS hL)
theorem j_icmp_lt (X : j_X p s m args c cc nL own Ts D ty cl nw) {x y : Int32} {off : Int} (tgt : Nat) (hd : decode cc pc = .ok (.if_icmp .lt off, 3)) (ht : (pc : Int) + off = (tgt : Int)) (kt : x < y → J p l e R s m args below meth c D ty cl b0 Q nL M n cells slots tgt L st) (kf : ¬ (x < y) → J p l e R s m args below meth c D ty cl b0 Q nL M n cells slots (pc + 3) L st) : J p l e R s m args below meth c D ty cl b0 Q nL M n cells slots pc L (.int y :: .int x :: st) := fun H locs ls hH hS hL => lv_icmp_lt X.1 X.2.1 hd ht (fun h => kt h H locs ls hH hS hL) (fun h => kf h H locs ls hH hS hL)
theorem j_if_ge (X : j_X p s m args c cc nL own Ts D ty cl nw) {x : Int32} {off : Int} (tgt : Nat) (hd : decode cc pc = .ok (.ifCond .ge off, 3)) (ht : (pc : Int) + off = (tgt : Int)) (kt : 0 ≤ x → J p l e R s m args below meth c D ty cl b0 Q nL M n cells slots tgt L st) (kf : ¬ (0 ≤ x) → J p l e R s m args below meth c D ty cl b0 Q nL M n cells slots (pc + 3) L st) : J p l e R s m args below meth c D ty cl b0 Q nL M n cells slots pc L (.int x :: st) := fun H locs ls hH hS hL => lv_if_ge X.1 X.2.1 hd ht (fun h => kt h H locs ls hH hS hL) (fun h => kf h H locs ls hH hS hL)
theorem j_icmp_ge (X : j_X p s m args c cc nL own Ts D ty cl nw) {x y : Int32} {off : Int} (tgt : Nat) (hd : decode cc pc = .ok (.if_icmp .ge off, 3)) (ht : (pc : Int) + off = (tgt : Int)) (kt : y ≤ x → J p l e R s m args below meth c D ty cl b0 Q nL M n cells slots tgt L st) (kf : ¬ (y ≤ x) → J p l e R s m args below meth c D ty cl b0 Q nL M n cells slots (pc + 3) L st) : J p l e R s m args below meth c D ty cl b0 Q nL M n cells slots pc L (.int y :: .int x :: st) := fun H locs ls hH hS hL => lv_icmp_ge X.1 X.2.1 hd ht (fun h => kt h H locs ls hH hS hL) (fun h => kf h H locs ls hH hS hL)
theorem j_if_gt (X : j_X p s m args c cc nL own Ts D ty cl nw) {x : Int32} {off : Int} (tgt : Nat) (hd : decode cc pc = .ok (.ifCond .gt off, 3)) (ht : (pc : Int) + off = (tgt : Int)) (kt : 0 < x → J p l e R s m args below meth c D ty cl b0 Q nL M n cells slots tgt L st) (kf : ¬ (0 < x) → J p l e R s m args below meth c D ty cl b0 Q nL M n cells slots (pc + 3) L st) : J p l e R s m args below meth c D ty cl b0 Q nL M n cells slots pc L (.int x :: st) := fun H locs ls hH hS hL => lv_if_gt X.1 X.2.1 hd ht (fun h => kt h H locs ls hH hS hL) (fun h => kf h H locs ls hH hS hL)
theorem j_icmp_gt (X : j_X p s m args c cc nL own Ts D ty cl nw) {x y : Int32} {off : Int} (tgt : Nat) (hd : decode cc pc = .ok (.if_icmp .gt off, 3)) (ht : (pc : Int) + off = (tgt : Int)) (kt : y < x → J p l e R s m args below meth c D ty cl b0 Q nL M n cells slots tgt L st) (kf : ¬ (y < x) → J p l e R s m args below meth c D ty cl b0 Q nL M n cells slots (pc + 3) L st) : J p l e R s m args below meth c D ty cl b0 Q nL M n cells slots pc L (.int y :: .int x :: st) := fun H locs ls hH hS hL => lv_icmp_gt X.1 X.2.1 hd ht (fun h => kt h H locs ls hH hS hL) (fun h => kf h H locs ls hH hS hL)
theorem j_if_le (X : j_X p s m args c cc nL own Ts D ty cl nw) {x : Int32} {off : Int} (tgt : Nat) (hd : decode cc pc = .ok (.ifCond .le off, 3)) (ht : (pc : Int) + off = (tgt : Int)) (kt : x ≤ 0 → J p l e R s m args below meth c D ty cl b0 Q nL M n cells slots tgt L st) (kf : ¬ (x ≤ 0) → J p l e R s m args below meth c D ty cl b0 Q nL M n cells slots (pc + 3) L st) : J p l e R s m args below meth c D ty cl b0 Q nL M n cells slots pc L (.int x :: st) := fun H locs ls hH hS hL => lv_if_le X.1 X.2.1 hd ht (fun h => kt h H locs ls hH hS hL) (fun h => kf h H locs ls hH hS hL)
theorem j_icmp_le (X : j_X p s m args c cc nL own Ts D ty cl nw) {x y : Int32} {off : Int} (tgt : Nat) (hd : decode cc pc = .ok (.if_icmp .le off, 3)) (ht : (pc : Int) + off = (tgt : Int)) (kt : x ≤ y → J p l e R s m args below meth c D ty cl b0 Q nL M n cells slots tgt L st) (kf : ¬ (x ≤ y) → J p l e R s m args below meth c D ty cl b0 Q nL M n cells slots (pc + 3) L st) : J p l e R s m args below meth c D ty cl b0 Q nL M n cells slots pc L (.int y :: .int x :: st) := fun H locs ls hH hS hL => lv_icmp_le X.1 X.2.1 hd ht (fun h => kt h H locs ls hH hS hL) (fun h => kf h H locs ls hH hS hL)
theorem j_ifnull (X : j_X p s m args c cc nL own Ts D ty cl nw) {r : Option Nat} {off : Int} (tgt : Nat) (hd : decode cc pc = .ok (.ifnull off, 3)) (ht : (pc : Int) + off = (tgt : Int)) (kt : r = none → J p l e R s m args below meth c D ty cl b0 Q nL M n cells slots tgt L st) (kf : ∀ a, r = some a → J p l e R s m args below meth c D ty cl b0 Q nL M n cells slots (pc + 3) L st) : J p l e R s m args below meth c D ty cl b0 Q nL M n cells slots pc L (va_rf r :: st) := by
  intro H locs ls hH hS hL
  cases r with
  | none => exact lv_ifnullN X.1 X.2.1 hd ht (kt rfl H locs ls hH hS hL)
  | some a => exact lv_ifnull X.1 X.2.1 hd (kf a rfl H locs ls hH hS hL)
theorem j_ifnonnull (X : j_X p s m args c cc nL own Ts D ty cl nw) {r : Option Nat} {off : Int} (tgt : Nat) (hd : decode cc pc = .ok (.ifnonnull off, 3)) (ht : (pc : Int) + off = (tgt : Int)) (kt : ∀ a, r = some a → J p l e R s m args below meth c D ty cl b0 Q nL M n cells slots tgt L st) (kf : r = none → J p l e R s m args below meth c D ty cl b0 Q nL M n cells slots (pc + 3) L st) : J p l e R s m args below meth c D ty cl b0 Q nL M n cells slots pc L (va_rf r :: st) := by
  intro H locs ls hH hS hL
  cases r with
  | none => exact lv_ifnonnullN X.1 X.2.1 hd (kf rfl H locs ls hH hS hL)
  | some a => exact lv_ifnonnull X.1 X.2.1 hd ht (kt a rfl H locs ls hH hS hL)
theorem j_lconst (X : j_X p s m args c cc nL own Ts D ty cl nw) {q : Fin 2} {v : Int64} (hd : decode cc pc = .ok (.lconst q, 1)) (hv : Int64.ofNat (q : Nat) = v) (k : J p l e R s m args below meth c D ty cl b0 Q nL M n cells slots (pc + 1) L (.long v :: st)) : J p l e R s m args below meth c D ty cl b0 Q nL M n cells slots pc L (st) := fun H locs ls hH hS hL => lv_lconst X.1 X.2.1 hd hv (k H locs ls hH hS hL)
theorem j_ldc2 (X : j_X p s m args c cc nL own Ts D ty cl nw) {index : Nat} {v : Int64} (hd : decode cc pc = .ok (.ldc2_w index, 3)) (hc : Cond.constantLong own index v ∈ Ts) (k : J p l e R s m args below meth c D ty cl b0 Q nL M n cells slots (pc + 3) L (.long v :: st)) : J p l e R s m args below meth c D ty cl b0 Q nL M n cells slots pc L (st) := fun H locs ls hH hS hL => lv_ldc2 X.1 X.2.1 X.2.2.2.1 (X.2.2.2.2.1 _ hc) hd (k H locs ls hH hS hL)
theorem j_lload_n (X : j_X p s m args c cc nL own Ts D ty cl nw) {q : Fin 4} (i : Nat) {x : Int64} (hd : decode cc pc = .ok (.lload_n q, 1)) (hi : (q : Nat) = i) (hl : L[i]? = some (some (.long x))) (k : J p l e R s m args below meth c D ty cl b0 Q nL M n cells slots (pc + 1) L (.long x :: st)) : J p l e R s m args below meth c D ty cl b0 Q nL M n cells slots pc L (st) := fun H locs ls hH hS hL => lv_lload_n X.1 X.2.1 hd hi (hL.2.2 _ _ hl) (k H locs ls hH hS hL)
theorem j_lload (X : j_X p s m args c cc nL own Ts D ty cl nw) {i : Nat} {x : Int64} (hd : decode cc pc = .ok (.lload i, 2)) (hl : L[i]? = some (some (.long x))) (k : J p l e R s m args below meth c D ty cl b0 Q nL M n cells slots (pc + 2) L (.long x :: st)) : J p l e R s m args below meth c D ty cl b0 Q nL M n cells slots pc L (st) := fun H locs ls hH hS hL => lv_lload X.1 X.2.1 hd (hL.2.2 _ _ hl) (k H locs ls hH hS hL)
theorem j_lstore_n (X : j_X p s m args c cc nL own Ts D ty cl nw) {q : Fin 4} (i : Nat) {x : Int64} (hd : decode cc pc = .ok (.lstore_n q, 1)) (hi : (q : Nat) = i) (hn : i + 1 < nL) (hc : j_c2 L i = true) (hl : (L.set i (some (.long x))).set (i + 1) none = L') (k : J p l e R s m args below meth c D ty cl b0 Q nL M n cells slots (pc + 1) L' st) : J p l e R s m args below meth c D ty cl b0 Q nL M n cells slots pc L (.long x :: st) := fun H locs ls hH hS hL => lv_lstore_n X.1 X.2.1 hd hi hL.has hn rfl (fun ls' h' => k H locs ls' hH hS (hl ▸ j_L.store2 hc h'))
theorem j_lstore (X : j_X p s m args c cc nL own Ts D ty cl nw) {i : Nat} {x : Int64} (hd : decode cc pc = .ok (.lstore i, 2)) (hn : i + 1 < nL) (hc : j_c2 L i = true) (hl : (L.set i (some (.long x))).set (i + 1) none = L') (k : J p l e R s m args below meth c D ty cl b0 Q nL M n cells slots (pc + 2) L' st) : J p l e R s m args below meth c D ty cl b0 Q nL M n cells slots pc L (.long x :: st) := fun H locs ls hH hS hL => lv_lstore X.1 X.2.1 hd hL.has hn rfl (fun ls' h' => k H locs ls' hH hS (hl ▸ j_L.store2 hc h'))
theorem j_ladd (X : j_X p s m args c cc nL own Ts D ty cl nw) {x y : Int64} (hd : decode cc pc = .ok (.ladd, 1)) (k : J p l e R s m args below meth c D ty cl b0 Q nL M n cells slots (pc + 1) L (.long (x + y) :: st)) : J p l e R s m args below meth c D ty cl b0 Q nL M n cells slots pc L (.long y :: .long x :: st) := fun H locs ls hH hS hL => lv_ladd X.1 X.2.1 hd (k H locs ls hH hS hL)
theorem j_lsub (X : j_X p s m args c cc nL own Ts D ty cl nw) {x y : Int64} (hd : decode cc pc = .ok (.lsub, 1)) (k : J p l e R s m args below meth c D ty cl b0 Q nL M n cells slots (pc + 1) L (.long (x - y) :: st)) : J p l e R s m args below meth c D ty cl b0 Q nL M n cells slots pc L (.long y :: .long x :: st) := fun H locs ls hH hS hL => lv_lsub X.1 X.2.1 hd (k H locs ls hH hS hL)
theorem j_lmul (X : j_X p s m args c cc nL own Ts D ty cl nw) {x y : Int64} (hd : decode cc pc = .ok (.lmul, 1)) (k : J p l e R s m args below meth c D ty cl b0 Q nL M n cells slots (pc + 1) L (.long (x * y) :: st)) : J p l e R s m args below meth c D ty cl b0 Q nL M n cells slots pc L (.long y :: .long x :: st) := fun H locs ls hH hS hL => lv_lmul X.1 X.2.1 hd (k H locs ls hH hS hL)
theorem j_lneg (X : j_X p s m args c cc nL own Ts D ty cl nw) {x : Int64} (hd : decode cc pc = .ok (.lneg, 1)) (k : J p l e R s m args below meth c D ty cl b0 Q nL M n cells slots (pc + 1) L (.long (-x) :: st)) : J p l e R s m args below meth c D ty cl b0 Q nL M n cells slots pc L (.long x :: st) := fun H locs ls hH hS hL => lv_lneg X.1 X.2.1 hd (k H locs ls hH hS hL)
theorem j_lrem (X : j_X p s m args c cc nL own Ts D ty cl nw) {x y : Int64} (hd : decode cc pc = .ok (.lrem, 1)) (hne : ¬ y = 0) (k : J p l e R s m args below meth c D ty cl b0 Q nL M n cells slots (pc + 1) L (.long (x - x / y * y) :: st)) : J p l e R s m args below meth c D ty cl b0 Q nL M n cells slots pc L (.long y :: .long x :: st) := fun H locs ls hH hS hL => lv_lrem X.1 X.2.1 hd hne (k H locs ls hH hS hL)
theorem j_i2l (X : j_X p s m args c cc nL own Ts D ty cl nw) {x : Int32} (hd : decode cc pc = .ok (.i2l, 1)) (k : J p l e R s m args below meth c D ty cl b0 Q nL M n cells slots (pc + 1) L (.long x.toInt64 :: st)) : J p l e R s m args below meth c D ty cl b0 Q nL M n cells slots pc L (.int x :: st) := fun H locs ls hH hS hL => lv_i2l X.1 X.2.1 hd rfl (k H locs ls hH hS hL)
theorem j_l2i (X : j_X p s m args c cc nL own Ts D ty cl nw) {x : Int64} (hd : decode cc pc = .ok (.l2i, 1)) (k : J p l e R s m args below meth c D ty cl b0 Q nL M n cells slots (pc + 1) L (.int x.toInt32 :: st)) : J p l e R s m args below meth c D ty cl b0 Q nL M n cells slots pc L (.long x :: st) := fun H locs ls hH hS hL => lv_l2i X.1 X.2.1 hd rfl (k H locs ls hH hS hL)
theorem j_lc_eq (X : j_X p s m args c cc nL own Ts D ty cl nw) {x y : Int64} {off : Int} (tgt : Nat) (hd : decode cc pc = .ok (.lcmp, 1)) (hd2 : decode cc (pc + 1) = .ok (.ifCond .eq off, 3)) (ht : ((pc + 1 : Nat) : Int) + off = (tgt : Int)) (kt : x = y → J p l e R s m args below meth c D ty cl b0 Q nL M n cells slots tgt L st) (kf : ¬ (x = y) → J p l e R s m args below meth c D ty cl b0 Q nL M n cells slots (pc + 1 + 3) L st) : J p l e R s m args below meth c D ty cl b0 Q nL M n cells slots pc L (.long y :: .long x :: st) := fun H locs ls hH hS hL => W.lcmp X.1 X.2.1 hd (lv_if_eq X.1 X.2.1 hd2 ht (fun h => kt (j_cm_eq.mp h) H locs ls hH hS hL) (fun h => kf (fun h' => h (j_cm_eq.mpr h')) H locs ls hH hS hL))
theorem j_lc_ne (X : j_X p s m args c cc nL own Ts D ty cl nw) {x y : Int64} {off : Int} (tgt : Nat) (hd : decode cc pc = .ok (.lcmp, 1)) (hd2 : decode cc (pc + 1) = .ok (.ifCond .ne off, 3)) (ht : ((pc + 1 : Nat) : Int) + off = (tgt : Int)) (kt : ¬ x = y → J p l e R s m args below meth c D ty cl b0 Q nL M n cells slots tgt L st) (kf : x = y → J p l e R s m args below meth c D ty cl b0 Q nL M n cells slots (pc + 1 + 3) L st) : J p l e R s m args below meth c D ty cl b0 Q nL M n cells slots pc L (.long y :: .long x :: st) := fun H locs ls hH hS hL => W.lcmp X.1 X.2.1 hd (lv_if_ne X.1 X.2.1 hd2 ht (fun h => kt (j_cm_ne.mp h) H locs ls hH hS hL) (fun h => kf (j_cm_eq.mp h) H locs ls hH hS hL))
theorem j_lc_lt (X : j_X p s m args c cc nL own Ts D ty cl nw) {x y : Int64} {off : Int} (tgt : Nat) (hd : decode cc pc = .ok (.lcmp, 1)) (hd2 : decode cc (pc + 1) = .ok (.ifCond .lt off, 3)) (ht : ((pc + 1 : Nat) : Int) + off = (tgt : Int)) (kt : x < y → J p l e R s m args below meth c D ty cl b0 Q nL M n cells slots tgt L st) (kf : ¬ (x < y) → J p l e R s m args below meth c D ty cl b0 Q nL M n cells slots (pc + 1 + 3) L st) : J p l e R s m args below meth c D ty cl b0 Q nL M n cells slots pc L (.long y :: .long x :: st) := fun H locs ls hH hS hL => W.lcmp X.1 X.2.1 hd (lv_if_lt X.1 X.2.1 hd2 ht (fun h => kt (j_cm_lt.mp h) H locs ls hH hS hL) (fun h => kf (fun h' => h (j_cm_lt.mpr h')) H locs ls hH hS hL))
theorem j_lc_ge (X : j_X p s m args c cc nL own Ts D ty cl nw) {x y : Int64} {off : Int} (tgt : Nat) (hd : decode cc pc = .ok (.lcmp, 1)) (hd2 : decode cc (pc + 1) = .ok (.ifCond .ge off, 3)) (ht : ((pc + 1 : Nat) : Int) + off = (tgt : Int)) (kt : y ≤ x → J p l e R s m args below meth c D ty cl b0 Q nL M n cells slots tgt L st) (kf : ¬ (y ≤ x) → J p l e R s m args below meth c D ty cl b0 Q nL M n cells slots (pc + 1 + 3) L st) : J p l e R s m args below meth c D ty cl b0 Q nL M n cells slots pc L (.long y :: .long x :: st) := fun H locs ls hH hS hL => W.lcmp X.1 X.2.1 hd (lv_if_ge X.1 X.2.1 hd2 ht (fun h => kt (j_cm_ge.mp h) H locs ls hH hS hL) (fun h => kf (fun h' => h (j_cm_ge.mpr h')) H locs ls hH hS hL))
theorem j_lc_gt (X : j_X p s m args c cc nL own Ts D ty cl nw) {x y : Int64} {off : Int} (tgt : Nat) (hd : decode cc pc = .ok (.lcmp, 1)) (hd2 : decode cc (pc + 1) = .ok (.ifCond .gt off, 3)) (ht : ((pc + 1 : Nat) : Int) + off = (tgt : Int)) (kt : y < x → J p l e R s m args below meth c D ty cl b0 Q nL M n cells slots tgt L st) (kf : ¬ (y < x) → J p l e R s m args below meth c D ty cl b0 Q nL M n cells slots (pc + 1 + 3) L st) : J p l e R s m args below meth c D ty cl b0 Q nL M n cells slots pc L (.long y :: .long x :: st) := fun H locs ls hH hS hL => W.lcmp X.1 X.2.1 hd (lv_if_gt X.1 X.2.1 hd2 ht (fun h => kt (j_cm_gt.mp h) H locs ls hH hS hL) (fun h => kf (fun h' => h (j_cm_gt.mpr h')) H locs ls hH hS hL))
theorem j_lc_le (X : j_X p s m args c cc nL own Ts D ty cl nw) {x y : Int64} {off : Int} (tgt : Nat) (hd : decode cc pc = .ok (.lcmp, 1)) (hd2 : decode cc (pc + 1) = .ok (.ifCond .le off, 3)) (ht : ((pc + 1 : Nat) : Int) + off = (tgt : Int)) (kt : x ≤ y → J p l e R s m args below meth c D ty cl b0 Q nL M n cells slots tgt L st) (kf : ¬ (x ≤ y) → J p l e R s m args below meth c D ty cl b0 Q nL M n cells slots (pc + 1 + 3) L st) : J p l e R s m args below meth c D ty cl b0 Q nL M n cells slots pc L (.long y :: .long x :: st) := fun H locs ls hH hS hL => W.lcmp X.1 X.2.1 hd (lv_if_le X.1 X.2.1 hd2 ht (fun h => kt (j_cm_le.mp h) H locs ls hH hS hL) (fun h => kf (fun h' => h (j_cm_le.mpr h')) H locs ls hH hS hL))
theorem j_ifnullN (X : j_X p s m args c cc nL own Ts D ty cl nw) {off : Int} (tgt : Nat) (hd : decode cc pc = .ok (.ifnull off, 3)) (ht : (pc : Int) + off = (tgt : Int)) (k : J p l e R s m args below meth c D ty cl b0 Q nL M n cells slots tgt L st) : J p l e R s m args below meth c D ty cl b0 Q nL M n cells slots pc L (.null :: st) := fun H locs ls hH hS hL => lv_ifnullN X.1 X.2.1 hd ht (k H locs ls hH hS hL)
theorem j_ifnullR (X : j_X p s m args c cc nL own Ts D ty cl nw) {off : Int} {a : Nat} (hd : decode cc pc = .ok (.ifnull off, 3)) (k : J p l e R s m args below meth c D ty cl b0 Q nL M n cells slots (pc + 3) L st) : J p l e R s m args below meth c D ty cl b0 Q nL M n cells slots pc L (.ref a :: st) := fun H locs ls hH hS hL => lv_ifnull X.1 X.2.1 hd (k H locs ls hH hS hL)
theorem j_ifnonnullN (X : j_X p s m args c cc nL own Ts D ty cl nw) {off : Int} (hd : decode cc pc = .ok (.ifnonnull off, 3)) (k : J p l e R s m args below meth c D ty cl b0 Q nL M n cells slots (pc + 3) L st) : J p l e R s m args below meth c D ty cl b0 Q nL M n cells slots pc L (.null :: st) := fun H locs ls hH hS hL => lv_ifnonnullN X.1 X.2.1 hd (k H locs ls hH hS hL)
theorem j_ifnonnullR (X : j_X p s m args c cc nL own Ts D ty cl nw) {off : Int} {a : Nat} (tgt : Nat) (hd : decode cc pc = .ok (.ifnonnull off, 3)) (ht : (pc : Int) + off = (tgt : Int)) (k : J p l e R s m args below meth c D ty cl b0 Q nL M n cells slots tgt L st) : J p l e R s m args below meth c D ty cl b0 Q nL M n cells slots pc L (.ref a :: st) := fun H locs ls hH hS hL => lv_ifnonnull X.1 X.2.1 hd ht (k H locs ls hH hS hL)
theorem j_aload_nQ (X : j_X p s m args c cc nL own Ts D ty cl nw) {q : Fin 4} (i : Nat) {r : Option Nat} (hd : decode cc pc = .ok (.aload_n q, 1)) (hi : (q : Nat) = i) (hl : L[i]? = some (some (va_rf r))) (k : J p l e R s m args below meth c D ty cl b0 Q nL M n cells slots (pc + 1) L (va_rf r :: st)) : J p l e R s m args below meth c D ty cl b0 Q nL M n cells slots pc L st := by
  cases r with
  | none => exact j_aload_nN X i hd hi hl k
  | some a => exact j_aload_n X i hd hi hl k
theorem j_aloadQ (X : j_X p s m args c cc nL own Ts D ty cl nw) {i : Nat} {r : Option Nat} (hd : decode cc pc = .ok (.aload i, 2)) (hl : L[i]? = some (some (va_rf r))) (k : J p l e R s m args below meth c D ty cl b0 Q nL M n cells slots (pc + 2) L (va_rf r :: st)) : J p l e R s m args below meth c D ty cl b0 Q nL M n cells slots pc L st := by
  cases r with
  | none => exact j_aloadN X hd hl k
  | some a => exact j_aload X hd hl k
theorem j_astore_nQ (X : j_X p s m args c cc nL own Ts D ty cl nw) {q : Fin 4} (i : Nat) {r : Option Nat} (hd : decode cc pc = .ok (.astore_n q, 1)) (hi : (q : Nat) = i) (hn : i < nL) (hc : j_c2 L i = true) (hl : L.set i (some (va_rf r)) = L') (k : J p l e R s m args below meth c D ty cl b0 Q nL M n cells slots (pc + 1) L' st) : J p l e R s m args below meth c D ty cl b0 Q nL M n cells slots pc L (va_rf r :: st) := by
  cases r with
  | none => exact j_astore_nN X i hd hi hn hc hl k
  | some a => exact j_astore_n X i hd hi hn hc hl k
theorem j_astoreQ (X : j_X p s m args c cc nL own Ts D ty cl nw) {i : Nat} {r : Option Nat} (hd : decode cc pc = .ok (.astore i, 2)) (hn : i < nL) (hc : j_c2 L i = true) (hl : L.set i (some (va_rf r)) = L') (k : J p l e R s m args below meth c D ty cl b0 Q nL M n cells slots (pc + 2) L' st) : J p l e R s m args below meth c D ty cl b0 Q nL M n cells slots pc L (va_rf r :: st) := by
  cases r with
  | none => exact j_astoreN X hd hn hc hl k
  | some a => exact j_astore X hd hn hc hl k
theorem j_st {st0 : List Value} (h : st0 = st) (k : J p l e R s m args below meth c D ty cl b0 Q nL M n cells slots pc L st) : J p l e R s m args below meth c D ty cl b0 Q nL M n cells slots pc L st0 := h ▸ k
theorem j_ls {L0 : List (Option Value)} (h : L0 = L) (k : J p l e R s m args below meth c D ty cl b0 Q nL M n cells slots pc L st) : J p l e R s m args below meth c D ty cl b0 Q nL M n cells slots pc L0 st := h ▸ k
theorem j_lookup (X : j_X p s m args c cc nL own Ts D ty cl nw) {dflt : Int} {ps : Array (Int × Int)} {len : Nat} {x : Int32} {off : Int} (tgt : Nat) (hd : decode cc pc = .ok (.lookupswitch dflt ps, len)) (hp : (ps.toList.zip (ps.toList.drop 1)).all (fun (a, next) => a.1 < next.1) = true) (ho : Op.lookupswitch.offset ps.toList dflt x.toInt = off) (ht : (pc : Int) + off = (tgt : Int)) (k : J p l e R s m args below meth c D ty cl b0 Q nL M n cells slots tgt L st) : J p l e R s m args below meth c D ty cl b0 Q nL M n cells slots pc L (.int x :: st) := fun H locs ls hH hS hL => lv_lookup X.1 X.2.1 hd hp ho ht (k H locs ls hH hS hL)
theorem j_tableOut (X : j_X p s m args c cc nL own Ts D ty cl nw) {dflt lo hi : Int} {offs : Array Int} {len : Nat} {x : Int32} (tgt : Nat) (hd : decode cc pc = .ok (.tableswitch dflt lo hi offs, len)) (h : x.toInt < lo ∨ hi < x.toInt) (ht : (pc : Int) + dflt = (tgt : Int)) (k : J p l e R s m args below meth c D ty cl b0 Q nL M n cells slots tgt L st) : J p l e R s m args below meth c D ty cl b0 Q nL M n cells slots pc L (.int x :: st) := fun H locs ls hH hS hL => lv_tableOut X.1 X.2.1 hd h ht (k H locs ls hH hS hL)
theorem j_tableIn (X : j_X p s m args c cc nL own Ts D ty cl nw) {dflt lo hi : Int} {offs : Array Int} {len : Nat} {x : Int32} {off : Int} (tgt : Nat) (hd : decode cc pc = .ok (.tableswitch dflt lo hi offs, len)) (h1 : ¬ x.toInt < lo) (h2 : ¬ hi < x.toInt) (ho : offs[(x.toInt - lo).toNat]? = some off) (ht : (pc : Int) + off = (tgt : Int)) (k : J p l e R s m args below meth c D ty cl b0 Q nL M n cells slots tgt L st) : J p l e R s m args below meth c D ty cl b0 Q nL M n cells slots pc L (.int x :: st) := fun H locs ls hH hS hL => lv_tableIn X.1 X.2.1 hd h1 h2 ho ht (k H locs ls hH hS hL)
end JR
end
section
/-! Rows of J for the heap, returns and calls; a contract out of a walk. -/
theorem j_in_set {M : jM} {ty : jT} {A : Nat → Prop} {ws : va_W} {a q0 : Nat} {e0 : va_E} {e : jE} (hD : va_D A ws) (h : ∀ (x : Nat) (y : jE), M x = some y → ∃ k : Nat, ws[k]? = some (x, j_e ty y)) (hq : ws[q0]? = some (a, e0)) :
    ∀ (x : Nat) (y : jE), j_up M a e x = some y → ∃ k : Nat, (ws.set q0 (a, j_e ty e))[k]? = some (x, j_e ty y) := by
  intro x y hx
  have hl := (List.getElem?_eq_some_iff.mp hq).1
  by_cases hxa : x = a
  · subst hxa
    rw [j_up_self] at hx
    cases hx
    exact ⟨q0, List.getElem?_set_self hl⟩
  · rw [j_up_ne M e hxa] at hx
    obtain ⟨k, hk⟩ := h x y hx
    refine ⟨k, ?_⟩
    rw [List.getElem?_set_ne (fun q => hxa ?_)]
    · exact hk
    · subst q
      rw [hk] at hq
      cases hq
      rfl
theorem j_in_app {M : jM} {ty : jT} {ws : va_W} {a : Nat} {e : jE} (h : ∀ (x : Nat) (y : jE), M x = some y → ∃ k : Nat, ws[k]? = some (x, j_e ty y)) :
    ∀ (x : Nat) (y : jE), j_up M a e x = some y → ∃ k : Nat, (ws ++ [(a, j_e ty e)])[k]? = some (x, j_e ty y) := by
  intro x y hx
  by_cases hxa : x = a
  · subst hxa
    rw [j_up_self] at hx
    cases hx
    exact ⟨ws.length, by simp⟩
  · rw [j_up_ne M e hxa] at hx
    obtain ⟨k, hk⟩ := h x y hx
    exact ⟨k, by rw [List.getElem?_append_left (List.getElem?_eq_some_iff.mp hk).1]; exact hk⟩
theorem j_H.lt {D : va_G} {ty : jT} {cl : List vw_C} {b0 : Nat} {M : jM} {n : Nat} {H : Heap} (h : j_H D ty cl b0 M n H) {a : Nat} {e : jE} (ha : M a = some e) : b0 ≤ a ∧ a < n := by
  obtain ⟨h1, h2, ws, hP, hD, hM⟩ := h
  obtain ⟨k, hk⟩ := hM a e ha
  exact ⟨hD.2 k _ hk, h1 ▸ (hP k _ hk).lt⟩
theorem j_e_arr {ty : jT} {t : Nat} {cA : ClassId} {fty : FieldType} {x : vp_A} (h : ty[t]? = some (cA, fty)) : j_e ty (.inl (t, x)) = .inl (cA, x) := by
  simp [j_e, h]
section JH
variable {p : Program} {l : Launch} {e : Env} {R : Room} {s : State} {m : MethodId} {args : Array Value} {below : List Frame} {meth : Method} {c : Code} {D : va_G} {ty : jT} {cl : List vw_C} {nw : List Cond} {b0 : Nat} {Q : State → Prop} {nL : Nat} {M : jM} {n cells slots pc : Nat} {L L' : List (Option Value)} {st : List Value} {cc : ByteArray} {own : String} {Ts : List Cond}
theorem j_get (X : j_X p s m args c cc nL own Ts D ty cl nw) {a ci N index : Nat} {C : String} {T : u_T} {fs : List Value} {v : Value} (hM : M a = some (.inr (ci, fs))) (hc : cl[ci]? = some (C, T, N)) (hin : ∀ w ∈ u_ws C T N, w ∈ Ts) (k : Nat) (hk : k < N) (hlink : Cond.fieldLink own index (T k).1 (T k).2.1 (T k).2.2.1 ∈ Ts) (hv : fs[k]? = some v) (hd : decode cc pc = .ok (.getfield index, 3))
    (kk : J p l e R s m args below meth c D ty cl b0 Q nL M n cells slots (pc + 3) L (v :: st)) : J p l e R s m args below meth c D ty cl b0 Q nL M n cells slots pc L (.ref a :: st) := by
  intro H locs ls hH hS hL
  obtain ⟨h1, h2, ws, hP, hD, hMw⟩ := id hH
  obtain ⟨q0, hq⟩ := hMw a _ hM
  exact va_get X.1 X.2.1 X.2.2.2.2.1 hin X.2.2.2.1 X.2.2.2.2.2.1 hP q0 hq hc k hk (X.2.2.2.2.1 _ hlink) (fun _ h => h) hv hd (kk H locs ls hH hS hL)
theorem j_getN (X : j_X p s m args c cc nL own Ts D ty cl nw) {a ci N index : Nat} {C host : String} {T : u_T} {fs : List Value} {v : Value} (hM : M a = some (.inr (ci, fs))) (hc : cl[ci]? = some (C, T, N)) (hin : ∀ w ∈ u_ws C T N, w ∈ Ts) (k : Nat) (hk : k < N) (hlink : Cond.fieldLinkNest own index (T k).1 (T k).2.1 (T k).2.2.1 host ∈ nw) (hv : fs[k]? = some v) (hd : decode cc pc = .ok (.getfield index, 3))
    (kk : J p l e R s m args below meth c D ty cl b0 Q nL M n cells slots (pc + 3) L (v :: st)) : J p l e R s m args below meth c D ty cl b0 Q nL M n cells slots pc L (.ref a :: st) := by
  intro H locs ls hH hS hL
  obtain ⟨h1, h2, ws, hP, hD, hMw⟩ := id hH
  obtain ⟨q0, hq⟩ := hMw a _ hM
  exact va_getN X.1 X.2.1 X.2.2.2.2.1 hin X.2.2.2.1 X.2.2.2.2.2.1 hP q0 hq hc k hk (va_Nw.use rfl (X.2.2.2.2.2.2.1 _ hlink)) (fun _ h => h) hv hd (kk H locs ls hH hS hL)
theorem j_put (X : j_X p s m args c cc nL own Ts D ty cl nw) {a ci N index : Nat} {C : String} {T : u_T} {fs fs' : List Value} {v : Value} (hM : M a = some (.inr (ci, fs))) (hc : cl[ci]? = some (C, T, N)) (hin : ∀ w ∈ u_ws C T N, w ∈ Ts) (ty0 : Nat → FieldType) (hty : ∀ k, k < N → parseFieldDescriptor (T k).2.2.1 = some (ty0 k)) (hnm : ∀ a, a < N → ∀ b, b < N → a ≠ b → (T a).2.1 ≠ (T b).2.1) (k : Nat) (hk : k < N) (hlink : Cond.fieldLink own index (T k).1 (T k).2.1 (T k).2.2.1 ∈ Ts) (hfin : (T k).2.2.2 = false) (hn : narrow (ty0 k) v = v) (hfit : fits (ty0 k) v = true) (hl : k < fs.length) (hfs : fs.set k v = fs') (hd : decode cc pc = .ok (.putfield index, 3))
    (kk : J p l e R s m args below meth c D ty cl b0 Q nL (j_up M a (.inr (ci, fs'))) n cells slots (pc + 3) L st) : J p l e R s m args below meth c D ty cl b0 Q nL M n cells slots pc L (v :: .ref a :: st) := by
  intro H locs ls hH hS hL
  subst hfs
  obtain ⟨h1, h2, ws, hP, hD, hMw⟩ := hH
  obtain ⟨q0, hq⟩ := hMw a _ hM
  have hq : ws[q0]? = some (a, .inr (ci, fs)) := hq
  obtain ⟨hx, hb, -, hown, hts, hK, hN, -⟩ := X
  have hap := va_apart (own := own) hts hin ty0 hty hnm hK hc
  obtain ⟨r, g1, cell, q1, q2, q3, q4⟩ := hP q0 _ hq
  have hr : r = (C, T, N) := Option.some.inj (g1.symm.trans hc)
  subst hr
  obtain ⟨hSl, hfc, kC, hkC, hkind⟩ := hK.1 ci _ hc
  obtain ⟨cf, kf, fi, f, hi, hsl⟩ := hSl k hk
  have hlay := hts _ (hin _ (u_in_lay hk))
  unfold u_lay at hlay
  have hst := (u_facts hfc hkC (u_lays hts hin hk) hi).1
  rw [if_neg (by rw [hfin]; decide)] at hlay
  have h6 := u_store hfc hkC hkind hlay hi (hty k hk) hn hfit
  refine W.putK hx hb (f := f) ⟨hown, hts _ hlink, ⟨_, _, _, hi⟩, hst⟩ (by rw [q2]; exact h6) q1 q3 (by rw [hsl]; exact k2_hasslot (q4 k hk)) rfl rfl hd fun H' e1 e2 e3 => ?_
  rw [hsl] at e1 ⊢
  refine kk H' _ ls ⟨e2.trans h1, h2, _, hP.set hD hq (e := j_e ty (.inr (ci, fs.set k v))) ⟨_, hc, t_OB.to (V := updV (vp_V fs) k v) ⟨_, e1, q2, q3, t_set q4 hap hk v⟩ (fun j _ => vp_updV_set hl v j)⟩ e3, hD.set hq, j_in_set hD hMw hq⟩ (hS.put e2 e3 (hD.2 q0 _ hq)) hL
theorem j_putF (X : j_X p s m args c cc nL own Ts D ty cl nw) {a ci N index : Nat} {C : String} {T : u_T} {fs fs' : List Value} {v : Value} (hM : M a = some (.inr (ci, fs))) (hc : cl[ci]? = some (C, T, N)) (hin : ∀ w ∈ u_ws C T N, w ∈ Ts) (ty0 : Nat → FieldType) (hty : ∀ k, k < N → parseFieldDescriptor (T k).2.2.1 = some (ty0 k)) (hnm : ∀ a, a < N → ∀ b, b < N → a ≠ b → (T a).2.1 ≠ (T b).2.1) (k : Nat) (hk : k < N) (hlink : Cond.fieldLink own index (T k).1 (T k).2.1 (T k).2.2.1 ∈ Ts) (hfin : (T k).2.2.2 = true) (hin2 : meth.name = "<init>") (hdecl : (T k).1 = own) (hn : narrow (ty0 k) v = v) (hfit : fits (ty0 k) v = true) (hl : k < fs.length) (hfs : fs.set k v = fs') (hd : decode cc pc = .ok (.putfield index, 3))
    (kk : J p l e R s m args below meth c D ty cl b0 Q nL (j_up M a (.inr (ci, fs'))) n cells slots (pc + 3) L st) : J p l e R s m args below meth c D ty cl b0 Q nL M n cells slots pc L (v :: .ref a :: st) := by
  intro H locs ls hH hS hL
  subst hfs
  obtain ⟨h1, h2, ws, hP, hD, hMw⟩ := hH
  obtain ⟨q0, hq⟩ := hMw a _ hM
  have hq : ws[q0]? = some (a, .inr (ci, fs)) := hq
  obtain ⟨hx, hb, -, hown, hts, hK, hN, -⟩ := X
  have hap := va_apart (own := own) hts hin ty0 hty hnm hK hc
  obtain ⟨r, g1, cell, q1, q2, q3, q4⟩ := hP q0 _ hq
  have hr : r = (C, T, N) := Option.some.inj (g1.symm.trans hc)
  subst hr
  obtain ⟨hSl, hfc, kC, hkC, hkind⟩ := hK.1 ci _ hc
  obtain ⟨cf, kf, fi, f, hi, hsl⟩ := hSl k hk
  have hlay := hts _ (hin _ (u_in_lay hk))
  unfold u_lay at hlay
  have hst := (u_facts hfc hkC (u_lays hts hin hk) hi).1
  rw [if_pos hfin] at hlay
  have hcf : m.cls = cf := by
    obtain ⟨_, _, c', _, _, _, -, -, hf', -, -, -, hown2, -⟩ := Cond.laysFinal_spec hlay
    have e1 : c' = cf := by have := hi.symm.trans hf'; simp at this; exact this.1.symm
    rw [hdecl] at hown2
    rw [← e1]; exact Option.some.inj (hown.symm.trans hown2)
  have h6 := u_fits hfc hkC hkind (Or.inr hlay) hi (hty k hk) hn hfit
  refine W.putFinK hx hb hown (hts _ hlink) hi hst hcf hin2 (by rw [q2]; exact h6) q1 q3 (by rw [hsl]; exact k2_hasslot (q4 k hk)) rfl rfl hd fun H' e1 e2 e3 => ?_
  rw [hsl] at e1 ⊢
  refine kk H' _ ls ⟨e2.trans h1, h2, _, hP.set hD hq (e := j_e ty (.inr (ci, fs.set k v))) ⟨_, hc, t_OB.to (V := updV (vp_V fs) k v) ⟨_, e1, q2, q3, t_set q4 hap hk v⟩ (fun j _ => vp_updV_set hl v j)⟩ e3, hD.set hq, j_in_set hD hMw hq⟩ (hS.put e2 e3 (hD.2 q0 _ hq)) hL
theorem j_putN (X : j_X p s m args c cc nL own Ts D ty cl nw) {a ci N index : Nat} {C : String} {T : u_T} {fs fs' : List Value} {v : Value} (hM : M a = some (.inr (ci, fs))) (hc : cl[ci]? = some (C, T, N)) (hin : ∀ w ∈ u_ws C T N, w ∈ Ts) (ty0 : Nat → FieldType) (hty : ∀ k, k < N → parseFieldDescriptor (T k).2.2.1 = some (ty0 k)) (hnm : ∀ a, a < N → ∀ b, b < N → a ≠ b → (T a).2.1 ≠ (T b).2.1) (k : Nat) (hk : k < N) {host : String} (hlink : Cond.fieldLinkNest own index (T k).1 (T k).2.1 (T k).2.2.1 host ∈ nw) (hfin : (T k).2.2.2 = false) (hn : narrow (ty0 k) v = v) (hfit : fits (ty0 k) v = true) (hl : k < fs.length) (hfs : fs.set k v = fs') (hd : decode cc pc = .ok (.putfield index, 3))
    (kk : J p l e R s m args below meth c D ty cl b0 Q nL (j_up M a (.inr (ci, fs'))) n cells slots (pc + 3) L st) : J p l e R s m args below meth c D ty cl b0 Q nL M n cells slots pc L (v :: .ref a :: st) := by
  intro H locs ls hH hS hL
  subst hfs
  obtain ⟨h1, h2, ws, hP, hD, hMw⟩ := hH
  obtain ⟨q0, hq⟩ := hMw a _ hM
  have hq : ws[q0]? = some (a, .inr (ci, fs)) := hq
  obtain ⟨hx, hb, -, hown, hts, hK, hN, -⟩ := X
  have hap := va_apart (own := own) hts hin ty0 hty hnm hK hc
  obtain ⟨r, g1, cell, q1, q2, q3, q4⟩ := hP q0 _ hq
  have hr : r = (C, T, N) := Option.some.inj (g1.symm.trans hc)
  subst hr
  obtain ⟨hSl, hfc, kC, hkC, hkind⟩ := hK.1 ci _ hc
  obtain ⟨cf, kf, fi, f, hi, hsl⟩ := hSl k hk
  have hlay := hts _ (hin _ (u_in_lay hk))
  unfold u_lay at hlay
  have hst := (u_facts hfc hkC (u_lays hts hin hk) hi).1
  rw [if_neg (by rw [hfin]; decide)] at hlay
  have h6 := u_store hfc hkC hkind hlay hi (hty k hk) hn hfit
  refine va_WputK hx hb (f := f) hown (va_Nw.use rfl (hN _ hlink)) hi hst (by rw [q2]; exact h6) q1 q3 (by rw [hsl]; exact k2_hasslot (q4 k hk)) rfl rfl hd fun H' e1 e2 e3 => ?_
  rw [hsl] at e1 ⊢
  refine kk H' _ ls ⟨e2.trans h1, h2, _, hP.set hD hq (e := j_e ty (.inr (ci, fs.set k v))) ⟨_, hc, t_OB.to (V := updV (vp_V fs) k v) ⟨_, e1, q2, q3, t_set q4 hap hk v⟩ (fun j _ => vp_updV_set hl v j)⟩ e3, hD.set hq, j_in_set hD hMw hq⟩ (hS.put e2 e3 (hD.2 q0 _ hq)) hL
theorem j_iald (X : j_X p s m args c cc nL own Ts D ty cl nw) {a t N : Nat} {cA : ClassId} {f : Nat → Int32} {i : Int32} {v : Int32} (hM : M a = some (.inl (t, N, .inl f))) (ht : ty[t]? = some (cA, .int)) (hin : vp_in i N) (hv : f i.toNatClampNeg = v) (hd : decode cc pc = .ok (.iaload, 1))
    (kk : J p l e R s m args below meth c D ty cl b0 Q nL M n cells slots (pc + 1) L (.int v :: st)) : J p l e R s m args below meth c D ty cl b0 Q nL M n cells slots pc L (.int i :: .ref a :: st) := by
  intro H locs ls hH hS hL
  subst hv
  obtain ⟨h1, h2, ws, hP, hD, hMw⟩ := id hH
  obtain ⟨q0, hq⟩ := hMw a _ hM
  rw [j_e_arr ht] at hq
  exact va_iald X.1 X.2.1 X.2.2.2.2.2.1 hP q0 t hq ht hin hd (kk H locs ls hH hS hL)
theorem j_iast (X : j_X p s m args c cc nL own Ts D ty cl nw) {a t N : Nat} {cA : ClassId} {f : Nat → Int32} {i x : Int32} (hM : M a = some (.inl (t, N, .inl f))) (ht : ty[t]? = some (cA, .int)) (hin : vp_in i N) (hd : decode cc pc = .ok (.iastore, 1))
    (kk : J p l e R s m args below meth c D ty cl b0 Q nL (j_up M a (.inl (t, N, .inl (upd f i.toNatClampNeg x)))) n cells slots (pc + 1) L st) : J p l e R s m args below meth c D ty cl b0 Q nL M n cells slots pc L (.int x :: .int i :: .ref a :: st) := by
  intro H locs ls hH hS hL
  obtain ⟨h1, h2, ws, hP, hD, hMw⟩ := hH
  obtain ⟨q0, hq⟩ := hMw a _ hM
  rw [j_e_arr ht] at hq
  obtain ⟨hx, hb, -, hown, hts, hK, hN, -⟩ := X
  refine W.iast hx hb (hP q0 _ hq) ((hK.2 t _ ht).1 N (fun j => .int (f j))) (fun q => by cases q) (by show ¬ (i < 0 ∨ (arrV _ _ _).slots.size ≤ _); rw [arrV_size]; exact hin) rfl rfl hd fun H1 e1 z oq => ?_
  refine kk H1 _ ls ⟨z.trans h1, h2, _, hP.set hD hq (e := j_e ty (.inl (t, N, .inl (upd f i.toNatClampNeg x)))) ?_ oq, hD.set hq, j_in_set hD hMw hq⟩ (hS.put z oq (hD.2 q0 _ hq)) hL
  rw [j_e_arr ht]
  show H1[a]? = some (vp_cell _ _)
  rw [e1]
  rw [vp_cell_i, vp_cell_i, arrV_store]
  congr 2
  funext q
  by_cases hq : q = i.toNatClampNeg
  · subst hq
    simp [updV, upd]
  · simp [updV, upd, hq]
theorem j_alen (X : j_X p s m args c cc nL own Ts D ty cl nw) {a t : Nat} {cA : ClassId} {fty : FieldType} {x : vp_A} {v : Int32} (hM : M a = some (.inl (t, x))) (ht : ty[t]? = some (cA, fty)) (hv : Int32.ofNat x.1 = v) (hd : decode cc pc = .ok (.arraylength, 1))
    (kk : J p l e R s m args below meth c D ty cl b0 Q nL M n cells slots (pc + 1) L (.int v :: st)) : J p l e R s m args below meth c D ty cl b0 Q nL M n cells slots pc L (.ref a :: st) := by
  intro H locs ls hH hS hL
  obtain ⟨h1, h2, ws, hP, hD, hMw⟩ := id hH
  obtain ⟨q0, hq⟩ := hMw a _ hM
  rw [j_e_arr ht] at hq
  exact va_alen X.1 X.2.1 X.2.2.2.2.2.1 hP q0 t hq ht hv hd (kk H locs ls hH hS hL)
theorem j_newaI (X : j_X p s m args c cc nL own Ts D ty cl nw) {t N : Nat} {cA : ClassId} {i : Int32} (ht : ty[t]? = some (cA, .int)) (harr : Cond.arrayClass .int ∈ Ts) (hn : ¬ i < 0) (hN : i.toNatClampNeg = N) (hsm : N ≤ 100000000) (hcells : cells + 1 ≤ R.cells) (hslots : slots + N ≤ R.slots) (hd : decode cc pc = .ok (.newarray .int, 2))
    (kk : J p l e R s m args below meth c D ty cl b0 Q nL (j_up M n (.inl (t, N, .inl (fun _ => 0)))) (n + 1) (cells + 1) (slots + N) (pc + 2) L (.ref n :: st)) : J p l e R s m args below meth c D ty cl b0 Q nL M n cells slots pc L (.int i :: st) := by
  intro H locs ls hH hS hL
  obtain ⟨h1, h2, ws, hP, hD, hMw⟩ := hH
  obtain ⟨hx, hb, -, hown, hts, hK, hNw, hA⟩ := X
  subst h1
  refine va_newaK (atype := .int) hx hb (hts _ harr) rfl hd rfl hn hN (by show N * componentBytes .int ≤ 536870912; simp only [componentBytes]; omega) hcells hslots rfl fun H1 cB e1 z1 o1 hAr hNm => ?_
  have hcB : cB = cA := Option.some.inj (hNm.symm.trans (hA t _ ht))
  subst hcB
  have hk : ∀ (k : Nat) (x : Nat × va_E), ws[k]? = some x → H1[x.1]? = H[x.1]? := fun k x hx => o1 x.1 ((hP k x hx).lt)
  refine kk H1 locs ls ⟨z1, by omega, ws ++ [(H.size, j_e ty (.inl (t, N, .inl (fun _ => 0))))], (hP.kept hk).app (fun k x hx => ?_), hD.push hP rfl (by exact h2), j_in_app hMw⟩ ⟨Nat.le_trans hS.1 (by omega), fun x h1 h2 => (o1 x (Nat.lt_of_lt_of_le h1 hS.1)).trans (hS.2.1 x h1 h2), hS.2.2⟩ hL
  have hz : k < 1 := (List.getElem?_eq_some_iff.mp hx).1
  rw [show k = 0 by omega] at hx
  cases hx
  rw [j_e_arr ht]
  show H1[H.size]? = some (vp_cell _ _)
  exact e1
theorem j_new (X : j_X p s m args c cc nL own Ts D ty cl nw) {ci N index : Nat} {C : String} {T : u_T} {fs : List Value} (hc : cl[ci]? = some (C, T, N)) (hin : ∀ w ∈ u_ws C T N, w ∈ Ts) (ty0 : Nat → FieldType) (hty : ∀ k, k < N → parseFieldDescriptor (T k).2.2.1 = some (ty0 k)) (hcl : Cond.classLink own index C ∈ Ts) (hinst : Cond.instantiable C N ∈ Ts) (hini : Cond.initialized C ∈ Ts) (hfs : ∀ j, j < N → defaultValue (ty0 j) = vp_V fs j) (hcells : cells + 1 ≤ R.cells) (hslots : slots + N ≤ R.slots) (hd : decode cc pc = .ok (.new index, 3))
    (kk : J p l e R s m args below meth c D ty cl b0 Q nL (j_up M n (.inr (ci, fs))) (n + 1) (cells + 1) (slots + N) (pc + 3) L (.ref n :: st)) : J p l e R s m args below meth c D ty cl b0 Q nL M n cells slots pc L st := by
  intro H locs ls hH hS hL
  obtain ⟨h1, h2, ws, hP, hD, hMw⟩ := hH
  obtain ⟨hx, hb, -, hown, hts, hK, hNw, hA⟩ := X
  subst h1
  have hKn := hK.1 ci _ hc
  refine W.newcK hx hb hown (hts _ hcl) (hts _ hinst) (hts _ hini) rfl hd hcells hslots hKn.2.1 rfl fun H1 kC hkC e1 z1 o1 => ?_
  have hk : ∀ (k : Nat) (x : Nat × va_E), ws[k]? = some x → H1[x.1]? = H[x.1]? := fun k x hx => o1 x.1 ((hP k x hx).lt)
  refine kk H1 locs ls ⟨z1, by omega, ws ++ [(H.size, j_e ty (.inr (ci, fs)))], (hP.kept hk).app (fun k x hx => ?_), hD.push hP rfl (by exact h2), j_in_app hMw⟩ ⟨Nat.le_trans hS.1 (by omega), fun x h1 h2 => (o1 x (Nat.lt_of_lt_of_le h1 hS.1)).trans (hS.2.1 x h1 h2), hS.2.2⟩ hL
  have hz : k < 1 := (List.getElem?_eq_some_iff.mp hx).1
  rw [show k = 0 by omega] at hx
  cases hx
  exact ⟨_, hc, (u_born ty0 hts hin hKn hkC e1 hty).to hfs⟩
theorem j_objInit (X : j_X p s m args c cc nL own Ts D ty cl nw) {a idx : Nat} (hlink : Cond.methodLink own idx objectInit ∈ Ts) (hinst : Cond.instanceMethod objectInit ∈ Ts) (hcode : Cond.code objectInit ⟨#[0xb1]⟩ 1 none ∈ Ts) (hd : decode cc pc = .ok (.invokespecial idx, 3)) (hfr : 1 ≤ R.frames) (hlo : (st.map fun v => v.category).sum + 12 ≤ R.locals)
    (kk : J p l e R s m args below meth c D ty cl b0 Q nL M n cells slots (pc + 3) L st) : J p l e R s m args below meth c D ty cl b0 Q nL M n cells slots pc L (.ref a :: st) := by
  intro H locs ls hH hS hL
  obtain ⟨hx, hb, hml, hown, hts, hK, hNw, hA⟩ := id X
  refine W.objInit hx hb hown (hts _ hlink) (hts _ hinst) (hts _ hcode) rfl (by rw [hml]; exact hL.1) rfl hd hfr (by show 2 * 0 + _ + 12 ≤ _; omega) ?_
  exact kk H locs ls hH hS hL
end JH
end
section
/-! Returns, a contract out of a walk, calls by contract. -/
def j_a0 (as : List Value) : List (Option Value) := as.flatMap fun v => if v.category = 2 then [some v, none] else [some v]
theorem j_args (as : List Value) : ∀ (i k : Nat) (v : Value), (j_a0 as)[i]? = some (some v) → (k + i, v) ∈ lv_args k as := by
  induction as with
  | nil => intro i k v hv; simp [j_a0] at hv
  | cons a as ih =>
    intro i k v hv
    by_cases h2 : a.category = 2
    · have e : j_a0 (a :: as) = some a :: none :: j_a0 as := by simp [j_a0, h2]
      rw [e] at hv
      match i, hv with
      | 0, hv =>
        simp at hv
        subst hv
        exact List.mem_cons_self
      | 1, hv => simp at hv
      | i + 2, hv =>
        simp only [List.getElem?_cons_succ] at hv
        have := ih i (k + 2) v hv
        refine List.mem_cons_of_mem _ ?_
        rw [if_pos h2]
        rw [show k + (i + 2) = k + 2 + i by omega]
        exact this
    · have e : j_a0 (a :: as) = some a :: j_a0 as := by simp [j_a0, h2]
      rw [e] at hv
      match i, hv with
      | 0, hv =>
        simp at hv
        subst hv
        exact List.mem_cons_self
      | i + 1, hv =>
        simp only [List.getElem?_cons_succ] at hv
        have := ih i (k + 1) v hv
        refine List.mem_cons_of_mem _ ?_
        rw [if_neg h2]
        rw [show k + (i + 1) = k + 1 + i by omega]
        exact this
theorem j_sl (as : List Value) : (lg_sl as).length = (j_a0 as).length := by
  induction as with
  | nil => rfl
  | cons a as ih =>
    by_cases h2 : a.category = 2
    · have e : j_a0 (a :: as) = some a :: none :: j_a0 as := by simp [j_a0, h2]
      have e2 : lg_sl (a :: as) = .val a :: .second :: lg_sl as := by simp [lg_sl, h2]
      rw [e, e2]; simp [ih]
    · have e : j_a0 (a :: as) = some a :: j_a0 as := by simp [j_a0, h2]
      have e2 : lg_sl (a :: as) = .val a :: lg_sl as := by simp [lg_sl, h2]
      rw [e, e2]; simp [ih]
theorem j_L0 {as : List Value} {k : Nat} {L0 : List (Option Value)} (hl : (j_a0 as).length ≤ k) (h0 : j_a0 as ++ List.replicate (k - (j_a0 as).length) none = L0) : j_L ((lg_sl as ++ List.replicate (k - (lg_sl as).length) Slot.unset).toArray) k L0 := by
  have h1 := lv_entry as (n := k) (by rw [j_sl]; exact hl)
  subst h0
  refine ⟨h1.1, h1.2.1, fun i v hi => ?_⟩
  by_cases hlt : i < (j_a0 as).length
  · rw [List.getElem?_append_left hlt] at hi
    have := j_args as i 0 v hi
    rw [Nat.zero_add] at this
    exact h1.2.2 (i, v) this
  · rw [List.getElem?_append_right (Nat.not_lt.mp hlt)] at hi
    have := List.mem_of_getElem? hi
    rw [List.mem_replicate] at this
    exact absurd this.2 (by simp)
section JC
variable {p : Program} {l : Launch} {e : Env} {R : Room} {s : State} {m : MethodId} {args : Array Value} {below : List Frame} {meth : Method} {c : Code} {D : va_G} {ty : jT} {cl : List vw_C} {nw : List Cond} {b0 : Nat} {Q : State → Prop} {nL : Nat} {M : jM} {n cells slots pc : Nat} {L L' : List (Option Value)} {st : List Value} {cc : ByteArray} {own : String} {Ts : List Cond} {Rt : Option Value → jM → Nat → Prop} {mc ms : Nat}
theorem j_end {H : Heap} {locs : List Loc} {r : Option Value} {t : State} (hH : j_H D ty cl b0 M n H) (hS : va_S (fun q => b0 ≤ q) s.heap H locs) (hq : Rt r M n) (ht : t.heap = H) : j_Q D ty cl b0 Rt args s (.returned r) t := ⟨r, M, n, rfl, hq, by rw [ht]; exact hH, hS.F ht⟩
theorem j_iret (X : j_X p s m args c cc nL own Ts D ty cl nw) (hlk : meth.locks = false) (hr : meth.sig.returnType = some .int) (hc : cells ≤ mc) (hs : slots ≤ ms) {v : Int32} (hd : decode cc pc = .ok (.ireturn, 1)) (hq : Rt (some (.int v)) M n) : J p l e R s m args below meth c D ty cl b0 (MQ below (j_Q D ty cl b0 Rt) args s mc ms (fun q => b0 ≤ q)) nL M n cells slots pc L [.int v] := fun _ _ _ hH hS _ => W.widen hc hs (W.iret X.1 X.2.1 hr (fun _ ht _ => j_end hH hS hq ht) hS.2.2 hd hlk)
theorem j_lret (X : j_X p s m args c cc nL own Ts D ty cl nw) (hlk : meth.locks = false) (hr : meth.sig.returnType = some .long) (hc : cells ≤ mc) (hs : slots ≤ ms) {v : Int64} (hd : decode cc pc = .ok (.lreturn, 1)) (hq : Rt (some (.long v)) M n) : J p l e R s m args below meth c D ty cl b0 (MQ below (j_Q D ty cl b0 Rt) args s mc ms (fun q => b0 ≤ q)) nL M n cells slots pc L [.long v] := fun _ _ _ hH hS _ => W.widen hc hs (W.lret X.1 X.2.1 hr (fun _ ht _ => j_end hH hS hq ht) hS.2.2 hd hlk)
theorem j_zret (X : j_X p s m args c cc nL own Ts D ty cl nw) (hlk : meth.locks = false) (hr : meth.sig.returnType = some .boolean) (hc : cells ≤ mc) (hs : slots ≤ ms) {v : Int32} (hn : narrow .boolean (.int v) = .int v) (hd : decode cc pc = .ok (.ireturn, 1)) (hq : Rt (some (.int v)) M n) : J p l e R s m args below meth c D ty cl b0 (MQ below (j_Q D ty cl b0 Rt) args s mc ms (fun q => b0 ≤ q)) nL M n cells slots pc L [.int v] := fun _ _ _ hH hS _ => W.widen hc hs (W.zret X.1 X.2.1 hr hn (fun _ ht _ => j_end hH hS hq ht) hS.2.2 hd hlk)
theorem j_vret (X : j_X p s m args c cc nL own Ts D ty cl nw) (hlk : meth.locks = false) (hr : meth.sig.returnType = none) (hc : cells ≤ mc) (hs : slots ≤ ms) (hd : decode cc pc = .ok (.return_, 1)) (hq : Rt none M n) : J p l e R s m args below meth c D ty cl b0 (MQ below (j_Q D ty cl b0 Rt) args s mc ms (fun q => b0 ≤ q)) nL M n cells slots pc L [] := fun _ _ _ hH hS _ => W.widen hc hs (W.vret X.1 X.2.1 hr (fun _ ht _ => j_end hH hS hq ht) hS.2.2 hd hlk)
theorem j_aret (X : j_X p s m args c cc nL own Ts D ty cl nw) (hlk : meth.locks = false) {C : String} (hr : meth.sig.returnType = some (.object C)) (hc : cells ≤ mc) (hs : slots ≤ ms) {r : Option Nat} (hd : decode cc pc = .ok (.areturn, 1)) (hq : Rt (some (va_rf r)) M n) : J p l e R s m args below meth c D ty cl b0 (MQ below (j_Q D ty cl b0 Rt) args s mc ms (fun q => b0 ≤ q)) nL M n cells slots pc L [va_rf r] := fun _ _ _ hH hS _ => W.widen hc hs (W.aret X.1 X.2.1 hr (Or.inl ⟨C, rfl⟩) (by cases r with | none => exact Or.inl rfl | some a => exact Or.inr ⟨a, rfl⟩) (fun _ ht _ => j_end hH hS hq ht) hS.2.2 hd hlk)
theorem j_widen {c2 s2 : Nat} (h1 : cells ≤ c2) (h2 : slots ≤ s2) (k : J p l e R s m args below meth c D ty cl b0 Q nL M n c2 s2 pc L st) : J p l e R s m args below meth c D ty cl b0 Q nL M n cells slots pc L st := fun H locs ls hH hS hL => W.widen h1 h2 (k H locs ls hH hS hL)
/-- a contract out of the walk of the body -/
theorem j_start {y : MethodName} {ws ws' : List Cond} {maxL : Nat} {ret : Option FieldType} {fr lo : Nat} {as : List Value} (hy : plainName y.cls = true) (hw : ws = Cond.code y cc maxL ret :: ws') (L0 : List (Option Value)) (hlen : (j_a0 as).length ≤ maxL) (h0 : j_a0 as ++ List.replicate (maxL - (j_a0 as).length) none = L0)
    (body : ∀ (p : Program) (e : Env) (s : State) (m : MethodId) (below : List Frame) (meth : Method) (c : Code), j_X p s m as.toArray c cc maxL y.cls ws D ty cl nw → meth.locks = false → meth.sig.returnType = ret → meth.name = y.name →
      J p l e { frames := fr, cells := mc, slots := ms, locals := lo } s m as.toArray below meth c D ty cl b0 (MQ below (j_Q D ty cl b0 Rt) as.toArray s mc ms (fun q => b0 ≤ q)) maxL M n 0 0 0 L0 []) :
    Ct l D ty cl nw b0 y ws fr lo mc ms as M n Rt := by
  refine Met.ofW (cc := cc) (maxL := maxL) (ret := ret) hy hw ?_
  intro p e s m args below meth c s₁ B hml hv
  obtain ⟨rfl, hH, hK⟩ := hv
  rw [lg_entry_eq]
  exact body p e s m below meth c ⟨B.exec, B.bytes, hml, findClass_of_methodNamed B.named, atoms_spec (ws := ws) B.pre, hK⟩ B.notSynchronized B.returns (name_of_methodNamed B.named B.method).1 s.heap [] _ hH va_S.rf (j_L0 hlen h0)
theorem j_blind (hnw : nw.all j_nest = true) {as : List Value} : FrameBlind (j_P D ty cl nw b0 as M n) := by
  intro a U g mk h
  obtain ⟨h1, h2, h3, h4, h5⟩ := h
  refine ⟨h1, h2, va_K.moved (u := U) (U := U.calling g mk a) (Vm.Alike.refl U.vm) h3, fun w hw => ?_, h5⟩
  have h6 := List.all_eq_true.mp hnw w hw
  have h7 : w.onTables = true := by cases w <;> first | (simp [j_nest] at h6; done) | rfl
  exact va_Nw.same (u := U) (U := U.calling g mk a) h7 rfl (h4 w hw)
/-- behind a call -/
theorem j_ofRun {H : Heap} {locs : List Loc} {ls : Array Slot} {rest st0 : List Value} {a : Array Value} (hr : va_Run p l e R s m args below meth c H locs cells slots mc ms (F0 m pc ls st0) rest (j_Q D ty cl b0 Rt a) (fun q => b0 ≤ q)) (hS : va_S (fun q => b0 ≤ q) s.heap H locs) (hL : j_L ls nL L)
    (kk : ∀ (r : Option Value) (M' : jM) (n' : Nat), Rt r M' n' → J p l e R s m args below meth c D ty cl b0 Q nL M' n' (cells + mc) (slots + ms) (pc + 3) L (r.toList ++ rest)) : W p l e R s m args below meth c H locs cells slots Q (F0 m pc ls st0) := by
  intro T hT X
  obtain ⟨v, st₀, t, T', Lc, h0, X', hLc, e1, e2, ⟨r, M', n', hv, hp, hH', hz, hk⟩, stp⟩ := hr T hT X
  cases hv
  rw [h0] at hz hk
  obtain ⟨t2, a1, b1⟩ := kk v M' n' hp T'.heap (locs ++ Lc) ls (by rw [e1]; exact hH')
    ⟨Nat.le_trans hS.1 (by rw [e1]; exact hz), fun q h1 h2 => by rw [e1, hk q (Nat.lt_of_lt_of_le h1 hS.1) h2]; exact hS.2.1 q h1 h2, fun q hq => by
      rcases List.mem_append.mp hq with h | h
      · exact hS.2.2 q h
      · exact hLc q h⟩ hL T' rfl X'
  exact ⟨t2, stp t2 a1, b1⟩
theorem j_callV (X : j_X p s m args c cc nL own Ts D ty cl nw) (hnw : nw.all j_nest = true) {y : MethodName} {ws ws' : List Cond} {maxL : Nat} {ret : Option FieldType} {fr lo index : Nat} {bytes : ByteArray} {na : Nat} {C : String} {T : u_T} {N ci b : Nat} {fs : List Value} {As rest : List Value} (hM : M b = some (.inr (ci, fs))) (hc : cl[ci]? = some (C, T, N)) (hna : As.length = na) (hC : Ct l D ty cl nw b0 y ws fr lo mc ms (.ref b :: As) M n Rt) (hw : ws = Cond.code y bytes maxL ret :: ws') (hG : GoodIn Ts (wsV own index C y ws)) (hdd : y.cls = C ∧ y.cls ≠ "java/lang/invoke/MethodHandle" ∧ y.cls ≠ "java/lang/invoke/VarHandle" ∧ (parseMethodDescriptor y.desc).map (fun d => d.parameters.length) = some na) (hR : fr + 1 ≤ R.frames ∧ 8 + (maxL + 11) + lo ≤ R.locals) (hro : (rest.map fun v => v.category).sum ≤ 8) (hst : st = As.reverse ++ .ref b :: rest) (hd : decode cc pc = .ok (.invokevirtual index, 3)) (hf : cells + mc ≤ R.cells ∧ slots + ms ≤ R.slots) (kk : ∀ (r : Option Value) (M' : jM) (n' : Nat), Rt r M' n' → J p l e R s m args below meth c D ty cl b0 Q nL M' n' (cells + mc) (slots + ms) (pc + 3) L (r.toList ++ rest)) : J p l e R s m args below meth c D ty cl b0 Q nL M n cells slots pc L st := by
  intro H locs ls hH hS hL
  obtain ⟨hx, hb, hml, hown, hts, hK⟩ := id X
  subst hst
  refine j_ofRun (Rt := Rt) (a := (.ref b :: As).toArray) ?_ hS hL kk
  exact va_runV (rest := rest) (As := As) ⟨hx, hb, hml, hown, hts⟩ hC (cwV na hts hG hw rfl rfl hdd hR) ⟨j_blind hnw, (by obtain ⟨_, _, ws1, hP, _, hMw⟩ := id hH; obtain ⟨q0, hq⟩ := hMw _ _ hM; exact va_recv hK.1 hP (ci := ci) (q0 := q0) hc hq), fun U hU hW => ⟨rfl, by rw [hU]; exact hH, j_K.warm hnw hW hK⟩⟩ rfl hna hL.1 rfl (lv_room hro) hd hf
theorem j_callVN (X : j_X p s m args c cc nL own Ts D ty cl nw) (hnw : nw.all j_nest = true) {y : MethodName} {ws ws' : List Cond} {maxL : Nat} {ret : Option FieldType} {fr lo index : Nat} {bytes : ByteArray} {na : Nat} {C : String} {T : u_T} {N ci b : Nat} {fs : List Value} {As rest : List Value} (hM : M b = some (.inr (ci, fs))) (hc : cl[ci]? = some (C, T, N)) {host : String} (hna : As.length = na) (hC : Ct l D ty cl nw b0 y ws fr lo mc ms (.ref b :: As) M n Rt) (hw : ws = Cond.code y bytes maxL ret :: ws') (hG : GoodIn Ts ws) (hl : Cond.methodLinkNest own index y host ∈ nw) (hini : Cond.initialized y.cls ∈ Ts) (hi1 : Cond.instanceMethod y ∈ Ts) (hi2 : Cond.selects C y y ∈ Ts) (hdd : y.cls ≠ "java/lang/invoke/MethodHandle" ∧ y.cls ≠ "java/lang/invoke/VarHandle" ∧ (parseMethodDescriptor y.desc).map (fun d => d.parameters.length) = some na) (hR : fr + 1 ≤ R.frames ∧ 8 + (maxL + 11) + lo ≤ R.locals) (hro : (rest.map fun v => v.category).sum ≤ 8) (hst : st = As.reverse ++ .ref b :: rest) (hd : decode cc pc = .ok (.invokevirtual index, 3)) (hf : cells + mc ≤ R.cells ∧ slots + ms ≤ R.slots) (kk : ∀ (r : Option Value) (M' : jM) (n' : Nat), Rt r M' n' → J p l e R s m args below meth c D ty cl b0 Q nL M' n' (cells + mc) (slots + ms) (pc + 3) L (r.toList ++ rest)) : J p l e R s m args below meth c D ty cl b0 Q nL M n cells slots pc L st := by
  intro H locs ls hH hS hL
  obtain ⟨hx, hb, hml, hown, hts, hK⟩ := id X
  subst hst
  refine j_ofRun (Rt := Rt) (a := (.ref b :: As).toArray) ?_ hS hL kk
  exact va_runVN (rest := rest) (As := As) ⟨hx, hb, hml, hown, hts⟩ hC ⟨va_cnB na hts hG hw rfl rfl (hK.2.1 _ hl) (hts _ hini) hdd hR, hts _ hi1, hts _ hi2⟩ ⟨j_blind hnw, (by obtain ⟨_, _, ws1, hP, _, hMw⟩ := id hH; obtain ⟨q0, hq⟩ := hMw _ _ hM; exact va_recv hK.1 hP (ci := ci) (q0 := q0) hc hq), fun U hU hW => ⟨rfl, by rw [hU]; exact hH, j_K.warm hnw hW hK⟩⟩ rfl hna hL.1 rfl (lv_room hro) hd hf
theorem j_callS (X : j_X p s m args c cc nL own Ts D ty cl nw) (hnw : nw.all j_nest = true) {y : MethodName} {ws ws' : List Cond} {maxL : Nat} {ret : Option FieldType} {fr lo index : Nat} {bytes : ByteArray} {na : Nat} {As rest : List Value} (hna : As.length = na) (hC : Ct l D ty cl nw b0 y ws fr lo mc ms (As) M n Rt) (hw : ws = Cond.code y bytes maxL ret :: ws') (hG : GoodIn Ts (va_wsS own index y ws)) (hdd : y.cls ≠ "java/lang/invoke/MethodHandle" ∧ y.cls ≠ "java/lang/invoke/VarHandle" ∧ (parseMethodDescriptor y.desc).map (fun d => d.parameters.length) = some na) (hR : fr + 1 ≤ R.frames ∧ 8 + (maxL + 11) + lo ≤ R.locals) (hro : (rest.map fun v => v.category).sum ≤ 8) (hst : st = As.reverse ++ rest) (hd : decode cc pc = .ok (.invokestatic index, 3)) (hf : cells + mc ≤ R.cells ∧ slots + ms ≤ R.slots) (kk : ∀ (r : Option Value) (M' : jM) (n' : Nat), Rt r M' n' → J p l e R s m args below meth c D ty cl b0 Q nL M' n' (cells + mc) (slots + ms) (pc + 3) L (r.toList ++ rest)) : J p l e R s m args below meth c D ty cl b0 Q nL M n cells slots pc L st := by
  intro H locs ls hH hS hL
  obtain ⟨hx, hb, hml, hown, hts, hK⟩ := id X
  subst hst
  refine j_ofRun (Rt := Rt) (a := (As).toArray) ?_ hS hL kk
  exact va_runS (rest := rest) (As := As) ⟨hx, hb, hml, hown, hts⟩ hC (va_cwS na hts hG hw rfl rfl hdd hR) ⟨j_blind hnw, fun U hU hW => ⟨rfl, by rw [hU]; exact hH, j_K.warm hnw hW hK⟩⟩ rfl hna hL.1 rfl (lv_room hro) hd hf
theorem j_callSN (X : j_X p s m args c cc nL own Ts D ty cl nw) (hnw : nw.all j_nest = true) {y : MethodName} {ws ws' : List Cond} {maxL : Nat} {ret : Option FieldType} {fr lo index : Nat} {bytes : ByteArray} {na : Nat} {As rest : List Value} {host : String} (hna : As.length = na) (hC : Ct l D ty cl nw b0 y ws fr lo mc ms (As) M n Rt) (hw : ws = Cond.code y bytes maxL ret :: ws') (hG : GoodIn Ts ws) (hl : Cond.methodLinkNest own index y host ∈ nw) (hini : Cond.initialized y.cls ∈ Ts) (hi1 : Cond.static y ∈ Ts) (hdd : y.cls ≠ "java/lang/invoke/MethodHandle" ∧ y.cls ≠ "java/lang/invoke/VarHandle" ∧ (parseMethodDescriptor y.desc).map (fun d => d.parameters.length) = some na) (hR : fr + 1 ≤ R.frames ∧ 8 + (maxL + 11) + lo ≤ R.locals) (hro : (rest.map fun v => v.category).sum ≤ 8) (hst : st = As.reverse ++ rest) (hd : decode cc pc = .ok (.invokestatic index, 3)) (hf : cells + mc ≤ R.cells ∧ slots + ms ≤ R.slots) (kk : ∀ (r : Option Value) (M' : jM) (n' : Nat), Rt r M' n' → J p l e R s m args below meth c D ty cl b0 Q nL M' n' (cells + mc) (slots + ms) (pc + 3) L (r.toList ++ rest)) : J p l e R s m args below meth c D ty cl b0 Q nL M n cells slots pc L st := by
  intro H locs ls hH hS hL
  obtain ⟨hx, hb, hml, hown, hts, hK⟩ := id X
  subst hst
  refine j_ofRun (Rt := Rt) (a := (As).toArray) ?_ hS hL kk
  exact va_runSN (rest := rest) (As := As) ⟨hx, hb, hml, hown, hts⟩ hC ⟨va_cnB na hts hG hw rfl rfl (hK.2.1 _ hl) (hts _ hini) hdd hR, hts _ hi1, trivial⟩ ⟨j_blind hnw, fun U hU hW => ⟨rfl, by rw [hU]; exact hH, j_K.warm hnw hW hK⟩⟩ rfl hna hL.1 rfl (lv_room hro) hd hf
theorem j_callI (X : j_X p s m args c cc nL own Ts D ty cl nw) (hnw : nw.all j_nest = true) {y : MethodName} {ws ws' : List Cond} {maxL : Nat} {ret : Option FieldType} {fr lo index : Nat} {bytes : ByteArray} {na : Nat} {As rest : List Value} {b : Nat} (hna : As.length = na) (hC : Ct l D ty cl nw b0 y ws fr lo mc ms (.ref b :: As) M n Rt) (hw : ws = Cond.code y bytes maxL ret :: ws') (hret : ret = none) (hG : GoodIn Ts ws) (hini : Cond.initialized y.cls ∈ Ts) (hl : Cond.methodLink own index y ∈ Ts) (hi1 : Cond.instanceMethod y ∈ Ts) (hy1 : y.name = "<init>") (hdd : y.cls ≠ "java/lang/invoke/MethodHandle" ∧ y.cls ≠ "java/lang/invoke/VarHandle" ∧ (parseMethodDescriptor y.desc).map (fun d => d.parameters.length) = some na) (hR : fr + 1 ≤ R.frames ∧ 8 + (maxL + 11) + lo ≤ R.locals) (hro : (rest.map fun v => v.category).sum ≤ 8) (hst : st = As.reverse ++ .ref b :: rest) (hd : decode cc pc = .ok (.invokespecial index, 3)) (hf : cells + mc ≤ R.cells ∧ slots + ms ≤ R.slots) (kk : ∀ (r : Option Value) (M' : jM) (n' : Nat), Rt r M' n' → J p l e R s m args below meth c D ty cl b0 Q nL M' n' (cells + mc) (slots + ms) (pc + 3) L (r.toList ++ rest)) : J p l e R s m args below meth c D ty cl b0 Q nL M n cells slots pc L st := by
  intro H locs ls hH hS hL
  obtain ⟨hx, hb, hml, hown, hts, hK⟩ := id X
  subst hst
  refine j_ofRun (Rt := Rt) (a := (.ref b :: As).toArray) ?_ hS hL kk
  exact va_runI (rest := rest) (As := As) ⟨hx, hb, hml, hown, hts⟩ hC (cwI na hts hG (hret ▸ hw) rfl rfl (hts _ hini) (hts _ hl) (hts _ hi1) hy1 hdd hR) ⟨j_blind hnw, fun U hU hW => ⟨rfl, by rw [hU]; exact hH, j_K.warm hnw hW hK⟩⟩ rfl hna hL.1 rfl (lv_room hro) hd hf
theorem j_callIN (X : j_X p s m args c cc nL own Ts D ty cl nw) (hnw : nw.all j_nest = true) {y : MethodName} {ws ws' : List Cond} {maxL : Nat} {ret : Option FieldType} {fr lo index : Nat} {bytes : ByteArray} {na : Nat} {As rest : List Value} {b : Nat} {host : String} (hna : As.length = na) (hC : Ct l D ty cl nw b0 y ws fr lo mc ms (.ref b :: As) M n Rt) (hw : ws = Cond.code y bytes maxL ret :: ws') (hret : ret = none) (hG : GoodIn Ts ws) (hini : Cond.initialized y.cls ∈ Ts) (hl : Cond.methodLinkNest own index y host ∈ nw) (hi1 : Cond.instanceMethod y ∈ Ts) (hy1 : y.name = "<init>") (hdd : y.cls ≠ "java/lang/invoke/MethodHandle" ∧ y.cls ≠ "java/lang/invoke/VarHandle" ∧ (parseMethodDescriptor y.desc).map (fun d => d.parameters.length) = some na) (hR : fr + 1 ≤ R.frames ∧ 8 + (maxL + 11) + lo ≤ R.locals) (hro : (rest.map fun v => v.category).sum ≤ 8) (hst : st = As.reverse ++ .ref b :: rest) (hd : decode cc pc = .ok (.invokespecial index, 3)) (hf : cells + mc ≤ R.cells ∧ slots + ms ≤ R.slots) (kk : ∀ (r : Option Value) (M' : jM) (n' : Nat), Rt r M' n' → J p l e R s m args below meth c D ty cl b0 Q nL M' n' (cells + mc) (slots + ms) (pc + 3) L (r.toList ++ rest)) : J p l e R s m args below meth c D ty cl b0 Q nL M n cells slots pc L st := by
  intro H locs ls hH hS hL
  obtain ⟨hx, hb, hml, hown, hts, hK⟩ := id X
  subst hst
  refine j_ofRun (Rt := Rt) (a := (.ref b :: As).toArray) ?_ hS hL kk
  exact va_runIN (rest := rest) (As := As) ⟨hx, hb, hml, hown, hts⟩ hC ⟨va_cnB na hts hG (hret ▸ hw) rfl rfl (hK.2.1 _ hl) (hts _ hini) hdd hR, hy1, hts _ hi1⟩ ⟨j_blind hnw, fun U hU hW => ⟨rfl, by rw [hU]; exact hH, j_K.warm hnw hW hK⟩⟩ rfl hna hL.1 rfl (lv_room hro) hd hf
theorem j_max (X : j_X p s m args c cc nL own Ts D ty cl nw) {index : Nat} {x y : Int32} (hlink : Cond.methodLink own index Lib.Math.max.name ∈ Ts) (hstat : Cond.static Lib.Math.max.name ∈ Ts) (hini : Cond.initialized "java/lang/Math" ∈ Ts) (hcode : Cond.code Lib.Math.max.name Lib.Math.max.code 2 (some .int) ∈ Ts) (hfr : 1 ≤ R.frames) (hlo : (st.map fun v => v.category).sum + 13 ≤ R.locals) (hc : cells ≤ R.cells) (hs : slots ≤ R.slots) (hd : decode cc pc = .ok (.invokestatic index, 3)) (kk : J p l e R s m args below meth c D ty cl b0 Q nL M n cells slots (pc + 3) L (.int (if x < y then y else x) :: st)) : J p l e R s m args below meth c D ty cl b0 Q nL M n cells slots pc L (.int y :: .int x :: st) := fun H locs ls hH hS hL => va_mmax X.1 X.2.1 (X.2.2.1.trans hL.1.symm) X.2.2.2.1 (X.2.2.2.2.1 _ hlink) (X.2.2.2.2.1 _ hstat) (X.2.2.2.2.1 _ hini) (X.2.2.2.2.1 _ hcode) hfr hlo hc hs hd (kk H locs ls hH hS hL)
theorem j_min (X : j_X p s m args c cc nL own Ts D ty cl nw) {index : Nat} {x y : Int32} (hlink : Cond.methodLink own index Lib.Math.min.name ∈ Ts) (hstat : Cond.static Lib.Math.min.name ∈ Ts) (hini : Cond.initialized "java/lang/Math" ∈ Ts) (hcode : Cond.code Lib.Math.min.name Lib.Math.min.code 2 (some .int) ∈ Ts) (hfr : 1 ≤ R.frames) (hlo : (st.map fun v => v.category).sum + 13 ≤ R.locals) (hc : cells ≤ R.cells) (hs : slots ≤ R.slots) (hd : decode cc pc = .ok (.invokestatic index, 3)) (kk : J p l e R s m args below meth c D ty cl b0 Q nL M n cells slots (pc + 3) L (.int (if y < x then y else x) :: st)) : J p l e R s m args below meth c D ty cl b0 Q nL M n cells slots pc L (.int y :: .int x :: st) := fun H locs ls hH hS hL => va_mmin X.1 X.2.1 (X.2.2.1.trans hL.1.symm) X.2.2.2.1 (X.2.2.2.2.1 _ hlink) (X.2.2.2.2.1 _ hstat) (X.2.2.2.2.1 _ hini) (X.2.2.2.2.1 _ hcode) hfr hlo hc hs hd (kk H locs ls hH hS hL)
theorem j_abs (X : j_X p s m args c cc nL own Ts D ty cl nw) {index : Nat} {x : Int32} (hlink : Cond.methodLink own index Lib.Math.abs.name ∈ Ts) (hstat : Cond.static Lib.Math.abs.name ∈ Ts) (hini : Cond.initialized "java/lang/Math" ∈ Ts) (hcode : Cond.code Lib.Math.abs.name Lib.Math.abs.code 1 (some .int) ∈ Ts) (hfr : 1 ≤ R.frames) (hlo : (st.map fun v => v.category).sum + 13 ≤ R.locals) (hc : cells ≤ R.cells) (hs : slots ≤ R.slots) (hd : decode cc pc = .ok (.invokestatic index, 3)) (kk : J p l e R s m args below meth c D ty cl b0 Q nL M n cells slots (pc + 3) L (.int (if 0 ≤ x then x else 0 - x) :: st)) : J p l e R s m args below meth c D ty cl b0 Q nL M n cells slots pc L (.int x :: st) := fun H locs ls hH hS hL => va_mabs X.1 X.2.1 (X.2.2.1.trans hL.1.symm) X.2.2.2.1 (X.2.2.2.2.1 _ hlink) (X.2.2.2.2.1 _ hstat) (X.2.2.2.2.1 _ hini) (X.2.2.2.2.1 _ hcode) hfr hlo hc hs hd (kk H locs ls hH hS hL)
end JC
end
section
/-! More rows of J. -/
section JM
variable {p : Program} {l : Launch} {e : Env} {R : Room} {s : State} {m : MethodId} {args : Array Value} {below : List Frame} {meth : Method} {c : Code} {D : va_G} {ty : jT} {cl : List vw_C} {nw : List Cond} {b0 : Nat} {Q : State → Prop} {nL : Nat} {M : jM} {n cells slots pc : Nat} {L : List (Option Value)} {st : List Value}
/-- a cell of the memory lies below n -/
theorem j_lt {a : Nat} {x : jE} (h : M a = some x) (k : b0 ≤ a ∧ a < n → J p l e R s m args below meth c D ty cl b0 Q nL M n cells slots pc L st) : J p l e R s m args below meth c D ty cl b0 Q nL M n cells slots pc L st := fun H locs ls hH hS hL => k (hH.lt h) H locs ls hH hS hL
end JM
end
section
/-! The pictures: what the cells of an object hold, as lists. -/
def nwSQ : List Cond := [.methodLinkNest RX4 9 yX0_init "StreamQuery", .methodLinkNest RX4 21 yX2_init "StreamQuery", .methodLinkNest RX4 28 yX3_init "StreamQuery", .methodLinkNest RX3 22 yX4_isWithin "StreamQuery", .fieldLinkNest RX2 32 "StreamQuery$Group" "end" "I" "StreamQuery", .fieldLinkNest RX4 203 "StreamQuery$Group" "end" "I" "StreamQuery", .fieldLinkNest RX4 206 "StreamQuery$Group" "key" "I" "StreamQuery", .fieldLinkNest RX4 130 "StreamQuery$Group" "sum" "I" "StreamQuery", .fieldLinkNest RX4 135 "StreamQuery$Group" "many" "I" "StreamQuery", .fieldLinkNest RX4 138 "StreamQuery$Group" "greatest" "I" "StreamQuery", .fieldLinkNest RX2 21 "StreamQuery$Group" "next" "LStreamQuery$Group;" "StreamQuery"]
theorem nwSQ_ok : nwSQ.all j_nest = true := rfl
/-- a reading: the answer is v, nothing changes -/
def j_rd (v : Value) (M : jM) (n : Nat) : Option Value → jM → Nat → Prop := fun r M' n' => r = some v ∧ M = M' ∧ n = n'
abbrev Ev : Type := Int32 × Int32 × Int32
/-- an Events object at o with k events, its three rows behind it -/
def EvRaw (M : jM) (o : Nat) (ft fk fv : Nat → Int32) (k : Nat) : Prop := M o = some (.inr (0, [.ref (o + 1), .ref (o + 2), .ref (o + 3), .int (nI k)])) ∧ M (o + 1) = some (.inl (0, 200, .inl ft)) ∧ M (o + 2) = some (.inl (0, 200, .inl fk)) ∧ M (o + 3) = some (.inl (0, 200, .inl fv))
/-- the kept events of one stream: an object at o, its three rows behind it -/
def EvAt (M : jM) (o : Nat) (l : List Ev) : Prop := ∃ ft fk fv : Nat → Int32, M o = some (.inr (0, [.ref (o + 1), .ref (o + 2), .ref (o + 3), .int (nI l.length)])) ∧ M (o + 1) = some (.inl (0, 200, .inl ft)) ∧ M (o + 2) = some (.inl (0, 200, .inl fk)) ∧ M (o + 3) = some (.inl (0, 200, .inl fv)) ∧ l.length ≤ 200 ∧ ∀ i, i < l.length → l[i]? = some (ft i, fk i, fv i)
theorem EvAt.cell {M : jM} {o : Nat} {l : List Ev} (h : EvAt M o l) : M o = some (.inr (0, [.ref (o + 1), .ref (o + 2), .ref (o + 3), .int (nI l.length)])) := by
  obtain ⟨_, _, _, h0, _⟩ := h
  exact h0
theorem EvAt.len {M : jM} {o : Nat} {l : List Ev} (h : EvAt M o l) : l.length ≤ 200 := by
  obtain ⟨_, _, _, _, _, _, _, h, _⟩ := h
  exact h
theorem EvAt.frame {M M' : jM} {o : Nat} {l : List Ev} (h : EvAt M o l) (hf : ∀ q, o ≤ q → q ≤ o + 3 → M' q = M q) : EvAt M' o l := by
  obtain ⟨ft, fk, fv, h0, h1, h2, h3, h4, h5⟩ := h
  exact ⟨ft, fk, fv, by rw [hf o (by omega) (by omega)]; exact h0, by rw [hf (o + 1) (by omega) (by omega)]; exact h1, by rw [hf (o + 2) (by omega) (by omega)]; exact h2, by rw [hf (o + 3) (by omega) (by omega)]; exact h3, h4, h5⟩
theorem ev_push {l : List Ev} {ft fk fv : Nat → Int32} {a b v : Int32} (h : ∀ i, i < l.length → l[i]? = some (ft i, fk i, fv i)) : ∀ i, i < (l ++ [(a, b, v)]).length → (l ++ [(a, b, v)])[i]? = some (upd ft l.length a i, upd fk l.length b i, upd fv l.length v i) := by
  intro i hi
  rw [List.length_append] at hi
  have hi : i < l.length + 1 := hi
  by_cases h1 : i < l.length
  · rw [List.getElem?_append_left h1, h i h1]
    have : i ≠ l.length := by omega
    simp [upd, this]
  · have h2 : i = l.length := by omega
    subst h2
    simp [upd]
theorem EvAt.push {M' : jM} {o : Nat} {l : List Ev} {ft fk fv : Nat → Int32} {a b v : Int32} (hr : EvRaw M' o (upd ft l.length a) (upd fk l.length b) (upd fv l.length v) (l.length + 1)) (hlt : l.length < 200) (hl : ∀ i, i < l.length → l[i]? = some (ft i, fk i, fv i)) : EvAt M' o (l ++ [(a, b, v)]) := by
  obtain ⟨h0, h1, h2, h3⟩ := hr
  exact ⟨_, _, _, by rw [List.length_append]; exact h0, h1, h2, h3, by rw [List.length_append]; show l.length + 1 ≤ 200; omega, ev_push hl⟩
/-- an event with this key that is at most sp away in time -/
def nr (t k sp : Int32) (e : Ev) : Bool := decide (e.2.1 = k) && decide ((if 0 ≤ e.1 - t then e.1 - t else 0 - (e.1 - t)) ≤ sp)
theorem nr_T {t k sp : Int32} {e : Ev} (h1 : e.2.1 = k) (h2 : ¬ sp < (if 0 ≤ e.1 - t then e.1 - t else 0 - (e.1 - t))) : (if nr t k sp e then (1 : Int32) else 0) = 1 := by
  have h3 := Int32.not_lt.mp h2
  unfold nr
  rw [decide_eq_true h1, decide_eq_true h3]
  rfl
theorem nr_F1 {t k sp : Int32} {e : Ev} (h1 : ¬ e.2.1 = k) : (if nr t k sp e then (1 : Int32) else 0) = 0 := by
  unfold nr
  rw [decide_eq_false h1]
  rfl
theorem nr_F2 {t k sp : Int32} {e : Ev} (h2 : sp < (if 0 ≤ e.1 - t then e.1 - t else 0 - (e.1 - t))) : (if nr t k sp e then (1 : Int32) else 0) = 0 := by
  have h3 := Int32.not_le.mpr h2
  unfold nr
  rw [decide_eq_false h3, Bool.and_false]
  rfl
theorem take_count {l : List Ev} {p : Ev → Bool} {i : Nat} {e : Ev} (h : l[i]? = some e) : (l.take (i + 1)).countP p = (l.take i).countP p + (if p e then 1 else 0) := by
  have hl := (List.getElem?_eq_some_iff.mp h)
  obtain ⟨hlt, he⟩ := hl
  rw [List.take_add_one, h]
  simp [List.countP_append, List.countP_cons]
theorem filter_take {l : List Ev} {p : Ev → Bool} {i : Nat} {e : Ev} (h : l[i]? = some e) : (l.take (i + 1)).filter p = (l.take i).filter p ++ (if p e then [e] else []) := by
  rw [List.take_add_one, h, List.filter_append]
  cases hp : p e <;> simp [hp]
end
section
set_option maxRecDepth 20000 in
theorem iwX0_size_X0 : ∀ w ∈ u_ws RX0 TX0 4, w ∈ wsX0_size := by decide +kernel
set_option maxRecDepth 20000 in
theorem lkX0_size_21 : Cond.fieldLink RX0 21 (TX0 3).1 (TX0 3).2.1 (TX0 3).2.2.1 ∈ wsX0_size := by decide +kernel
set_option maxRecDepth 20000 in
theorem iwX0_has_X0 : ∀ w ∈ u_ws RX0 TX0 4, w ∈ wsX0_has := by decide +kernel
set_option maxRecDepth 20000 in
theorem lkX0_has_21 : Cond.fieldLink RX0 21 (TX0 3).1 (TX0 3).2.1 (TX0 3).2.2.1 ∈ wsX0_has := by decide +kernel
set_option maxRecDepth 20000 in
theorem ddX0_has : yX0_has.cls ≠ "java/lang/invoke/MethodHandle" ∧ yX0_has.cls ≠ "java/lang/invoke/VarHandle" ∧ (parseMethodDescriptor yX0_has.desc).map (fun d => d.parameters.length) = some 1 := by decide +kernel
set_option maxRecDepth 20000 in
theorem iwX0_time_X0 : ∀ w ∈ u_ws RX0 TX0 4, w ∈ wsX0_time := by decide +kernel
set_option maxRecDepth 20000 in
theorem lkX0_time_9 : Cond.fieldLink RX0 9 (TX0 0).1 (TX0 0).2.1 (TX0 0).2.2.1 ∈ wsX0_time := by decide +kernel
set_option maxRecDepth 20000 in
theorem iwX0_key_X0 : ∀ w ∈ u_ws RX0 TX0 4, w ∈ wsX0_key := by decide +kernel
set_option maxRecDepth 20000 in
theorem lkX0_key_15 : Cond.fieldLink RX0 15 (TX0 1).1 (TX0 1).2.1 (TX0 1).2.2.1 ∈ wsX0_key := by decide +kernel
set_option maxRecDepth 20000 in
theorem iwX0_value_X0 : ∀ w ∈ u_ws RX0 TX0 4, w ∈ wsX0_value := by decide +kernel
set_option maxRecDepth 20000 in
theorem lkX0_value_18 : Cond.fieldLink RX0 18 (TX0 2).1 (TX0 2).2.1 (TX0 2).2.2.1 ∈ wsX0_value := by decide +kernel
set_option maxRecDepth 20000 in
theorem iwX0_clear_X0 : ∀ w ∈ u_ws RX0 TX0 4, w ∈ wsX0_clear := by decide +kernel
set_option maxRecDepth 20000 in
theorem lkX0_clear_21 : Cond.fieldLink RX0 21 (TX0 3).1 (TX0 3).2.1 (TX0 3).2.2.1 ∈ wsX0_clear := by decide +kernel
set_option maxRecDepth 20000 in
theorem iwX0_add_X0 : ∀ w ∈ u_ws RX0 TX0 4, w ∈ wsX0_add := by decide +kernel
set_option maxRecDepth 20000 in
theorem lkX0_add_21 : Cond.fieldLink RX0 21 (TX0 3).1 (TX0 3).2.1 (TX0 3).2.2.1 ∈ wsX0_add := by decide +kernel
set_option maxRecDepth 20000 in
theorem lkX0_add_9 : Cond.fieldLink RX0 9 (TX0 0).1 (TX0 0).2.1 (TX0 0).2.2.1 ∈ wsX0_add := by decide +kernel
set_option maxRecDepth 20000 in
theorem lkX0_add_15 : Cond.fieldLink RX0 15 (TX0 1).1 (TX0 1).2.1 (TX0 1).2.2.1 ∈ wsX0_add := by decide +kernel
set_option maxRecDepth 20000 in
theorem lkX0_add_18 : Cond.fieldLink RX0 18 (TX0 2).1 (TX0 2).2.1 (TX0 2).2.2.1 ∈ wsX0_add := by decide +kernel
set_option maxRecDepth 20000 in
theorem iwX0_isNear_X0 : ∀ w ∈ u_ws RX0 TX0 4, w ∈ wsX0_isNear := by decide +kernel
set_option maxRecDepth 20000 in
theorem lkX0_isNear_15 : Cond.fieldLink RX0 15 (TX0 1).1 (TX0 1).2.1 (TX0 1).2.2.1 ∈ wsX0_isNear := by decide +kernel
set_option maxRecDepth 20000 in
theorem lkX0_isNear_9 : Cond.fieldLink RX0 9 (TX0 0).1 (TX0 0).2.1 (TX0 0).2.2.1 ∈ wsX0_isNear := by decide +kernel
set_option maxRecDepth 20000 in
theorem wdX0_isNear_mabs0 : Cond.methodLink RX0 29 Lib.Math.abs.name ∈ wsX0_isNear := by decide +kernel
set_option maxRecDepth 20000 in
theorem wdX0_isNear_mabs1 : Cond.static Lib.Math.abs.name ∈ wsX0_isNear := by decide +kernel
set_option maxRecDepth 20000 in
theorem wdX0_isNear_mabs2 : Cond.initialized "java/lang/Math" ∈ wsX0_isNear := by decide +kernel
set_option maxRecDepth 20000 in
theorem wdX0_isNear_mabs3 : Cond.code Lib.Math.abs.name Lib.Math.abs.code 1 (some .int) ∈ wsX0_isNear := by decide +kernel
set_option maxRecDepth 20000 in
theorem iwX0_manyNear_X0 : ∀ w ∈ u_ws RX0 TX0 4, w ∈ wsX0_manyNear := by decide +kernel
set_option maxRecDepth 20000 in
theorem lkX0_manyNear_21 : Cond.fieldLink RX0 21 (TX0 3).1 (TX0 3).2.1 (TX0 3).2.2.1 ∈ wsX0_manyNear := by decide +kernel
set_option maxRecDepth 20000 in
theorem ddX0_isNear : yX0_isNear.cls ≠ "java/lang/invoke/MethodHandle" ∧ yX0_isNear.cls ≠ "java/lang/invoke/VarHandle" ∧ (parseMethodDescriptor yX0_isNear.desc).map (fun d => d.parameters.length) = some 4 := by decide +kernel
set_option maxRecDepth 20000 in
theorem iwX0_dropBelow_X0 : ∀ w ∈ u_ws RX0 TX0 4, w ∈ wsX0_dropBelow := by decide +kernel
set_option maxRecDepth 20000 in
theorem lkX0_dropBelow_9 : Cond.fieldLink RX0 9 (TX0 0).1 (TX0 0).2.1 (TX0 0).2.2.1 ∈ wsX0_dropBelow := by decide +kernel
set_option maxRecDepth 20000 in
theorem lkX0_dropBelow_15 : Cond.fieldLink RX0 15 (TX0 1).1 (TX0 1).2.1 (TX0 1).2.2.1 ∈ wsX0_dropBelow := by decide +kernel
set_option maxRecDepth 20000 in
theorem lkX0_dropBelow_18 : Cond.fieldLink RX0 18 (TX0 2).1 (TX0 2).2.1 (TX0 2).2.2.1 ∈ wsX0_dropBelow := by decide +kernel
set_option maxRecDepth 20000 in
theorem ddX0_add : yX0_add.cls ≠ "java/lang/invoke/MethodHandle" ∧ yX0_add.cls ≠ "java/lang/invoke/VarHandle" ∧ (parseMethodDescriptor yX0_add.desc).map (fun d => d.parameters.length) = some 3 := by decide +kernel
set_option maxRecDepth 20000 in
theorem lkX0_dropBelow_21 : Cond.fieldLink RX0 21 (TX0 3).1 (TX0 3).2.1 (TX0 3).2.2.1 ∈ wsX0_dropBelow := by decide +kernel
set_option maxRecDepth 20000 in
theorem wdX0_init_oi3 : Cond.methodLink RX0 3 objectInit ∈ wsX0_init := by decide +kernel
set_option maxRecDepth 20000 in
theorem wdX0_init_oj : Cond.instanceMethod objectInit ∈ wsX0_init := by decide +kernel
set_option maxRecDepth 20000 in
theorem wdX0_init_ok : Cond.code objectInit ⟨#[0xb1]⟩ 1 none ∈ wsX0_init := by decide +kernel
set_option maxRecDepth 20000 in
theorem wdX0_init_ai : Cond.arrayClass .int ∈ wsX0_init := by decide +kernel
set_option maxRecDepth 20000 in
theorem iwX0_init_X0 : ∀ w ∈ u_ws RX0 TX0 4, w ∈ wsX0_init := by decide +kernel
set_option maxRecDepth 20000 in
theorem lkX0_init_9 : Cond.fieldLink RX0 9 (TX0 0).1 (TX0 0).2.1 (TX0 0).2.2.1 ∈ wsX0_init := by decide +kernel
set_option maxRecDepth 20000 in
theorem lkX0_init_15 : Cond.fieldLink RX0 15 (TX0 1).1 (TX0 1).2.1 (TX0 1).2.2.1 ∈ wsX0_init := by decide +kernel
set_option maxRecDepth 20000 in
theorem lkX0_init_18 : Cond.fieldLink RX0 18 (TX0 2).1 (TX0 2).2.1 (TX0 2).2.2.1 ∈ wsX0_init := by decide +kernel
set_option maxRecDepth 20000 in
theorem lkX0_init_21 : Cond.fieldLink RX0 21 (TX0 3).1 (TX0 3).2.1 (TX0 3).2.2.1 ∈ wsX0_init := by decide +kernel
end
section
set_option maxHeartbeats 800000 in
set_option maxRecDepth 100000 in
theorem c_X0_size (l : Launch) (D : va_G) {ty : jT} {cA : ClassId} (hI : ty[0]? = some (cA, .int)) (b0 : Nat) {M : jM} {n o : Nat} {le : List Ev} (h : EvAt M o le) : Ct l D ty vwCl nwSQ b0 yX0_size wsX0_size 0 0 0 0 [.ref o] M n (j_rd (.int (nI le.length)) M n) := by
  obtain ⟨ft, fk, fv, h0, h1, h2, h3, hlen, hl⟩ := h
  refine j_start (cc := cX0_size) (maxL := 1) (ret := (some .int)) (by decide) rfl [some (.ref o)] (Nat.le_of_ble_eq_true rfl) rfl ?_
  intro p e s m below meth c X hlk hr hnm
  refine j_aload_n X 0 dX0_size_0 rfl rfl ?_
  refine j_get X h0 rfl iwX0_size_X0 3 (by decide) lkX0_size_21 rfl dX0_size_1 ?_
  exact j_iret X hlk hr (by omega) (by omega) dX0_size_4 ⟨rfl, rfl, rfl⟩
set_option maxHeartbeats 800000 in
set_option maxRecDepth 100000 in
theorem c_X0_hasT (l : Launch) (D : va_G) {ty : jT} {cA : ClassId} (hI : ty[0]? = some (cA, .int)) (b0 : Nat) {M : jM} {n o : Nat} {le : List Ev} (h : EvAt M o le) {j : Nat} (hj : j < le.length) : Ct l D ty vwCl nwSQ b0 yX0_has wsX0_has 0 0 0 0 [.ref o, .int (nI j)] M n (j_rd (.int 1) M n) := by
  obtain ⟨ft, fk, fv, h0, h1, h2, h3, hlen, hl⟩ := h
  refine j_start (cc := cX0_has) (maxL := 2) (ret := (some .boolean)) (by decide) rfl [some (.ref o), some (.int (nI j))] (Nat.le_of_ble_eq_true rfl) rfl ?_
  intro p e s m below meth c X hlk hr hnm
  refine j_iconst X dX0_has_0 (v := 0) (by decide) ?_
  refine j_iload_n X 1 dX0_has_1 rfl rfl ?_
  refine j_icmp_gt X 17 dX0_has_2 (by decide) (fun c1 => ?_) (fun c1 => ?_)
  · skip
    exact absurd c1 (by simp (disch := omega) only [Int32.lt_iff_toInt_lt, Int32.le_iff_toInt_le, nI_toInt, Int32.toInt_zero]; omega)
  · skip
    refine j_iload_n X 1 dX0_has_5 rfl rfl ?_
    refine j_aload_n X 0 dX0_has_6 rfl rfl ?_
    refine j_get X h0 rfl iwX0_has_X0 3 (by decide) lkX0_has_21 rfl dX0_has_7 ?_
    refine j_icmp_ge X 17 dX0_has_10 (by decide) (fun c2 => ?_) (fun c2 => ?_)
    · skip
      exact absurd c2 (by simp (disch := omega) only [Int32.lt_iff_toInt_lt, Int32.le_iff_toInt_le, nI_toInt, Int32.toInt_zero]; omega)
    · skip
      refine j_iconst X dX0_has_13 (v := 1) (by decide) ?_
      refine j_goto X 18 dX0_has_14 (by decide) ?_
      exact j_zret X hlk hr (by omega) (by omega) (by decide) dX0_has_18 ⟨rfl, rfl, rfl⟩
set_option maxHeartbeats 800000 in
set_option maxRecDepth 100000 in
theorem c_X0_hasF (l : Launch) (D : va_G) {ty : jT} {cA : ClassId} (hI : ty[0]? = some (cA, .int)) (b0 : Nat) {M : jM} {n o : Nat} {le : List Ev} (h : EvAt M o le) {i : Int32} (hi : i < 0 ∨ nI le.length ≤ i) : Ct l D ty vwCl nwSQ b0 yX0_has wsX0_has 0 0 0 0 [.ref o, .int i] M n (j_rd (.int 0) M n) := by
  obtain ⟨ft, fk, fv, h0, h1, h2, h3, hlen, hl⟩ := h
  refine j_start (cc := cX0_has) (maxL := 2) (ret := (some .boolean)) (by decide) rfl [some (.ref o), some (.int i)] (Nat.le_of_ble_eq_true rfl) rfl ?_
  intro p e s m below meth c X hlk hr hnm
  refine j_iconst X dX0_has_0 (v := 0) (by decide) ?_
  refine j_iload_n X 1 dX0_has_1 rfl rfl ?_
  refine j_icmp_gt X 17 dX0_has_2 (by decide) (fun c3 => ?_) (fun c3 => ?_)
  · skip
    refine j_iconst X dX0_has_17 (v := 0) (by decide) ?_
    exact j_zret X hlk hr (by omega) (by omega) (by decide) dX0_has_18 ⟨rfl, rfl, rfl⟩
  · skip
    refine j_iload_n X 1 dX0_has_5 rfl rfl ?_
    refine j_aload_n X 0 dX0_has_6 rfl rfl ?_
    refine j_get X h0 rfl iwX0_has_X0 3 (by decide) lkX0_has_21 rfl dX0_has_7 ?_
    refine j_icmp_ge X 17 dX0_has_10 (by decide) (fun c4 => ?_) (fun c4 => ?_)
    · skip
      refine j_iconst X dX0_has_17 (v := 0) (by decide) ?_
      exact j_zret X hlk hr (by omega) (by omega) (by decide) dX0_has_18 ⟨rfl, rfl, rfl⟩
    · skip
      exact absurd (hi.resolve_left c3) c4
set_option maxHeartbeats 800000 in
set_option maxRecDepth 100000 in
theorem c_X0_timeT (l : Launch) (D : va_G) {ty : jT} {cA : ClassId} (hI : ty[0]? = some (cA, .int)) (b0 : Nat) {M : jM} {n o : Nat} {le : List Ev} (h : EvAt M o le) {j : Nat} {ev : Ev} (hj : j < le.length) (hev : le[j]? = some ev) : Ct l D ty vwCl nwSQ b0 yX0_time wsX0_time 1 21 0 0 [.ref o, .int (nI j)] M n (j_rd (.int ev.1) M n) := by
  obtain ⟨ft, fk, fv, h0, h1, h2, h3, hlen, hl⟩ := id h
  have hq := hl j hj
  rw [hev] at hq
  cases hq
  refine j_start (cc := cX0_time) (maxL := 2) (ret := (some .int)) (by decide) rfl [some (.ref o), some (.int (nI j))] (Nat.le_of_ble_eq_true rfl) rfl ?_
  intro p e s m below meth c X hlk hr hnm
  refine j_aload_n X 0 dX0_time_0 rfl rfl ?_
  refine j_iload_n X 1 dX0_time_1 rfl rfl ?_
  refine j_callV X nwSQ_ok (As := [.int (nI j)]) (rest := []) h0 rfl rfl (c_X0_hasT l D hI b0 h hj) rfl gX0_time_X0_has ⟨rfl, ddX0_has⟩ ⟨Nat.le_of_ble_eq_true rfl, Nat.le_of_ble_eq_true rfl⟩ (Nat.le_of_ble_eq_true rfl) rfl dX0_time_2 ⟨(by show 0 + 0 ≤ 0; omega), (by show 0 + 0 ≤ 0; omega)⟩ (fun r5 M6 n7 hr8 => ?_)
  obtain ⟨rfl, rfl, rfl⟩ := hr8
  refine j_st (st := [.int 1]) rfl ?_
  refine j_if_eq X 17 dX0_time_5 (by decide) (fun c9 => ?_) (fun c9 => ?_)
  · skip
    exact absurd c9 (by decide)
  · skip
    refine j_aload_n X 0 dX0_time_8 rfl rfl ?_
    refine j_get X h0 rfl iwX0_time_X0 0 (by decide) lkX0_time_9 rfl dX0_time_9 ?_
    refine j_iload_n X 1 dX0_time_12 rfl rfl ?_
    refine j_iald X h1 hI (vp_in_nI (show j < 200 by omega) (by decide)) (v := ft j) (congrArg ft (nI_clamp (show j < 2 ^ 31 by omega))) dX0_time_13 ?_
    refine j_goto X 18 dX0_time_14 (by decide) ?_
    exact j_iret X hlk hr (by omega) (by omega) dX0_time_18 ⟨rfl, rfl, rfl⟩
set_option maxHeartbeats 800000 in
set_option maxRecDepth 100000 in
theorem c_X0_timeF (l : Launch) (D : va_G) {ty : jT} {cA : ClassId} (hI : ty[0]? = some (cA, .int)) (b0 : Nat) {M : jM} {n o : Nat} {le : List Ev} (h : EvAt M o le) {i : Int32} (hi : i < 0 ∨ nI le.length ≤ i) : Ct l D ty vwCl nwSQ b0 yX0_time wsX0_time 1 21 0 0 [.ref o, .int i] M n (j_rd (.int 0) M n) := by
  obtain ⟨ft, fk, fv, h0, h1, h2, h3, hlen, hl⟩ := id h
  refine j_start (cc := cX0_time) (maxL := 2) (ret := (some .int)) (by decide) rfl [some (.ref o), some (.int i)] (Nat.le_of_ble_eq_true rfl) rfl ?_
  intro p e s m below meth c X hlk hr hnm
  refine j_aload_n X 0 dX0_time_0 rfl rfl ?_
  refine j_iload_n X 1 dX0_time_1 rfl rfl ?_
  refine j_callV X nwSQ_ok (As := [.int i]) (rest := []) h0 rfl rfl (c_X0_hasF l D hI b0 h hi) rfl gX0_time_X0_has ⟨rfl, ddX0_has⟩ ⟨Nat.le_of_ble_eq_true rfl, Nat.le_of_ble_eq_true rfl⟩ (Nat.le_of_ble_eq_true rfl) rfl dX0_time_2 ⟨(by show 0 + 0 ≤ 0; omega), (by show 0 + 0 ≤ 0; omega)⟩ (fun r10 M11 n12 hr13 => ?_)
  obtain ⟨rfl, rfl, rfl⟩ := hr13
  refine j_st (st := [.int 0]) rfl ?_
  refine j_if_eq X 17 dX0_time_5 (by decide) (fun c14 => ?_) (fun c14 => ?_)
  · skip
    refine j_iconst X dX0_time_17 (v := 0) (by decide) ?_
    exact j_iret X hlk hr (by omega) (by omega) dX0_time_18 ⟨rfl, rfl, rfl⟩
  · skip
    exact absurd rfl c14
set_option maxHeartbeats 800000 in
set_option maxRecDepth 100000 in
theorem c_X0_keyT (l : Launch) (D : va_G) {ty : jT} {cA : ClassId} (hI : ty[0]? = some (cA, .int)) (b0 : Nat) {M : jM} {n o : Nat} {le : List Ev} (h : EvAt M o le) {j : Nat} {ev : Ev} (hj : j < le.length) (hev : le[j]? = some ev) : Ct l D ty vwCl nwSQ b0 yX0_key wsX0_key 1 21 0 0 [.ref o, .int (nI j)] M n (j_rd (.int ev.2.1) M n) := by
  obtain ⟨ft, fk, fv, h0, h1, h2, h3, hlen, hl⟩ := id h
  have hq := hl j hj
  rw [hev] at hq
  cases hq
  refine j_start (cc := cX0_key) (maxL := 2) (ret := (some .int)) (by decide) rfl [some (.ref o), some (.int (nI j))] (Nat.le_of_ble_eq_true rfl) rfl ?_
  intro p e s m below meth c X hlk hr hnm
  refine j_aload_n X 0 dX0_key_0 rfl rfl ?_
  refine j_iload_n X 1 dX0_key_1 rfl rfl ?_
  refine j_callV X nwSQ_ok (As := [.int (nI j)]) (rest := []) h0 rfl rfl (c_X0_hasT l D hI b0 h hj) rfl gX0_key_X0_has ⟨rfl, ddX0_has⟩ ⟨Nat.le_of_ble_eq_true rfl, Nat.le_of_ble_eq_true rfl⟩ (Nat.le_of_ble_eq_true rfl) rfl dX0_key_2 ⟨(by show 0 + 0 ≤ 0; omega), (by show 0 + 0 ≤ 0; omega)⟩ (fun r15 M16 n17 hr18 => ?_)
  obtain ⟨rfl, rfl, rfl⟩ := hr18
  refine j_st (st := [.int 1]) rfl ?_
  refine j_if_eq X 17 dX0_key_5 (by decide) (fun c19 => ?_) (fun c19 => ?_)
  · skip
    exact absurd c19 (by decide)
  · skip
    refine j_aload_n X 0 dX0_key_8 rfl rfl ?_
    refine j_get X h0 rfl iwX0_key_X0 1 (by decide) lkX0_key_15 rfl dX0_key_9 ?_
    refine j_iload_n X 1 dX0_key_12 rfl rfl ?_
    refine j_iald X h2 hI (vp_in_nI (show j < 200 by omega) (by decide)) (v := fk j) (congrArg fk (nI_clamp (show j < 2 ^ 31 by omega))) dX0_key_13 ?_
    refine j_goto X 18 dX0_key_14 (by decide) ?_
    exact j_iret X hlk hr (by omega) (by omega) dX0_key_18 ⟨rfl, rfl, rfl⟩
set_option maxHeartbeats 800000 in
set_option maxRecDepth 100000 in
theorem c_X0_keyF (l : Launch) (D : va_G) {ty : jT} {cA : ClassId} (hI : ty[0]? = some (cA, .int)) (b0 : Nat) {M : jM} {n o : Nat} {le : List Ev} (h : EvAt M o le) {i : Int32} (hi : i < 0 ∨ nI le.length ≤ i) : Ct l D ty vwCl nwSQ b0 yX0_key wsX0_key 1 21 0 0 [.ref o, .int i] M n (j_rd (.int 0) M n) := by
  obtain ⟨ft, fk, fv, h0, h1, h2, h3, hlen, hl⟩ := id h
  refine j_start (cc := cX0_key) (maxL := 2) (ret := (some .int)) (by decide) rfl [some (.ref o), some (.int i)] (Nat.le_of_ble_eq_true rfl) rfl ?_
  intro p e s m below meth c X hlk hr hnm
  refine j_aload_n X 0 dX0_key_0 rfl rfl ?_
  refine j_iload_n X 1 dX0_key_1 rfl rfl ?_
  refine j_callV X nwSQ_ok (As := [.int i]) (rest := []) h0 rfl rfl (c_X0_hasF l D hI b0 h hi) rfl gX0_key_X0_has ⟨rfl, ddX0_has⟩ ⟨Nat.le_of_ble_eq_true rfl, Nat.le_of_ble_eq_true rfl⟩ (Nat.le_of_ble_eq_true rfl) rfl dX0_key_2 ⟨(by show 0 + 0 ≤ 0; omega), (by show 0 + 0 ≤ 0; omega)⟩ (fun r20 M21 n22 hr23 => ?_)
  obtain ⟨rfl, rfl, rfl⟩ := hr23
  refine j_st (st := [.int 0]) rfl ?_
  refine j_if_eq X 17 dX0_key_5 (by decide) (fun c24 => ?_) (fun c24 => ?_)
  · skip
    refine j_iconst X dX0_key_17 (v := 0) (by decide) ?_
    exact j_iret X hlk hr (by omega) (by omega) dX0_key_18 ⟨rfl, rfl, rfl⟩
  · skip
    exact absurd rfl c24
set_option maxHeartbeats 800000 in
set_option maxRecDepth 100000 in
theorem c_X0_valueT (l : Launch) (D : va_G) {ty : jT} {cA : ClassId} (hI : ty[0]? = some (cA, .int)) (b0 : Nat) {M : jM} {n o : Nat} {le : List Ev} (h : EvAt M o le) {j : Nat} {ev : Ev} (hj : j < le.length) (hev : le[j]? = some ev) : Ct l D ty vwCl nwSQ b0 yX0_value wsX0_value 1 21 0 0 [.ref o, .int (nI j)] M n (j_rd (.int ev.2.2) M n) := by
  obtain ⟨ft, fk, fv, h0, h1, h2, h3, hlen, hl⟩ := id h
  have hq := hl j hj
  rw [hev] at hq
  cases hq
  refine j_start (cc := cX0_value) (maxL := 2) (ret := (some .int)) (by decide) rfl [some (.ref o), some (.int (nI j))] (Nat.le_of_ble_eq_true rfl) rfl ?_
  intro p e s m below meth c X hlk hr hnm
  refine j_aload_n X 0 dX0_value_0 rfl rfl ?_
  refine j_iload_n X 1 dX0_value_1 rfl rfl ?_
  refine j_callV X nwSQ_ok (As := [.int (nI j)]) (rest := []) h0 rfl rfl (c_X0_hasT l D hI b0 h hj) rfl gX0_value_X0_has ⟨rfl, ddX0_has⟩ ⟨Nat.le_of_ble_eq_true rfl, Nat.le_of_ble_eq_true rfl⟩ (Nat.le_of_ble_eq_true rfl) rfl dX0_value_2 ⟨(by show 0 + 0 ≤ 0; omega), (by show 0 + 0 ≤ 0; omega)⟩ (fun r25 M26 n27 hr28 => ?_)
  obtain ⟨rfl, rfl, rfl⟩ := hr28
  refine j_st (st := [.int 1]) rfl ?_
  refine j_if_eq X 17 dX0_value_5 (by decide) (fun c29 => ?_) (fun c29 => ?_)
  · skip
    exact absurd c29 (by decide)
  · skip
    refine j_aload_n X 0 dX0_value_8 rfl rfl ?_
    refine j_get X h0 rfl iwX0_value_X0 2 (by decide) lkX0_value_18 rfl dX0_value_9 ?_
    refine j_iload_n X 1 dX0_value_12 rfl rfl ?_
    refine j_iald X h3 hI (vp_in_nI (show j < 200 by omega) (by decide)) (v := fv j) (congrArg fv (nI_clamp (show j < 2 ^ 31 by omega))) dX0_value_13 ?_
    refine j_goto X 18 dX0_value_14 (by decide) ?_
    exact j_iret X hlk hr (by omega) (by omega) dX0_value_18 ⟨rfl, rfl, rfl⟩
set_option maxHeartbeats 800000 in
set_option maxRecDepth 100000 in
theorem c_X0_valueF (l : Launch) (D : va_G) {ty : jT} {cA : ClassId} (hI : ty[0]? = some (cA, .int)) (b0 : Nat) {M : jM} {n o : Nat} {le : List Ev} (h : EvAt M o le) {i : Int32} (hi : i < 0 ∨ nI le.length ≤ i) : Ct l D ty vwCl nwSQ b0 yX0_value wsX0_value 1 21 0 0 [.ref o, .int i] M n (j_rd (.int 0) M n) := by
  obtain ⟨ft, fk, fv, h0, h1, h2, h3, hlen, hl⟩ := id h
  refine j_start (cc := cX0_value) (maxL := 2) (ret := (some .int)) (by decide) rfl [some (.ref o), some (.int i)] (Nat.le_of_ble_eq_true rfl) rfl ?_
  intro p e s m below meth c X hlk hr hnm
  refine j_aload_n X 0 dX0_value_0 rfl rfl ?_
  refine j_iload_n X 1 dX0_value_1 rfl rfl ?_
  refine j_callV X nwSQ_ok (As := [.int i]) (rest := []) h0 rfl rfl (c_X0_hasF l D hI b0 h hi) rfl gX0_value_X0_has ⟨rfl, ddX0_has⟩ ⟨Nat.le_of_ble_eq_true rfl, Nat.le_of_ble_eq_true rfl⟩ (Nat.le_of_ble_eq_true rfl) rfl dX0_value_2 ⟨(by show 0 + 0 ≤ 0; omega), (by show 0 + 0 ≤ 0; omega)⟩ (fun r30 M31 n32 hr33 => ?_)
  obtain ⟨rfl, rfl, rfl⟩ := hr33
  refine j_st (st := [.int 0]) rfl ?_
  refine j_if_eq X 17 dX0_value_5 (by decide) (fun c34 => ?_) (fun c34 => ?_)
  · skip
    refine j_iconst X dX0_value_17 (v := 0) (by decide) ?_
    exact j_iret X hlk hr (by omega) (by omega) dX0_value_18 ⟨rfl, rfl, rfl⟩
  · skip
    exact absurd rfl c34
set_option maxHeartbeats 800000 in
set_option maxRecDepth 100000 in
theorem c_X0_clear (l : Launch) (D : va_G) {ty : jT} {cA : ClassId} (hI : ty[0]? = some (cA, .int)) (b0 : Nat) {M : jM} {n o : Nat} {le : List Ev} (h : EvAt M o le) : Ct l D ty vwCl nwSQ b0 yX0_clear wsX0_clear 0 0 0 0 [.ref o] M n (fun r M' n' => r = none ∧ n = n' ∧ EvAt M' o [] ∧ ∀ q, (q < o ∨ o + 3 < q) → M' q = M q) := by
  obtain ⟨ft, fk, fv, h0, h1, h2, h3, hlen, hl⟩ := h
  refine j_start (cc := cX0_clear) (maxL := 1) (ret := none) (by decide) rfl [some (.ref o)] (Nat.le_of_ble_eq_true rfl) rfl ?_
  intro p e s m below meth c X hlk hr hnm
  refine j_aload_n X 0 dX0_clear_0 rfl rfl ?_
  refine j_iconst X dX0_clear_1 (v := 0) (by decide) ?_
  refine j_put X h0 rfl iwX0_clear_X0 tyX0 tyX0_ok nmX0 3 (by decide) lkX0_clear_21 rfl rfl rfl (Nat.le_of_ble_eq_true rfl) (fs' := [.ref (o + 1), .ref (o + 2), .ref (o + 3), .int 0]) rfl dX0_clear_2 ?_
  generalize eM35 : j_up M o (.inr (0, [.ref (o + 1), .ref (o + 2), .ref (o + 3), .int 0])) = M35
  have h37 : M35 (o + 1) = some (.inl (0, 200, .inl ft)) := by rw [← eM35, j_up_ne _ _ (by omega)]; exact h1
  have h38 : M35 (o + 2) = some (.inl (0, 200, .inl fk)) := by rw [← eM35, j_up_ne _ _ (by omega)]; exact h2
  have h39 : M35 (o + 3) = some (.inl (0, 200, .inl fv)) := by rw [← eM35, j_up_ne _ _ (by omega)]; exact h3
  have h40 : M35 o = some (.inr (0, [.ref (o + 1), .ref (o + 2), .ref (o + 3), .int 0])) := by rw [← eM35]; exact j_up_self _ _ _
  exact j_vret X hlk hr (by omega) (by omega) dX0_clear_5 ⟨rfl, rfl, ⟨ft, fk, fv, h40, h37, h38, h39, Nat.zero_le _, fun i hi => absurd hi (Nat.not_lt_zero i)⟩, fun q hq => by rw [← eM35, j_up_ne _ _ (by omega)]⟩
set_option maxHeartbeats 800000 in
set_option maxRecDepth 100000 in
theorem c_X0_add (l : Launch) (D : va_G) {ty : jT} {cA : ClassId} (hI : ty[0]? = some (cA, .int)) (b0 : Nat) {M : jM} {n o k : Nat} {ft fk fv : Nat → Int32} (h : EvRaw M o ft fk fv k) (hlt : k < 200) (a b v : Int32) : Ct l D ty vwCl nwSQ b0 yX0_add wsX0_add 0 0 0 0 [.ref o, .int a, .int b, .int v] M n (fun r M' n' => r = none ∧ n = n' ∧ EvRaw M' o (upd ft k a) (upd fk k b) (upd fv k v) (k + 1) ∧ ∀ q, (q < o ∨ o + 3 < q) → M' q = M q) := by
  obtain ⟨h0, h1, h2, h3⟩ := h
  refine j_start (cc := cX0_add) (maxL := 4) (ret := none) (by decide) rfl [some (.ref o), some (.int a), some (.int b), some (.int v)] (Nat.le_of_ble_eq_true rfl) rfl ?_
  intro p e s m below meth c X hlk hr hnm
  refine j_aload_n X 0 dX0_add_0 rfl rfl ?_
  refine j_get X h0 rfl iwX0_add_X0 3 (by decide) lkX0_add_21 rfl dX0_add_1 ?_
  refine j_sipush X dX0_add_4 (v := 200) (by decide) ?_
  refine j_icmp_lt X 11 dX0_add_7 (by decide) (fun c41 => ?_) (fun c41 => ?_)
  · skip
    refine j_aload_n X 0 dX0_add_11 rfl rfl ?_
    refine j_get X h0 rfl iwX0_add_X0 0 (by decide) lkX0_add_9 rfl dX0_add_12 ?_
    refine j_aload_n X 0 dX0_add_15 rfl rfl ?_
    refine j_get X h0 rfl iwX0_add_X0 3 (by decide) lkX0_add_21 rfl dX0_add_16 ?_
    refine j_iload_n X 1 dX0_add_19 rfl rfl ?_
    refine j_iast X h1 hI (vp_in_nI (show k < 200 by omega) (by decide)) dX0_add_20 ?_
    rw [nI_clamp (show k < 2 ^ 31 by omega)]
    generalize eM42 : j_up M (o + 1) (.inl (0, 200, .inl (upd ft k a))) = M42
    have h43 : M42 o = some (.inr (0, [.ref (o + 1), .ref (o + 2), .ref (o + 3), .int (nI k)])) := by rw [← eM42, j_up_ne _ _ (by omega)]; exact h0
    have h45 : M42 (o + 2) = some (.inl (0, 200, .inl fk)) := by rw [← eM42, j_up_ne _ _ (by omega)]; exact h2
    have h46 : M42 (o + 3) = some (.inl (0, 200, .inl fv)) := by rw [← eM42, j_up_ne _ _ (by omega)]; exact h3
    have h47 : M42 (o + 1) = some (.inl (0, 200, .inl (upd ft k a))) := by rw [← eM42]; exact j_up_self _ _ _
    refine j_aload_n X 0 dX0_add_21 rfl rfl ?_
    refine j_get X h43 rfl iwX0_add_X0 1 (by decide) lkX0_add_15 rfl dX0_add_22 ?_
    refine j_aload_n X 0 dX0_add_25 rfl rfl ?_
    refine j_get X h43 rfl iwX0_add_X0 3 (by decide) lkX0_add_21 rfl dX0_add_26 ?_
    refine j_iload_n X 2 dX0_add_29 rfl rfl ?_
    refine j_iast X h45 hI (vp_in_nI (show k < 200 by omega) (by decide)) dX0_add_30 ?_
    rw [nI_clamp (show k < 2 ^ 31 by omega)]
    generalize eM48 : j_up M42 (o + 2) (.inl (0, 200, .inl (upd fk k b))) = M48
    have h49 : M48 o = some (.inr (0, [.ref (o + 1), .ref (o + 2), .ref (o + 3), .int (nI k)])) := by rw [← eM48, j_up_ne _ _ (by omega)]; exact h43
    have h51 : M48 (o + 3) = some (.inl (0, 200, .inl fv)) := by rw [← eM48, j_up_ne _ _ (by omega)]; exact h46
    have h52 : M48 (o + 1) = some (.inl (0, 200, .inl (upd ft k a))) := by rw [← eM48, j_up_ne _ _ (by omega)]; exact h47
    have h53 : M48 (o + 2) = some (.inl (0, 200, .inl (upd fk k b))) := by rw [← eM48]; exact j_up_self _ _ _
    refine j_aload_n X 0 dX0_add_31 rfl rfl ?_
    refine j_get X h49 rfl iwX0_add_X0 2 (by decide) lkX0_add_18 rfl dX0_add_32 ?_
    refine j_aload_n X 0 dX0_add_35 rfl rfl ?_
    refine j_get X h49 rfl iwX0_add_X0 3 (by decide) lkX0_add_21 rfl dX0_add_36 ?_
    refine j_iload_n X 3 dX0_add_39 rfl rfl ?_
    refine j_iast X h51 hI (vp_in_nI (show k < 200 by omega) (by decide)) dX0_add_40 ?_
    rw [nI_clamp (show k < 2 ^ 31 by omega)]
    generalize eM54 : j_up M48 (o + 3) (.inl (0, 200, .inl (upd fv k v))) = M54
    have h55 : M54 o = some (.inr (0, [.ref (o + 1), .ref (o + 2), .ref (o + 3), .int (nI k)])) := by rw [← eM54, j_up_ne _ _ (by omega)]; exact h49
    have h57 : M54 (o + 1) = some (.inl (0, 200, .inl (upd ft k a))) := by rw [← eM54, j_up_ne _ _ (by omega)]; exact h52
    have h58 : M54 (o + 2) = some (.inl (0, 200, .inl (upd fk k b))) := by rw [← eM54, j_up_ne _ _ (by omega)]; exact h53
    have h59 : M54 (o + 3) = some (.inl (0, 200, .inl (upd fv k v))) := by rw [← eM54]; exact j_up_self _ _ _
    refine j_aload_n X 0 dX0_add_41 rfl rfl ?_
    refine j_dup X dX0_add_42 rfl ?_
    refine j_get X h55 rfl iwX0_add_X0 3 (by decide) lkX0_add_21 rfl dX0_add_43 ?_
    refine j_iconst X dX0_add_46 (v := 1) (by decide) ?_
    refine j_iadd X dX0_add_47 ?_
    refine j_st (st := [.int (nI (k + 1)), .ref o]) (by rw [show (nI k) + 1 = nI (k + 1) from nI_add _ 1]) ?_
    refine j_put X h55 rfl iwX0_add_X0 tyX0 tyX0_ok nmX0 3 (by decide) lkX0_add_21 rfl rfl rfl (Nat.le_of_ble_eq_true rfl) (fs' := [.ref (o + 1), .ref (o + 2), .ref (o + 3), .int (nI (k + 1))]) rfl dX0_add_48 ?_
    generalize eM60 : j_up M54 o (.inr (0, [.ref (o + 1), .ref (o + 2), .ref (o + 3), .int (nI (k + 1))])) = M60
    have h62 : M60 (o + 1) = some (.inl (0, 200, .inl (upd ft k a))) := by rw [← eM60, j_up_ne _ _ (by omega)]; exact h57
    have h63 : M60 (o + 2) = some (.inl (0, 200, .inl (upd fk k b))) := by rw [← eM60, j_up_ne _ _ (by omega)]; exact h58
    have h64 : M60 (o + 3) = some (.inl (0, 200, .inl (upd fv k v))) := by rw [← eM60, j_up_ne _ _ (by omega)]; exact h59
    have h65 : M60 o = some (.inr (0, [.ref (o + 1), .ref (o + 2), .ref (o + 3), .int (nI (k + 1))])) := by rw [← eM60]; exact j_up_self _ _ _
    exact j_vret X hlk hr (by omega) (by omega) dX0_add_51 ⟨rfl, rfl, ⟨h65, h62, h63, h64⟩, fun q hq => by rw [← eM60, j_up_ne _ _ (by omega), ← eM54, j_up_ne _ _ (by omega), ← eM48, j_up_ne _ _ (by omega), ← eM42, j_up_ne _ _ (by omega)]⟩
  · skip
    exact absurd (show nI k < 200 from nI_lt (b := 200) hlt (by decide)) c41
set_option maxHeartbeats 800000 in
set_option maxRecDepth 100000 in
theorem c_X0_isNear (l : Launch) (D : va_G) {ty : jT} {cA : ClassId} (hI : ty[0]? = some (cA, .int)) (b0 : Nat) {M : jM} {n o : Nat} {le : List Ev} (h : EvAt M o le) {j : Nat} {ev : Ev} (hj : j < le.length) (hev : le[j]? = some ev) (t k sp : Int32) : Ct l D ty vwCl nwSQ b0 yX0_isNear wsX0_isNear 1 21 0 0 [.ref o, .int (nI j), .int t, .int k, .int sp] M n (j_rd (.int (if nr t k sp ev then 1 else 0)) M n) := by
  obtain ⟨ft, fk, fv, h0, h1, h2, h3, hlen, hl⟩ := id h
  have hq := hl j hj
  rw [hev] at hq
  cases hq
  refine j_start (cc := cX0_isNear) (maxL := 5) (ret := (some .boolean)) (by decide) rfl [some (.ref o), some (.int (nI j)), some (.int t), some (.int k), some (.int sp)] (Nat.le_of_ble_eq_true rfl) rfl ?_
  intro p e s m below meth c X hlk hr hnm
  refine j_aload_n X 0 dX0_isNear_0 rfl rfl ?_
  refine j_iload_n X 1 dX0_isNear_1 rfl rfl ?_
  refine j_callV X nwSQ_ok (As := [.int (nI j)]) (rest := []) h0 rfl rfl (c_X0_hasT l D hI b0 h hj) rfl gX0_isNear_X0_has ⟨rfl, ddX0_has⟩ ⟨Nat.le_of_ble_eq_true rfl, Nat.le_of_ble_eq_true rfl⟩ (Nat.le_of_ble_eq_true rfl) rfl dX0_isNear_2 ⟨(by show 0 + 0 ≤ 0; omega), (by show 0 + 0 ≤ 0; omega)⟩ (fun r66 M67 n68 hr69 => ?_)
  obtain ⟨rfl, rfl, rfl⟩ := hr69
  refine j_st (st := [.int 1]) rfl ?_
  refine j_if_eq X 38 dX0_isNear_5 (by decide) (fun c70 => ?_) (fun c70 => ?_)
  · skip
    exact absurd c70 (by decide)
  · skip
    refine j_aload_n X 0 dX0_isNear_8 rfl rfl ?_
    refine j_get X h0 rfl iwX0_isNear_X0 1 (by decide) lkX0_isNear_15 rfl dX0_isNear_9 ?_
    refine j_iload_n X 1 dX0_isNear_12 rfl rfl ?_
    refine j_iald X h2 hI (vp_in_nI (show j < 200 by omega) (by decide)) (v := fk j) (congrArg fk (nI_clamp (show j < 2 ^ 31 by omega))) dX0_isNear_13 ?_
    refine j_iload_n X 3 dX0_isNear_14 rfl rfl ?_
    refine j_icmp_ne X 38 dX0_isNear_15 (by decide) (fun c71 => ?_) (fun c71 => ?_)
    · skip
      refine j_iconst X dX0_isNear_38 (v := 0) (by decide) ?_
      exact j_zret X hlk hr (by omega) (by omega) (by decide) dX0_isNear_39 ⟨congrArg (fun x => some (Value.int x)) (nr_F1 (e := (ft j, fk j, fv j)) c71).symm, rfl, rfl⟩
    · skip
      refine j_aload_n X 0 dX0_isNear_18 rfl rfl ?_
      refine j_get X h0 rfl iwX0_isNear_X0 0 (by decide) lkX0_isNear_9 rfl dX0_isNear_19 ?_
      refine j_iload_n X 1 dX0_isNear_22 rfl rfl ?_
      refine j_iald X h1 hI (vp_in_nI (show j < 200 by omega) (by decide)) (v := ft j) (congrArg ft (nI_clamp (show j < 2 ^ 31 by omega))) dX0_isNear_23 ?_
      refine j_iload_n X 2 dX0_isNear_24 rfl rfl ?_
      refine j_isub X dX0_isNear_25 ?_
      refine j_abs X wdX0_isNear_mabs0 wdX0_isNear_mabs1 wdX0_isNear_mabs2 wdX0_isNear_mabs3 (Nat.le_of_ble_eq_true rfl) (Nat.le_of_ble_eq_true rfl) (by omega) (by omega) dX0_isNear_26 ?_
      refine j_iload X dX0_isNear_29 rfl ?_
      refine j_icmp_gt X 38 dX0_isNear_31 (by decide) (fun c72 => ?_) (fun c72 => ?_)
      · skip
        refine j_iconst X dX0_isNear_38 (v := 0) (by decide) ?_
        exact j_zret X hlk hr (by omega) (by omega) (by decide) dX0_isNear_39 ⟨congrArg (fun x => some (Value.int x)) (nr_F2 (e := (ft j, fk j, fv j)) c72).symm, rfl, rfl⟩
      · skip
        refine j_iconst X dX0_isNear_34 (v := 1) (by decide) ?_
        refine j_goto X 39 dX0_isNear_35 (by decide) ?_
        exact j_zret X hlk hr (by omega) (by omega) (by decide) dX0_isNear_39 ⟨congrArg (fun x => some (Value.int x)) (nr_T (e := (ft j, fk j, fv j)) c71 c72).symm, rfl, rfl⟩
set_option maxHeartbeats 800000 in
set_option maxRecDepth 100000 in
theorem c_X0_manyNear (l : Launch) (D : va_G) {ty : jT} {cA : ClassId} (hI : ty[0]? = some (cA, .int)) (b0 : Nat) {M : jM} {n o : Nat} {le : List Ev} (h : EvAt M o le) (t k sp : Int32) : Ct l D ty vwCl nwSQ b0 yX0_manyNear wsX0_manyNear 2 45 0 0 [.ref o, .int t, .int k, .int sp] M n (j_rd (.int (nI (le.countP (nr t k sp)))) M n) := by
  obtain ⟨ft, fk, fv, h0, h1, h2, h3, hlen, hl⟩ := id h
  refine j_start (cc := cX0_manyNear) (maxL := 6) (ret := (some .int)) (by decide) rfl [some (.ref o), some (.int t), some (.int k), some (.int sp), none, none] (Nat.le_of_ble_eq_true rfl) rfl ?_
  intro p e s m below meth c X hlk hr hnm
  have loop : ∀ (z i : Nat), i + z = le.length → J p l e { frames := 2, cells := 0, slots := 0, locals := 45 } s m ([.ref o, .int t, .int k, .int sp] : List Value).toArray below meth c D ty vwCl b0 (MQ below (j_Q D ty vwCl b0 (j_rd (.int (nI (le.countP (nr t k sp)))) M n)) ([.ref o, .int t, .int k, .int sp] : List Value).toArray s 0 0 (fun q => b0 ≤ q)) 6 M n 0 0 6 [some (.ref o), some (.int t), some (.int k), some (.int sp), some (.int (nI ((le.take i).countP (nr t k sp)))), some (.int (nI i))] [] := by
    intro z
    induction z with
    | zero =>
      intro i hz
      refine j_iload X dX0_manyNear_6 rfl ?_
      refine j_aload_n X 0 dX0_manyNear_8 rfl rfl ?_
      refine j_get X h0 rfl iwX0_manyNear_X0 3 (by decide) lkX0_manyNear_21 rfl dX0_manyNear_9 ?_
      refine j_icmp_ge X 36 dX0_manyNear_12 (by decide) (fun c73 => ?_) (fun c73 => ?_)
      · skip
        refine j_iload X dX0_manyNear_36 rfl ?_
        exact j_iret X hlk hr (by omega) (by omega) dX0_manyNear_38 ⟨by rw [show i = le.length by omega, List.take_length], rfl, rfl⟩
      · skip
        exact absurd (nI_le (show le.length ≤ i by omega) (by omega)) c73
    | succ z ih =>
      intro i hz
      obtain ⟨ev, hev⟩ : ∃ ev, le[i]? = some ev := ⟨_, List.getElem?_eq_getElem (show i < le.length by omega)⟩
      have hcn := take_count (p := nr t k sp) hev
      refine j_iload X dX0_manyNear_6 rfl ?_
      refine j_aload_n X 0 dX0_manyNear_8 rfl rfl ?_
      refine j_get X h0 rfl iwX0_manyNear_X0 3 (by decide) lkX0_manyNear_21 rfl dX0_manyNear_9 ?_
      refine j_icmp_ge X 36 dX0_manyNear_12 (by decide) (fun c74 => ?_) (fun c74 => ?_)
      · skip
        exact absurd c74 (nI_ge (show i < le.length by omega) (by omega))
      · skip
        refine j_aload_n X 0 dX0_manyNear_15 rfl rfl ?_
        refine j_iload X dX0_manyNear_16 rfl ?_
        refine j_iload_n X 1 dX0_manyNear_18 rfl rfl ?_
        refine j_iload_n X 2 dX0_manyNear_19 rfl rfl ?_
        refine j_iload_n X 3 dX0_manyNear_20 rfl rfl ?_
        refine j_callV X nwSQ_ok (As := [.int (nI i), .int t, .int k, .int sp]) (rest := []) h0 rfl rfl (c_X0_isNear l D hI b0 h (show i < le.length by omega) hev t k sp) rfl gX0_manyNear_X0_isNear ⟨rfl, ddX0_isNear⟩ ⟨Nat.le_of_ble_eq_true rfl, Nat.le_of_ble_eq_true rfl⟩ (Nat.le_of_ble_eq_true rfl) rfl dX0_manyNear_21 ⟨(by show 0 + 0 ≤ 0; omega), (by show 0 + 0 ≤ 0; omega)⟩ (fun r75 M76 n77 hr78 => ?_)
        obtain ⟨rfl, rfl, rfl⟩ := hr78
        refine j_st (st := [.int (if nr t k sp ev then 1 else 0)]) rfl ?_
        refine j_if_eq X 30 dX0_manyNear_24 (by decide) (fun c79 => ?_) (fun c79 => ?_)
        · skip
          refine j_iinc X dX0_manyNear_30 rfl (v := nI (i + 1)) (nI_1 _) (by decide) rfl (L' := [some (.ref o), some (.int t), some (.int k), some (.int sp), some (.int (nI ((le.take i).countP (nr t k sp)))), some (.int (nI (i + 1)))]) rfl ?_
          refine j_goto X 6 dX0_manyNear_33 (by decide) ?_
          have hi := ih (i + 1) (by omega)
          cases hb : nr t k sp ev <;> rw [hcn, hb] at hi <;> rw [hb] at c79 <;> first | exact hi | exact absurd rfl c79 | exact absurd c79 (by decide)
        · skip
          refine j_iinc X dX0_manyNear_27 rfl (v := nI ((le.take i).countP (nr t k sp) + 1)) (nI_1 _) (by decide) rfl (L' := [some (.ref o), some (.int t), some (.int k), some (.int sp), some (.int (nI ((le.take i).countP (nr t k sp) + 1))), some (.int (nI i))]) rfl ?_
          refine j_iinc X dX0_manyNear_30 rfl (v := nI (i + 1)) (nI_1 _) (by decide) rfl (L' := [some (.ref o), some (.int t), some (.int k), some (.int sp), some (.int (nI ((le.take i).countP (nr t k sp) + 1))), some (.int (nI (i + 1)))]) rfl ?_
          refine j_goto X 6 dX0_manyNear_33 (by decide) ?_
          have hi := ih (i + 1) (by omega)
          cases hb : nr t k sp ev <;> rw [hcn, hb] at hi <;> rw [hb] at c79 <;> first | exact hi | exact absurd rfl c79 | exact absurd c79 (by decide)
  refine j_iconst X dX0_manyNear_0 (v := 0) (by decide) ?_
  refine j_istore X dX0_manyNear_1 (by decide) rfl (L' := [some (.ref o), some (.int t), some (.int k), some (.int sp), some (.int 0), none]) rfl ?_
  refine j_iconst X dX0_manyNear_3 (v := 0) (by decide) ?_
  refine j_istore X dX0_manyNear_4 (by decide) rfl (L' := [some (.ref o), some (.int t), some (.int k), some (.int sp), some (.int 0), some (.int 0)]) rfl ?_
  exact loop le.length 0 (by omega)
set_option maxHeartbeats 800000 in
set_option maxRecDepth 100000 in
theorem c_X0_dropBelow (l : Launch) (D : va_G) {ty : jT} {cA : ClassId} (hI : ty[0]? = some (cA, .int)) (b0 : Nat) {M : jM} {n o : Nat} {le : List Ev} (h : EvAt M o le) (x : Int32) : Ct l D ty vwCl nwSQ b0 yX0_dropBelow wsX0_dropBelow 1 23 0 0 [.ref o, .int x] M n (fun r M' n' => r = none ∧ n = n' ∧ EvAt M' o (le.filter (fun e : Ev => decide (x ≤ e.1))) ∧ ∀ q, (q < o ∨ o + 3 < q) → M' q = M q) := by
  obtain ⟨ft, fk, fv, h0, h1, h2, h3, hlen, hl⟩ := id h
  refine j_start (cc := cX0_dropBelow) (maxL := 4) (ret := none) (by decide) rfl [some (.ref o), some (.int x), none, none] (Nat.le_of_ble_eq_true rfl) rfl ?_
  intro p e s m below meth c X hlk hr hnm
  have loop : ∀ (z i : Nat) (Mi : jM) (gt gk gv : Nat → Int32), i + z = le.length → EvRaw Mi o gt gk gv ((le.take i).filter (fun e : Ev => decide (x ≤ e.1))).length → (∀ j, j < ((le.take i).filter (fun e : Ev => decide (x ≤ e.1))).length → ((le.take i).filter (fun e : Ev => decide (x ≤ e.1)))[j]? = some (gt j, gk j, gv j)) → (∀ j, i ≤ j → gt j = ft j ∧ gk j = fk j ∧ gv j = fv j) → (∀ q, (q < o ∨ o + 3 < q) → Mi q = M q) → J p l e { frames := 1, cells := 0, slots := 0, locals := 23 } s m ([.ref o, .int x] : List Value).toArray below meth c D ty vwCl b0 (MQ below (j_Q D ty vwCl b0 (fun r M' n' => r = none ∧ n = n' ∧ EvAt M' o (le.filter (fun e : Ev => decide (x ≤ e.1))) ∧ ∀ q, (q < o ∨ o + 3 < q) → M' q = M q)) ([.ref o, .int x] : List Value).toArray s 0 0 (fun q => b0 ≤ q)) 4 Mi n 0 0 12 [some (.ref o), some (.int x), some (.int (nI le.length)), some (.int (nI i))] [] := by
    intro z
    induction z with
    | zero =>
      intro i Mi gt gk gv hz hraw hpt hre hfr
      refine j_iload_n X 3 dX0_dropBelow_12 rfl rfl ?_
      refine j_iload_n X 2 dX0_dropBelow_13 rfl rfl ?_
      refine j_icmp_ge X 55 dX0_dropBelow_14 (by decide) (fun c80 => ?_) (fun c80 => ?_)
      · skip
        exact j_vret X hlk hr (by omega) (by omega) dX0_dropBelow_55 ⟨rfl, rfl, by rw [← List.take_length (l := le), ← show i = le.length by omega]; exact ⟨gt, gk, gv, hraw.1, hraw.2.1, hraw.2.2.1, hraw.2.2.2, Nat.le_trans (List.length_filter_le _ _) (by rw [List.length_take]; omega), hpt⟩, hfr⟩
      · skip
        exact absurd (nI_le (show le.length ≤ i by omega) (by omega)) c80
    | succ z ih =>
      intro i Mi gt gk gv hz hraw hpt hre hfr
      have hi := hl i (show i < le.length by omega)
      have hft := filter_take (p := (fun e : Ev => decide (x ≤ e.1))) hi
      have hkl : ((le.take i).filter (fun e : Ev => decide (x ≤ e.1))).length ≤ i := Nat.le_trans (List.length_filter_le _ _) (by rw [List.length_take]; omega)
      generalize hK : ((le.take i).filter (fun e : Ev => decide (x ≤ e.1))) = lk at hraw hpt hft hkl
      generalize hk : lk.length = k at hraw hpt hkl
      obtain ⟨e1, e2, e3⟩ := hre i (Nat.le_refl i)
      obtain ⟨h0, h1, h2, h3⟩ := id hraw
      refine j_iload_n X 3 dX0_dropBelow_12 rfl rfl ?_
      refine j_iload_n X 2 dX0_dropBelow_13 rfl rfl ?_
      refine j_icmp_ge X 55 dX0_dropBelow_14 (by decide) (fun c81 => ?_) (fun c81 => ?_)
      · skip
        exact absurd c81 (nI_ge (show i < le.length by omega) (by omega))
      · skip
        refine j_aload_n X 0 dX0_dropBelow_17 rfl rfl ?_
        refine j_get X h0 rfl iwX0_dropBelow_X0 0 (by decide) lkX0_dropBelow_9 rfl dX0_dropBelow_18 ?_
        refine j_iload_n X 3 dX0_dropBelow_21 rfl rfl ?_
        refine j_iald X h1 hI (vp_in_nI (show i < 200 by omega) (by decide)) (v := gt i) (congrArg gt (nI_clamp (show i < 2 ^ 31 by omega))) dX0_dropBelow_22 ?_
        refine j_iload_n X 1 dX0_dropBelow_23 rfl rfl ?_
        refine j_icmp_lt X 49 dX0_dropBelow_24 (by decide) (fun c82 => ?_) (fun c82 => ?_)
        · skip
          refine j_iinc X dX0_dropBelow_49 rfl (v := nI (i + 1)) (nI_1 _) (by decide) rfl (L' := [some (.ref o), some (.int x), some (.int (nI le.length)), some (.int (nI (i + 1)))]) rfl ?_
          refine j_goto X 12 dX0_dropBelow_52 (by decide) ?_
          rw [if_neg (by simp only [decide_eq_true_eq]; rw [← e1]; exact Int32.not_le.mpr c82), List.append_nil] at hft
          exact ih (i + 1) Mi gt gk gv (by omega) (by rw [hft, hk]; exact hraw) (by rw [hft, hk]; exact hpt) (fun j hj => hre j (by omega)) hfr
        · skip
          refine j_aload_n X 0 dX0_dropBelow_27 rfl rfl ?_
          refine j_aload_n X 0 dX0_dropBelow_28 rfl rfl ?_
          refine j_get X h0 rfl iwX0_dropBelow_X0 0 (by decide) lkX0_dropBelow_9 rfl dX0_dropBelow_29 ?_
          refine j_iload_n X 3 dX0_dropBelow_32 rfl rfl ?_
          refine j_iald X h1 hI (vp_in_nI (show i < 200 by omega) (by decide)) (v := gt i) (congrArg gt (nI_clamp (show i < 2 ^ 31 by omega))) dX0_dropBelow_33 ?_
          refine j_aload_n X 0 dX0_dropBelow_34 rfl rfl ?_
          refine j_get X h0 rfl iwX0_dropBelow_X0 1 (by decide) lkX0_dropBelow_15 rfl dX0_dropBelow_35 ?_
          refine j_iload_n X 3 dX0_dropBelow_38 rfl rfl ?_
          refine j_iald X h2 hI (vp_in_nI (show i < 200 by omega) (by decide)) (v := gk i) (congrArg gk (nI_clamp (show i < 2 ^ 31 by omega))) dX0_dropBelow_39 ?_
          refine j_aload_n X 0 dX0_dropBelow_40 rfl rfl ?_
          refine j_get X h0 rfl iwX0_dropBelow_X0 2 (by decide) lkX0_dropBelow_18 rfl dX0_dropBelow_41 ?_
          refine j_iload_n X 3 dX0_dropBelow_44 rfl rfl ?_
          refine j_iald X h3 hI (vp_in_nI (show i < 200 by omega) (by decide)) (v := gv i) (congrArg gv (nI_clamp (show i < 2 ^ 31 by omega))) dX0_dropBelow_45 ?_
          refine j_callV X nwSQ_ok (As := [.int (gt i), .int (gk i), .int (gv i)]) (rest := []) h0 rfl rfl (c_X0_add l D hI b0 hraw (show k < 200 by omega) (gt i) (gk i) (gv i)) rfl gX0_dropBelow_X0_add ⟨rfl, ddX0_add⟩ ⟨Nat.le_of_ble_eq_true rfl, Nat.le_of_ble_eq_true rfl⟩ (Nat.le_of_ble_eq_true rfl) rfl dX0_dropBelow_46 ⟨(by show 0 + 0 ≤ 0; omega), (by show 0 + 0 ≤ 0; omega)⟩ (fun r83 M84 n85 hr86 => ?_)
          obtain ⟨rfl, rfl, hra2, hfr2⟩ := hr86
          refine j_st (st := []) rfl ?_
          refine j_iinc X dX0_dropBelow_49 rfl (v := nI (i + 1)) (nI_1 _) (by decide) rfl (L' := [some (.ref o), some (.int x), some (.int (nI le.length)), some (.int (nI (i + 1)))]) rfl ?_
          refine j_goto X 12 dX0_dropBelow_52 (by decide) ?_
          rw [if_pos (by simp only [decide_eq_true_eq]; rw [← e1]; exact Int32.not_lt.mp c82)] at hft
          have hl2 : ((le.take (i + 1)).filter (fun e : Ev => decide (x ≤ e.1))).length = k + 1 := by rw [hft, List.length_append, hk]; rfl
          exact ih (i + 1) M84 (upd gt k (gt i)) (upd gk k (gk i)) (upd gv k (gv i)) (by omega) (by rw [hl2]; exact hra2) (by rw [hft, ← e1, ← e2, ← e3]; subst hk; exact ev_push hpt) (fun j hj => by obtain ⟨g1, g2, g3⟩ := hre j (by omega); have hne : j ≠ k := (by omega); simp only [upd, if_neg hne]; exact ⟨g1, g2, g3⟩) (fun q hq => (hfr2 q hq).trans (hfr q hq))
  refine j_aload_n X 0 dX0_dropBelow_0 rfl rfl ?_
  refine j_get X h0 rfl iwX0_dropBelow_X0 3 (by decide) lkX0_dropBelow_21 rfl dX0_dropBelow_1 ?_
  refine j_istore_n X 2 dX0_dropBelow_4 rfl (by decide) rfl (L' := [some (.ref o), some (.int x), some (.int (nI le.length)), none]) rfl ?_
  refine j_aload_n X 0 dX0_dropBelow_5 rfl rfl ?_
  refine j_iconst X dX0_dropBelow_6 (v := 0) (by decide) ?_
  refine j_put X h0 rfl iwX0_dropBelow_X0 tyX0 tyX0_ok nmX0 3 (by decide) lkX0_dropBelow_21 rfl rfl rfl (Nat.le_of_ble_eq_true rfl) (fs' := [.ref (o + 1), .ref (o + 2), .ref (o + 3), .int 0]) rfl dX0_dropBelow_7 ?_
  generalize eM87 : j_up M o (.inr (0, [.ref (o + 1), .ref (o + 2), .ref (o + 3), .int 0])) = M87
  have h89 : M87 (o + 1) = some (.inl (0, 200, .inl ft)) := by rw [← eM87, j_up_ne _ _ (by omega)]; exact h1
  have h90 : M87 (o + 2) = some (.inl (0, 200, .inl fk)) := by rw [← eM87, j_up_ne _ _ (by omega)]; exact h2
  have h91 : M87 (o + 3) = some (.inl (0, 200, .inl fv)) := by rw [← eM87, j_up_ne _ _ (by omega)]; exact h3
  have h92 : M87 o = some (.inr (0, [.ref (o + 1), .ref (o + 2), .ref (o + 3), .int 0])) := by rw [← eM87]; exact j_up_self _ _ _
  refine j_iconst X dX0_dropBelow_10 (v := 0) (by decide) ?_
  refine j_istore_n X 3 dX0_dropBelow_11 rfl (by decide) rfl (L' := [some (.ref o), some (.int x), some (.int (nI le.length)), some (.int 0)]) rfl ?_
  exact loop le.length 0 M87 ft fk fv (by omega) ⟨h92, h89, h90, h91⟩ (fun j hj => absurd hj (Nat.not_lt_zero j)) (fun j _ => ⟨rfl, rfl, rfl⟩) (fun q hq => by rw [← eM87, j_up_ne _ _ (by omega)])
-- Events(): its three rows come behind it
set_option maxHeartbeats 800000 in
set_option maxRecDepth 100000 in
theorem c_X0_init (l : Launch) (D : va_G) {ty : jT} {cA : ClassId} (hI : ty[0]? = some (cA, .int)) (b0 : Nat) {M : jM} {n o : Nat} (hn : n = o + 1) (h0 : M o = some (.inr (0, [.null, .null, .null, .int 0]))) : Ct l D ty vwCl nwSQ b0 yX0_init wsX0_init 1 20 3 600 [.ref o] M (o + 1) (fun r M' n' => r = none ∧ n' = o + 4 ∧ EvAt M' o [] ∧ ∀ q, (q < o ∨ o + 3 < q) → M' q = M q) := by
  subst hn
  refine j_start (cc := cX0_init) (maxL := 1) (ret := none) (by decide) rfl [some (.ref o)] (Nat.le_of_ble_eq_true rfl) rfl ?_
  intro p e s m below meth c X hlk hr hnm
  refine j_aload_n X 0 dX0_init_0 rfl rfl ?_
  refine j_objInit X wdX0_init_oi3 wdX0_init_oj wdX0_init_ok dX0_init_1 (Nat.le_of_ble_eq_true rfl) (Nat.le_of_ble_eq_true rfl) ?_
  refine j_aload_n X 0 dX0_init_4 rfl rfl ?_
  refine j_sipush X dX0_init_5 (v := 200) (by decide) ?_
  refine j_newaI X hI wdX0_init_ai (N := 200) (by decide) (by decide) (by decide) (by decide) (by decide) dX0_init_8 ?_
  generalize eM93 : j_up M (o + 1) (.inl (0, 200, .inl (fun _ => 0))) = M93
  have h94 : M93 o = some (.inr (0, [.null, .null, .null, .int 0])) := by rw [← eM93, j_up_ne _ _ (by omega)]; exact h0
  have h95 : M93 (o + 1) = some (.inl (0, 200, .inl (fun _ => 0))) := by rw [← eM93]; exact j_up_self _ _ _
  refine j_putF X h94 rfl iwX0_init_X0 tyX0 tyX0_ok nmX0 0 (by decide) lkX0_init_9 rfl hnm rfl rfl rfl (Nat.le_of_ble_eq_true rfl) (fs' := [.ref (o + 1), .null, .null, .int 0]) rfl dX0_init_10 ?_
  generalize eM96 : j_up M93 o (.inr (0, [.ref (o + 1), .null, .null, .int 0])) = M96
  have h98 : M96 (o + 1) = some (.inl (0, 200, .inl (fun _ => 0))) := by rw [← eM96, j_up_ne _ _ (by omega)]; exact h95
  have h99 : M96 o = some (.inr (0, [.ref (o + 1), .null, .null, .int 0])) := by rw [← eM96]; exact j_up_self _ _ _
  refine j_aload_n X 0 dX0_init_13 rfl rfl ?_
  refine j_sipush X dX0_init_14 (v := 200) (by decide) ?_
  refine j_newaI X hI wdX0_init_ai (N := 200) (by decide) (by decide) (by decide) (by decide) (by decide) dX0_init_17 ?_
  generalize eM100 : j_up M96 (o + 2) (.inl (0, 200, .inl (fun _ => 0))) = M100
  have h101 : M100 (o + 1) = some (.inl (0, 200, .inl (fun _ => 0))) := by rw [← eM100, j_up_ne _ _ (by omega)]; exact h98
  have h102 : M100 o = some (.inr (0, [.ref (o + 1), .null, .null, .int 0])) := by rw [← eM100, j_up_ne _ _ (by omega)]; exact h99
  have h103 : M100 (o + 2) = some (.inl (0, 200, .inl (fun _ => 0))) := by rw [← eM100]; exact j_up_self _ _ _
  refine j_putF X h102 rfl iwX0_init_X0 tyX0 tyX0_ok nmX0 1 (by decide) lkX0_init_15 rfl hnm rfl rfl rfl (Nat.le_of_ble_eq_true rfl) (fs' := [.ref (o + 1), .ref (o + 2), .null, .int 0]) rfl dX0_init_19 ?_
  generalize eM104 : j_up M100 o (.inr (0, [.ref (o + 1), .ref (o + 2), .null, .int 0])) = M104
  have h105 : M104 (o + 1) = some (.inl (0, 200, .inl (fun _ => 0))) := by rw [← eM104, j_up_ne _ _ (by omega)]; exact h101
  have h107 : M104 (o + 2) = some (.inl (0, 200, .inl (fun _ => 0))) := by rw [← eM104, j_up_ne _ _ (by omega)]; exact h103
  have h108 : M104 o = some (.inr (0, [.ref (o + 1), .ref (o + 2), .null, .int 0])) := by rw [← eM104]; exact j_up_self _ _ _
  refine j_aload_n X 0 dX0_init_22 rfl rfl ?_
  refine j_sipush X dX0_init_23 (v := 200) (by decide) ?_
  refine j_newaI X hI wdX0_init_ai (N := 200) (by decide) (by decide) (by decide) (by decide) (by decide) dX0_init_26 ?_
  generalize eM109 : j_up M104 (o + 3) (.inl (0, 200, .inl (fun _ => 0))) = M109
  have h110 : M109 (o + 1) = some (.inl (0, 200, .inl (fun _ => 0))) := by rw [← eM109, j_up_ne _ _ (by omega)]; exact h105
  have h111 : M109 (o + 2) = some (.inl (0, 200, .inl (fun _ => 0))) := by rw [← eM109, j_up_ne _ _ (by omega)]; exact h107
  have h112 : M109 o = some (.inr (0, [.ref (o + 1), .ref (o + 2), .null, .int 0])) := by rw [← eM109, j_up_ne _ _ (by omega)]; exact h108
  have h113 : M109 (o + 3) = some (.inl (0, 200, .inl (fun _ => 0))) := by rw [← eM109]; exact j_up_self _ _ _
  refine j_putF X h112 rfl iwX0_init_X0 tyX0 tyX0_ok nmX0 2 (by decide) lkX0_init_18 rfl hnm rfl rfl rfl (Nat.le_of_ble_eq_true rfl) (fs' := [.ref (o + 1), .ref (o + 2), .ref (o + 3), .int 0]) rfl dX0_init_28 ?_
  generalize eM114 : j_up M109 o (.inr (0, [.ref (o + 1), .ref (o + 2), .ref (o + 3), .int 0])) = M114
  have h115 : M114 (o + 1) = some (.inl (0, 200, .inl (fun _ => 0))) := by rw [← eM114, j_up_ne _ _ (by omega)]; exact h110
  have h116 : M114 (o + 2) = some (.inl (0, 200, .inl (fun _ => 0))) := by rw [← eM114, j_up_ne _ _ (by omega)]; exact h111
  have h118 : M114 (o + 3) = some (.inl (0, 200, .inl (fun _ => 0))) := by rw [← eM114, j_up_ne _ _ (by omega)]; exact h113
  have h119 : M114 o = some (.inr (0, [.ref (o + 1), .ref (o + 2), .ref (o + 3), .int 0])) := by rw [← eM114]; exact j_up_self _ _ _
  refine j_aload_n X 0 dX0_init_31 rfl rfl ?_
  refine j_iconst X dX0_init_32 (v := 0) (by decide) ?_
  refine j_put X h119 rfl iwX0_init_X0 tyX0 tyX0_ok nmX0 3 (by decide) lkX0_init_21 rfl rfl rfl (Nat.le_of_ble_eq_true rfl) (fs' := [.ref (o + 1), .ref (o + 2), .ref (o + 3), .int 0]) rfl dX0_init_33 ?_
  generalize eM120 : j_up M114 o (.inr (0, [.ref (o + 1), .ref (o + 2), .ref (o + 3), .int 0])) = M120
  have h121 : M120 (o + 1) = some (.inl (0, 200, .inl (fun _ => 0))) := by rw [← eM120, j_up_ne _ _ (by omega)]; exact h115
  have h122 : M120 (o + 2) = some (.inl (0, 200, .inl (fun _ => 0))) := by rw [← eM120, j_up_ne _ _ (by omega)]; exact h116
  have h123 : M120 (o + 3) = some (.inl (0, 200, .inl (fun _ => 0))) := by rw [← eM120, j_up_ne _ _ (by omega)]; exact h118
  have h125 : M120 o = some (.inr (0, [.ref (o + 1), .ref (o + 2), .ref (o + 3), .int 0])) := by rw [← eM120]; exact j_up_self _ _ _
  exact j_vret X hlk hr (by omega) (by omega) dX0_init_36 ⟨rfl, rfl, ⟨_, _, _, h125, h121, h122, h123, Nat.zero_le _, fun i hi => absurd hi (Nat.not_lt_zero i)⟩, fun q hq => by rw [← eM120, j_up_ne _ _ (by omega), ← eM114, j_up_ne _ _ (by omega), ← eM109, j_up_ne _ _ (by omega), ← eM104, j_up_ne _ _ (by omega), ← eM100, j_up_ne _ _ (by omega), ← eM96, j_up_ne _ _ (by omega), ← eM93, j_up_ne _ _ (by omega)]⟩
end
section
/-! The queue: a ring of rows of six numbers. -/
abbrev Rec : Type := Int32 × Int32 × Int32 × Int32 × Int32 × Int32
def rowAt (arr : Nat → Int32) (r : Nat) : Rec := (arr r, arr (r + 1), arr (r + 2), arr (r + 3), arr (r + 4), arr (r + 5))
def rec_get (rc : Rec) (k : Nat) : Int32 := match k with
  | 0 => rc.1
  | 1 => rc.2.1
  | 2 => rc.2.2.1
  | 3 => rc.2.2.2.1
  | 4 => rc.2.2.2.2.1
  | _ => rc.2.2.2.2.2
def LnAt (M : jM) (o : Nat) (recs : List Rec) : Prop := ∃ (fi : Nat) (arr : Nat → Int32), M o = some (.inr (3, [.ref (o + 1), .int (nI fi), .int (nI recs.length)])) ∧ M (o + 1) = some (.inl (0, 2400, .inl arr)) ∧ fi < 400 ∧ recs.length ≤ 400 ∧ ∀ i, i < recs.length → recs[i]? = some (rowAt arr ((fi + i) % 400 * 6))
theorem LnAt.cell {M : jM} {o : Nat} {l : List Rec} (h : LnAt M o l) : ∃ fi, M o = some (.inr (3, [.ref (o + 1), .int (nI fi), .int (nI l.length)])) := by
  obtain ⟨fi, arr, h0, _⟩ := h
  exact ⟨fi, h0⟩
theorem LnAt.len {M : jM} {o : Nat} {l : List Rec} (h : LnAt M o l) : l.length ≤ 400 := by
  obtain ⟨_, _, _, _, _, h, _⟩ := h
  exact h
theorem LnAt.frame {M M' : jM} {o : Nat} {l : List Rec} (h : LnAt M o l) (hf : ∀ q, o ≤ q → q ≤ o + 1 → M' q = M q) : LnAt M' o l := by
  obtain ⟨fi, arr, h0, h1, h2⟩ := h
  exact ⟨fi, arr, by rw [hf o (by omega) (by omega)]; exact h0, by rw [hf (o + 1) (by omega) (by omega)]; exact h1, h2⟩
theorem ln_row {a : Nat} (h : a < 2 ^ 31) : (nI a - nI a / 400 * 400) * 6 = nI (a % 400 * 6) := by
  have h1 := pk_rem (d := 400) h (by decide) (by decide)
  have h2 : nI 400 = 400 := by decide
  have h3 : nI 6 = 6 := by decide
  rw [h2] at h1
  rw [h1, ← h3, pk_mul]
theorem ln_rem {a : Nat} (h : a < 2 ^ 31) : nI a - nI a / 400 * 400 = nI (a % 400) := by
  have h1 := pk_rem (d := 400) h (by decide) (by decide)
  have h2 : nI 400 = 400 := by decide
  rw [h2] at h1
  exact h1
theorem rowAt_other {arr : Nat → Int32} {r s : Nat} (a b c d e f : Int32) (h : s + 5 < r ∨ r + 5 < s) : rowAt (upd (upd (upd (upd (upd (upd arr r a) (r + 1) b) (r + 2) c) (r + 3) d) (r + 4) e) (r + 5) f) s = rowAt arr s := by
  have hn : ∀ i j, i < 6 → j < 6 → s + i ≠ r + j := fun i j _ _ => by omega
  have h0 := fun j hj => hn 0 j (by omega) hj
  simp only [rowAt, upd]
  refine Prod.ext ?_ (Prod.ext ?_ (Prod.ext ?_ (Prod.ext ?_ (Prod.ext ?_ ?_)))) <;> (repeat rw [if_neg (by omega)])
theorem rowAt_self {arr : Nat → Int32} {r : Nat} (a b c d e f : Int32) : rowAt (upd (upd (upd (upd (upd (upd arr r a) (r + 1) b) (r + 2) c) (r + 3) d) (r + 4) e) (r + 5) f) r = (a, b, c, d, e, f) := by
  simp [rowAt, upd]
theorem ln_push {recs : List Rec} {fi : Nat} {arr : Nat → Int32} (hf : fi < 400) (hl : recs.length < 400) (h : ∀ i, i < recs.length → recs[i]? = some (rowAt arr ((fi + i) % 400 * 6))) (a b c d e f : Int32) {r : Nat} (hr : (fi + recs.length) % 400 * 6 = r) :
    ∀ i, i < (recs ++ [(a, b, c, d, e, f)]).length → (recs ++ [(a, b, c, d, e, f)])[i]? = some (rowAt (upd (upd (upd (upd (upd (upd arr r a) (r + 1) b) (r + 2) c) (r + 3) d) (r + 4) e) (r + 5) f) ((fi + i) % 400 * 6)) := by
  intro i hi
  rw [List.length_append] at hi
  have hi : i < recs.length + 1 := hi
  by_cases h1 : i < recs.length
  · rw [List.getElem?_append_left h1, h i h1, rowAt_other]
    omega
  · have h2 : i = recs.length := by omega
    subst h2
    rw [hr, rowAt_self]
    simp
theorem rec_row (arr : Nat → Int32) (r : Nat) : ∀ k, k < 6 → rec_get (rowAt arr r) k = arr (r + k) := by
  intro k hk
  match k, hk with
  | 0, _ => rfl
  | 1, _ => rfl
  | 2, _ => rfl
  | 3, _ => rfl
  | 4, _ => rfl
  | 5, _ => rfl
end
section
set_option maxRecDepth 20000 in
theorem iwX3_size_X3 : ∀ w ∈ u_ws RX3 TX3 3, w ∈ wsX3_size := by decide +kernel
set_option maxRecDepth 20000 in
theorem lkX3_size_19 : Cond.fieldLink RX3 19 (TX3 2).1 (TX3 2).2.1 (TX3 2).2.2.1 ∈ wsX3_size := by decide +kernel
set_option maxRecDepth 20000 in
theorem iwX3_clear_X3 : ∀ w ∈ u_ws RX3 TX3 3, w ∈ wsX3_clear := by decide +kernel
set_option maxRecDepth 20000 in
theorem lkX3_clear_15 : Cond.fieldLink RX3 15 (TX3 1).1 (TX3 1).2.1 (TX3 1).2.2.1 ∈ wsX3_clear := by decide +kernel
set_option maxRecDepth 20000 in
theorem lkX3_clear_19 : Cond.fieldLink RX3 19 (TX3 2).1 (TX3 2).2.1 (TX3 2).2.2.1 ∈ wsX3_clear := by decide +kernel
set_option maxRecDepth 20000 in
theorem wdX3_init_oi3 : Cond.methodLink RX3 3 objectInit ∈ wsX3_init := by decide +kernel
set_option maxRecDepth 20000 in
theorem wdX3_init_oj : Cond.instanceMethod objectInit ∈ wsX3_init := by decide +kernel
set_option maxRecDepth 20000 in
theorem wdX3_init_ok : Cond.code objectInit ⟨#[0xb1]⟩ 1 none ∈ wsX3_init := by decide +kernel
set_option maxRecDepth 20000 in
theorem wdX3_init_ai : Cond.arrayClass .int ∈ wsX3_init := by decide +kernel
set_option maxRecDepth 20000 in
theorem iwX3_init_X3 : ∀ w ∈ u_ws RX3 TX3 3, w ∈ wsX3_init := by decide +kernel
set_option maxRecDepth 20000 in
theorem lkX3_init_11 : Cond.fieldLink RX3 11 (TX3 0).1 (TX3 0).2.1 (TX3 0).2.2.1 ∈ wsX3_init := by decide +kernel
set_option maxRecDepth 20000 in
theorem lkX3_init_15 : Cond.fieldLink RX3 15 (TX3 1).1 (TX3 1).2.1 (TX3 1).2.2.1 ∈ wsX3_init := by decide +kernel
set_option maxRecDepth 20000 in
theorem lkX3_init_19 : Cond.fieldLink RX3 19 (TX3 2).1 (TX3 2).2.1 (TX3 2).2.2.1 ∈ wsX3_init := by decide +kernel
set_option maxRecDepth 20000 in
theorem iwX3_rowOf_X3 : ∀ w ∈ u_ws RX3 TX3 3, w ∈ wsX3_rowOf := by decide +kernel
set_option maxRecDepth 20000 in
theorem lkX3_rowOf_15 : Cond.fieldLink RX3 15 (TX3 1).1 (TX3 1).2.1 (TX3 1).2.2.1 ∈ wsX3_rowOf := by decide +kernel
set_option maxRecDepth 20000 in
theorem iwX3_add_X3 : ∀ w ∈ u_ws RX3 TX3 3, w ∈ wsX3_add := by decide +kernel
set_option maxRecDepth 20000 in
theorem lkX3_add_19 : Cond.fieldLink RX3 19 (TX3 2).1 (TX3 2).2.1 (TX3 2).2.2.1 ∈ wsX3_add := by decide +kernel
set_option maxRecDepth 20000 in
theorem ddX3_rowOf : yX3_rowOf.cls ≠ "java/lang/invoke/MethodHandle" ∧ yX3_rowOf.cls ≠ "java/lang/invoke/VarHandle" ∧ (parseMethodDescriptor yX3_rowOf.desc).map (fun d => d.parameters.length) = some 1 := by decide +kernel
set_option maxRecDepth 20000 in
theorem lkX3_add_11 : Cond.fieldLink RX3 11 (TX3 0).1 (TX3 0).2.1 (TX3 0).2.2.1 ∈ wsX3_add := by decide +kernel
set_option maxRecDepth 20000 in
theorem iwX3_cell_X3 : ∀ w ∈ u_ws RX3 TX3 3, w ∈ wsX3_cell := by decide +kernel
set_option maxRecDepth 20000 in
theorem lkX3_cell_19 : Cond.fieldLink RX3 19 (TX3 2).1 (TX3 2).2.1 (TX3 2).2.2.1 ∈ wsX3_cell := by decide +kernel
set_option maxRecDepth 20000 in
theorem ddX4_isWithin : yX4_isWithin.cls ≠ "java/lang/invoke/MethodHandle" ∧ yX4_isWithin.cls ≠ "java/lang/invoke/VarHandle" ∧ (parseMethodDescriptor yX4_isWithin.desc).map (fun d => d.parameters.length) = some 3 := by decide +kernel
set_option maxRecDepth 20000 in
theorem wdX3_cell_inX4 : Cond.initialized RX4 ∈ wsX3_cell := by decide +kernel
set_option maxRecDepth 20000 in
theorem nlX3_22 : Cond.methodLinkNest RX3 22 yX4_isWithin "StreamQuery" ∈ nwSQ := by decide +kernel
set_option maxRecDepth 20000 in
theorem wdX3_cell_stX4_isWithin : Cond.static yX4_isWithin ∈ wsX3_cell := by decide +kernel
set_option maxRecDepth 20000 in
theorem lkX3_cell_11 : Cond.fieldLink RX3 11 (TX3 0).1 (TX3 0).2.1 (TX3 0).2.2.1 ∈ wsX3_cell := by decide +kernel
set_option maxRecDepth 20000 in
theorem iwX3_dropFirst_X3 : ∀ w ∈ u_ws RX3 TX3 3, w ∈ wsX3_dropFirst := by decide +kernel
set_option maxRecDepth 20000 in
theorem lkX3_dropFirst_19 : Cond.fieldLink RX3 19 (TX3 2).1 (TX3 2).2.1 (TX3 2).2.2.1 ∈ wsX3_dropFirst := by decide +kernel
set_option maxRecDepth 20000 in
theorem lkX3_dropFirst_15 : Cond.fieldLink RX3 15 (TX3 1).1 (TX3 1).2.1 (TX3 1).2.2.1 ∈ wsX3_dropFirst := by decide +kernel
end
section
set_option maxHeartbeats 800000 in
set_option maxRecDepth 100000 in
theorem c_X4_isWithin (l : Launch) (D : va_G) {ty : jT} {cA : ClassId} (hI : ty[0]? = some (cA, .int)) (b0 : Nat) {M : jM} {n : Nat} (x a b : Int32) : Ct l D ty vwCl nwSQ b0 yX4_isWithin wsX4_isWithin 0 0 0 0 [.int x, .int a, .int b] M n (j_rd (.int (if a ≤ x ∧ x ≤ b then 1 else 0)) M n) := by
  refine j_start (cc := cX4_isWithin) (maxL := 3) (ret := (some .boolean)) (by decide) rfl [some (.int x), some (.int a), some (.int b)] (Nat.le_of_ble_eq_true rfl) rfl ?_
  intro p e s m below meth c X hlk hr hnm
  refine j_iload_n X 1 dX4_isWithin_0 rfl rfl ?_
  refine j_iload_n X 0 dX4_isWithin_1 rfl rfl ?_
  refine j_icmp_gt X 14 dX4_isWithin_2 (by decide) (fun c1 => ?_) (fun c1 => ?_)
  · skip
    refine j_iconst X dX4_isWithin_14 (v := 0) (by decide) ?_
    exact j_zret X hlk hr (by omega) (by omega) (by decide) dX4_isWithin_15 ⟨by rw [if_neg (fun h => absurd c1 (Int32.not_lt.mpr h.1))], rfl, rfl⟩
  · skip
    refine j_iload_n X 0 dX4_isWithin_5 rfl rfl ?_
    refine j_iload_n X 2 dX4_isWithin_6 rfl rfl ?_
    refine j_icmp_gt X 14 dX4_isWithin_7 (by decide) (fun c2 => ?_) (fun c2 => ?_)
    · skip
      refine j_iconst X dX4_isWithin_14 (v := 0) (by decide) ?_
      exact j_zret X hlk hr (by omega) (by omega) (by decide) dX4_isWithin_15 ⟨by rw [if_neg (fun h => absurd c2 (Int32.not_lt.mpr h.2))], rfl, rfl⟩
    · skip
      refine j_iconst X dX4_isWithin_10 (v := 1) (by decide) ?_
      refine j_goto X 15 dX4_isWithin_11 (by decide) ?_
      exact j_zret X hlk hr (by omega) (by omega) (by decide) dX4_isWithin_15 ⟨by rw [if_pos ⟨Int32.not_lt.mp c1, Int32.not_lt.mp c2⟩], rfl, rfl⟩
set_option maxHeartbeats 800000 in
set_option maxRecDepth 100000 in
theorem c_X3_size (l : Launch) (D : va_G) {ty : jT} {cA : ClassId} (hI : ty[0]? = some (cA, .int)) (b0 : Nat) {M : jM} {n o : Nat} {re : List Rec} (h : LnAt M o re) : Ct l D ty vwCl nwSQ b0 yX3_size wsX3_size 0 0 0 0 [.ref o] M n (j_rd (.int (nI re.length)) M n) := by
  obtain ⟨fi, arr, h0, h1, hfi, hlen, hl⟩ := id h
  refine j_start (cc := cX3_size) (maxL := 1) (ret := (some .int)) (by decide) rfl [some (.ref o)] (Nat.le_of_ble_eq_true rfl) rfl ?_
  intro p e s m below meth c X hlk hr hnm
  refine j_aload_n X 0 dX3_size_0 rfl rfl ?_
  refine j_get X h0 rfl iwX3_size_X3 2 (by decide) lkX3_size_19 rfl dX3_size_1 ?_
  exact j_iret X hlk hr (by omega) (by omega) dX3_size_4 ⟨rfl, rfl, rfl⟩
set_option maxHeartbeats 800000 in
set_option maxRecDepth 100000 in
theorem c_X3_clear (l : Launch) (D : va_G) {ty : jT} {cA : ClassId} (hI : ty[0]? = some (cA, .int)) (b0 : Nat) {M : jM} {n o : Nat} {re : List Rec} (h : LnAt M o re) : Ct l D ty vwCl nwSQ b0 yX3_clear wsX3_clear 0 0 0 0 [.ref o] M n (fun r M' n' => r = none ∧ n = n' ∧ LnAt M' o [] ∧ ∀ q, (q < o ∨ o + 1 < q) → M' q = M q) := by
  obtain ⟨fi, arr, h0, h1, hfi, hlen, hl⟩ := id h
  refine j_start (cc := cX3_clear) (maxL := 1) (ret := none) (by decide) rfl [some (.ref o)] (Nat.le_of_ble_eq_true rfl) rfl ?_
  intro p e s m below meth c X hlk hr hnm
  refine j_aload_n X 0 dX3_clear_0 rfl rfl ?_
  refine j_iconst X dX3_clear_1 (v := 0) (by decide) ?_
  refine j_put X h0 rfl iwX3_clear_X3 tyX3 tyX3_ok nmX3 1 (by decide) lkX3_clear_15 rfl rfl rfl (Nat.le_of_ble_eq_true rfl) (fs' := [.ref (o + 1), .int 0, .int (nI re.length)]) rfl dX3_clear_2 ?_
  generalize eM3 : j_up M o (.inr (3, [.ref (o + 1), .int 0, .int (nI re.length)])) = M3
  have h5 : M3 (o + 1) = some (.inl (0, 2400, .inl arr)) := by rw [← eM3, j_up_ne _ _ (by omega)]; exact h1
  have h6 : M3 o = some (.inr (3, [.ref (o + 1), .int 0, .int (nI re.length)])) := by rw [← eM3]; exact j_up_self _ _ _
  refine j_aload_n X 0 dX3_clear_5 rfl rfl ?_
  refine j_iconst X dX3_clear_6 (v := 0) (by decide) ?_
  refine j_put X h6 rfl iwX3_clear_X3 tyX3 tyX3_ok nmX3 2 (by decide) lkX3_clear_19 rfl rfl rfl (Nat.le_of_ble_eq_true rfl) (fs' := [.ref (o + 1), .int 0, .int 0]) rfl dX3_clear_7 ?_
  generalize eM7 : j_up M3 o (.inr (3, [.ref (o + 1), .int 0, .int 0])) = M7
  have h8 : M7 (o + 1) = some (.inl (0, 2400, .inl arr)) := by rw [← eM7, j_up_ne _ _ (by omega)]; exact h5
  have h10 : M7 o = some (.inr (3, [.ref (o + 1), .int 0, .int 0])) := by rw [← eM7]; exact j_up_self _ _ _
  exact j_vret X hlk hr (by omega) (by omega) dX3_clear_10 ⟨rfl, rfl, ⟨0, arr, h10, h8, by decide, Nat.zero_le _, fun i hi => absurd hi (Nat.not_lt_zero i)⟩, fun q hq => by rw [← eM7, j_up_ne _ _ (by omega), ← eM3, j_up_ne _ _ (by omega)]⟩
set_option maxHeartbeats 800000 in
set_option maxRecDepth 100000 in
theorem c_X3_init (l : Launch) (D : va_G) {ty : jT} {cA : ClassId} (hI : ty[0]? = some (cA, .int)) (b0 : Nat) {M : jM} {n o : Nat} (hn : n = o + 1) (h0 : M o = some (.inr (3, [.null, .int 0, .int 0]))) : Ct l D ty vwCl nwSQ b0 yX3_init wsX3_init 1 20 1 2400 [.ref o] M (o + 1) (fun r M' n' => r = none ∧ n' = o + 2 ∧ LnAt M' o [] ∧ ∀ q, (q < o ∨ o + 1 < q) → M' q = M q) := by
  subst hn
  refine j_start (cc := cX3_init) (maxL := 1) (ret := none) (by decide) rfl [some (.ref o)] (Nat.le_of_ble_eq_true rfl) rfl ?_
  intro p e s m below meth c X hlk hr hnm
  refine j_aload_n X 0 dX3_init_0 rfl rfl ?_
  refine j_objInit X wdX3_init_oi3 wdX3_init_oj wdX3_init_ok dX3_init_1 (Nat.le_of_ble_eq_true rfl) (Nat.le_of_ble_eq_true rfl) ?_
  refine j_aload_n X 0 dX3_init_4 rfl rfl ?_
  refine j_sipush X dX3_init_5 (v := 2400) (by decide) ?_
  refine j_newaI X hI wdX3_init_ai (N := 2400) (by decide) (by decide) (by decide) (by decide) (by decide) dX3_init_8 ?_
  generalize eM11 : j_up M (o + 1) (.inl (0, 2400, .inl (fun _ => 0))) = M11
  have h12 : M11 o = some (.inr (3, [.null, .int 0, .int 0])) := by rw [← eM11, j_up_ne _ _ (by omega)]; exact h0
  have h13 : M11 (o + 1) = some (.inl (0, 2400, .inl (fun _ => 0))) := by rw [← eM11]; exact j_up_self _ _ _
  refine j_putF X h12 rfl iwX3_init_X3 tyX3 tyX3_ok nmX3 0 (by decide) lkX3_init_11 rfl hnm rfl rfl rfl (Nat.le_of_ble_eq_true rfl) (fs' := [.ref (o + 1), .int 0, .int 0]) rfl dX3_init_10 ?_
  generalize eM14 : j_up M11 o (.inr (3, [.ref (o + 1), .int 0, .int 0])) = M14
  have h16 : M14 (o + 1) = some (.inl (0, 2400, .inl (fun _ => 0))) := by rw [← eM14, j_up_ne _ _ (by omega)]; exact h13
  have h17 : M14 o = some (.inr (3, [.ref (o + 1), .int 0, .int 0])) := by rw [← eM14]; exact j_up_self _ _ _
  refine j_aload_n X 0 dX3_init_13 rfl rfl ?_
  refine j_iconst X dX3_init_14 (v := 0) (by decide) ?_
  refine j_put X h17 rfl iwX3_init_X3 tyX3 tyX3_ok nmX3 1 (by decide) lkX3_init_15 rfl rfl rfl (Nat.le_of_ble_eq_true rfl) (fs' := [.ref (o + 1), .int 0, .int 0]) rfl dX3_init_15 ?_
  generalize eM18 : j_up M14 o (.inr (3, [.ref (o + 1), .int 0, .int 0])) = M18
  have h19 : M18 (o + 1) = some (.inl (0, 2400, .inl (fun _ => 0))) := by rw [← eM18, j_up_ne _ _ (by omega)]; exact h16
  have h21 : M18 o = some (.inr (3, [.ref (o + 1), .int 0, .int 0])) := by rw [← eM18]; exact j_up_self _ _ _
  refine j_aload_n X 0 dX3_init_18 rfl rfl ?_
  refine j_iconst X dX3_init_19 (v := 0) (by decide) ?_
  refine j_put X h21 rfl iwX3_init_X3 tyX3 tyX3_ok nmX3 2 (by decide) lkX3_init_19 rfl rfl rfl (Nat.le_of_ble_eq_true rfl) (fs' := [.ref (o + 1), .int 0, .int 0]) rfl dX3_init_20 ?_
  generalize eM22 : j_up M18 o (.inr (3, [.ref (o + 1), .int 0, .int 0])) = M22
  have h23 : M22 (o + 1) = some (.inl (0, 2400, .inl (fun _ => 0))) := by rw [← eM22, j_up_ne _ _ (by omega)]; exact h19
  have h25 : M22 o = some (.inr (3, [.ref (o + 1), .int 0, .int 0])) := by rw [← eM22]; exact j_up_self _ _ _
  exact j_vret X hlk hr (by omega) (by omega) dX3_init_23 ⟨rfl, rfl, ⟨0, _, h25, h23, by decide, Nat.zero_le _, fun i hi => absurd hi (Nat.not_lt_zero i)⟩, fun q hq => by rw [← eM22, j_up_ne _ _ (by omega), ← eM18, j_up_ne _ _ (by omega), ← eM14, j_up_ne _ _ (by omega), ← eM11, j_up_ne _ _ (by omega)]⟩
set_option maxHeartbeats 800000 in
set_option maxRecDepth 100000 in
theorem c_X3_rowOf (l : Launch) (D : va_G) {ty : jT} {cA : ClassId} (hI : ty[0]? = some (cA, .int)) (b0 : Nat) {M : jM} {n o fi z : Nat} (h0 : M o = some (.inr (3, [.ref (o + 1), .int (nI fi), .int (nI z)]))) (hfi : fi < 400) {j : Nat} (hj : j ≤ 400) : Ct l D ty vwCl nwSQ b0 yX3_rowOf wsX3_rowOf 0 0 0 0 [.ref o, .int (nI j)] M n (j_rd (.int (nI ((fi + j) % 400 * 6))) M n) := by
  refine j_start (cc := cX3_rowOf) (maxL := 2) (ret := (some .int)) (by decide) rfl [some (.ref o), some (.int (nI j))] (Nat.le_of_ble_eq_true rfl) rfl ?_
  intro p e s m below meth c X hlk hr hnm
  refine j_aload_n X 0 dX3_rowOf_0 rfl rfl ?_
  refine j_get X h0 rfl iwX3_rowOf_X3 1 (by decide) lkX3_rowOf_15 rfl dX3_rowOf_1 ?_
  refine j_iload_n X 1 dX3_rowOf_4 rfl rfl ?_
  refine j_iadd X dX3_rowOf_5 ?_
  refine j_st (st := [.int (nI (fi + j))]) (by rw [show (nI fi) + (nI j) = nI (fi + j) from nI_add _ _]) ?_
  refine j_sipush X dX3_rowOf_6 (v := 400) (by decide) ?_
  refine j_irem X dX3_rowOf_9 (by decide) ?_
  refine j_bipush X dX3_rowOf_10 (v := 6) (by decide) ?_
  refine j_imul X dX3_rowOf_12 ?_
  exact j_iret X hlk hr (by omega) (by omega) dX3_rowOf_13 ⟨congrArg (fun x => some (Value.int x)) (ln_row (show fi + j < 2 ^ 31 by omega)), rfl, rfl⟩
set_option maxHeartbeats 800000 in
set_option maxRecDepth 100000 in
theorem c_X3_add (l : Launch) (D : va_G) {ty : jT} {cA : ClassId} (hI : ty[0]? = some (cA, .int)) (b0 : Nat) {M : jM} {n o : Nat} {re : List Rec} (h : LnAt M o re) (hlt : re.length < 400) (a0 a1 a2 a3 a4 a5 : Int32) : Ct l D ty vwCl nwSQ b0 yX3_add wsX3_add 1 21 0 0 [.ref o, .int a0, .int a1, .int a2, .int a3, .int a4, .int a5] M n (fun r M' n' => r = none ∧ n = n' ∧ LnAt M' o (re ++ [(a0, a1, a2, a3, a4, a5)]) ∧ ∀ q, (q < o ∨ o + 1 < q) → M' q = M q) := by
  obtain ⟨fi, arr, h0, h1, hfi, hlen, hl⟩ := id h
  refine j_start (cc := cX3_add) (maxL := 8) (ret := none) (by decide) rfl [some (.ref o), some (.int a0), some (.int a1), some (.int a2), some (.int a3), some (.int a4), some (.int a5), none] (Nat.le_of_ble_eq_true rfl) rfl ?_
  intro p e s m below meth c X hlk hr hnm
  refine j_aload_n X 0 dX3_add_0 rfl rfl ?_
  refine j_get X h0 rfl iwX3_add_X3 2 (by decide) lkX3_add_19 rfl dX3_add_1 ?_
  refine j_sipush X dX3_add_4 (v := 400) (by decide) ?_
  refine j_icmp_lt X 11 dX3_add_7 (by decide) (fun c26 => ?_) (fun c26 => ?_)
  · skip
    refine j_aload_n X 0 dX3_add_11 rfl rfl ?_
    refine j_aload_n X 0 dX3_add_12 rfl rfl ?_
    refine j_get X h0 rfl iwX3_add_X3 2 (by decide) lkX3_add_19 rfl dX3_add_13 ?_
    refine j_callV X nwSQ_ok (As := [.int (nI re.length)]) (rest := []) h0 rfl rfl (c_X3_rowOf l D hI b0 h0 hfi (j := re.length) (by omega)) rfl gX3_add_X3_rowOf ⟨rfl, ddX3_rowOf⟩ ⟨Nat.le_of_ble_eq_true rfl, Nat.le_of_ble_eq_true rfl⟩ (Nat.le_of_ble_eq_true rfl) rfl dX3_add_16 ⟨(by show 0 + 0 ≤ 0; omega), (by show 0 + 0 ≤ 0; omega)⟩ (fun r27 M28 n29 hr30 => ?_)
    obtain ⟨rfl, rfl, rfl⟩ := hr30
    generalize hrw : (fi + re.length) % 400 * 6 = row
    have hr5 : row + 5 < 2400 := by omega
    refine j_st (st := [.int (nI row)]) rfl ?_
    refine j_istore X dX3_add_19 (by decide) rfl (L' := [some (.ref o), some (.int a0), some (.int a1), some (.int a2), some (.int a3), some (.int a4), some (.int a5), some (.int (nI row))]) rfl ?_
    refine j_aload_n X 0 dX3_add_21 rfl rfl ?_
    refine j_get X h0 rfl iwX3_add_X3 0 (by decide) lkX3_add_11 rfl dX3_add_22 ?_
    refine j_iload X dX3_add_25 rfl ?_
    refine j_iload_n X 1 dX3_add_27 rfl rfl ?_
    refine j_iast X h1 hI (vp_in_nI (show row < 2400 by omega) (by decide)) dX3_add_28 ?_
    rw [nI_clamp (show row < 2 ^ 31 by omega)]
    generalize eM31 : j_up M (o + 1) (.inl (0, 2400, .inl (upd arr row a0))) = M31
    have h32 : M31 o = some (.inr (3, [.ref (o + 1), .int (nI fi), .int (nI re.length)])) := by rw [← eM31, j_up_ne _ _ (by omega)]; exact h0
    have h34 : M31 (o + 1) = some (.inl (0, 2400, .inl (upd arr row a0))) := by rw [← eM31]; exact j_up_self _ _ _
    refine j_aload_n X 0 dX3_add_29 rfl rfl ?_
    refine j_get X h32 rfl iwX3_add_X3 0 (by decide) lkX3_add_11 rfl dX3_add_30 ?_
    refine j_iload X dX3_add_33 rfl ?_
    refine j_iconst X dX3_add_35 (v := 1) (by decide) ?_
    refine j_iadd X dX3_add_36 ?_
    refine j_st (st := [.int (nI (row + 1)), .ref (o + 1)]) (by rw [show (nI row) + 1 = nI (row + 1) from nI_add _ 1]) ?_
    refine j_iload_n X 2 dX3_add_37 rfl rfl ?_
    refine j_iast X h34 hI (vp_in_nI (show row + 1 < 2400 by omega) (by decide)) dX3_add_38 ?_
    rw [nI_clamp (show row + 1 < 2 ^ 31 by omega)]
    generalize eM35 : j_up M31 (o + 1) (.inl (0, 2400, .inl (upd (upd arr row a0) (row + 1) a1))) = M35
    have h36 : M35 o = some (.inr (3, [.ref (o + 1), .int (nI fi), .int (nI re.length)])) := by rw [← eM35, j_up_ne _ _ (by omega)]; exact h32
    have h38 : M35 (o + 1) = some (.inl (0, 2400, .inl (upd (upd arr row a0) (row + 1) a1))) := by rw [← eM35]; exact j_up_self _ _ _
    refine j_aload_n X 0 dX3_add_39 rfl rfl ?_
    refine j_get X h36 rfl iwX3_add_X3 0 (by decide) lkX3_add_11 rfl dX3_add_40 ?_
    refine j_iload X dX3_add_43 rfl ?_
    refine j_iconst X dX3_add_45 (v := 2) (by decide) ?_
    refine j_iadd X dX3_add_46 ?_
    refine j_st (st := [.int (nI (row + 2)), .ref (o + 1)]) (by rw [show (nI row) + 2 = nI (row + 2) from nI_add _ 2]) ?_
    refine j_iload_n X 3 dX3_add_47 rfl rfl ?_
    refine j_iast X h38 hI (vp_in_nI (show row + 2 < 2400 by omega) (by decide)) dX3_add_48 ?_
    rw [nI_clamp (show row + 2 < 2 ^ 31 by omega)]
    generalize eM39 : j_up M35 (o + 1) (.inl (0, 2400, .inl (upd (upd (upd arr row a0) (row + 1) a1) (row + 2) a2))) = M39
    have h40 : M39 o = some (.inr (3, [.ref (o + 1), .int (nI fi), .int (nI re.length)])) := by rw [← eM39, j_up_ne _ _ (by omega)]; exact h36
    have h42 : M39 (o + 1) = some (.inl (0, 2400, .inl (upd (upd (upd arr row a0) (row + 1) a1) (row + 2) a2))) := by rw [← eM39]; exact j_up_self _ _ _
    refine j_aload_n X 0 dX3_add_49 rfl rfl ?_
    refine j_get X h40 rfl iwX3_add_X3 0 (by decide) lkX3_add_11 rfl dX3_add_50 ?_
    refine j_iload X dX3_add_53 rfl ?_
    refine j_iconst X dX3_add_55 (v := 3) (by decide) ?_
    refine j_iadd X dX3_add_56 ?_
    refine j_st (st := [.int (nI (row + 3)), .ref (o + 1)]) (by rw [show (nI row) + 3 = nI (row + 3) from nI_add _ 3]) ?_
    refine j_iload X dX3_add_57 rfl ?_
    refine j_iast X h42 hI (vp_in_nI (show row + 3 < 2400 by omega) (by decide)) dX3_add_59 ?_
    rw [nI_clamp (show row + 3 < 2 ^ 31 by omega)]
    generalize eM43 : j_up M39 (o + 1) (.inl (0, 2400, .inl (upd (upd (upd (upd arr row a0) (row + 1) a1) (row + 2) a2) (row + 3) a3))) = M43
    have h44 : M43 o = some (.inr (3, [.ref (o + 1), .int (nI fi), .int (nI re.length)])) := by rw [← eM43, j_up_ne _ _ (by omega)]; exact h40
    have h46 : M43 (o + 1) = some (.inl (0, 2400, .inl (upd (upd (upd (upd arr row a0) (row + 1) a1) (row + 2) a2) (row + 3) a3))) := by rw [← eM43]; exact j_up_self _ _ _
    refine j_aload_n X 0 dX3_add_60 rfl rfl ?_
    refine j_get X h44 rfl iwX3_add_X3 0 (by decide) lkX3_add_11 rfl dX3_add_61 ?_
    refine j_iload X dX3_add_64 rfl ?_
    refine j_iconst X dX3_add_66 (v := 4) (by decide) ?_
    refine j_iadd X dX3_add_67 ?_
    refine j_st (st := [.int (nI (row + 4)), .ref (o + 1)]) (by rw [show (nI row) + 4 = nI (row + 4) from nI_add _ 4]) ?_
    refine j_iload X dX3_add_68 rfl ?_
    refine j_iast X h46 hI (vp_in_nI (show row + 4 < 2400 by omega) (by decide)) dX3_add_70 ?_
    rw [nI_clamp (show row + 4 < 2 ^ 31 by omega)]
    generalize eM47 : j_up M43 (o + 1) (.inl (0, 2400, .inl (upd (upd (upd (upd (upd arr row a0) (row + 1) a1) (row + 2) a2) (row + 3) a3) (row + 4) a4))) = M47
    have h48 : M47 o = some (.inr (3, [.ref (o + 1), .int (nI fi), .int (nI re.length)])) := by rw [← eM47, j_up_ne _ _ (by omega)]; exact h44
    have h50 : M47 (o + 1) = some (.inl (0, 2400, .inl (upd (upd (upd (upd (upd arr row a0) (row + 1) a1) (row + 2) a2) (row + 3) a3) (row + 4) a4))) := by rw [← eM47]; exact j_up_self _ _ _
    refine j_aload_n X 0 dX3_add_71 rfl rfl ?_
    refine j_get X h48 rfl iwX3_add_X3 0 (by decide) lkX3_add_11 rfl dX3_add_72 ?_
    refine j_iload X dX3_add_75 rfl ?_
    refine j_iconst X dX3_add_77 (v := 5) (by decide) ?_
    refine j_iadd X dX3_add_78 ?_
    refine j_st (st := [.int (nI (row + 5)), .ref (o + 1)]) (by rw [show (nI row) + 5 = nI (row + 5) from nI_add _ 5]) ?_
    refine j_iload X dX3_add_79 rfl ?_
    refine j_iast X h50 hI (vp_in_nI (show row + 5 < 2400 by omega) (by decide)) dX3_add_81 ?_
    rw [nI_clamp (show row + 5 < 2 ^ 31 by omega)]
    generalize eM51 : j_up M47 (o + 1) (.inl (0, 2400, .inl (upd (upd (upd (upd (upd (upd arr row a0) (row + 1) a1) (row + 2) a2) (row + 3) a3) (row + 4) a4) (row + 5) a5))) = M51
    have h52 : M51 o = some (.inr (3, [.ref (o + 1), .int (nI fi), .int (nI re.length)])) := by rw [← eM51, j_up_ne _ _ (by omega)]; exact h48
    have h54 : M51 (o + 1) = some (.inl (0, 2400, .inl (upd (upd (upd (upd (upd (upd arr row a0) (row + 1) a1) (row + 2) a2) (row + 3) a3) (row + 4) a4) (row + 5) a5))) := by rw [← eM51]; exact j_up_self _ _ _
    refine j_aload_n X 0 dX3_add_82 rfl rfl ?_
    refine j_dup X dX3_add_83 rfl ?_
    refine j_get X h52 rfl iwX3_add_X3 2 (by decide) lkX3_add_19 rfl dX3_add_84 ?_
    refine j_iconst X dX3_add_87 (v := 1) (by decide) ?_
    refine j_iadd X dX3_add_88 ?_
    refine j_st (st := [.int (nI (re.length + 1)), .ref o]) (by rw [show (nI re.length) + 1 = nI (re.length + 1) from nI_add _ 1]) ?_
    refine j_put X h52 rfl iwX3_add_X3 tyX3 tyX3_ok nmX3 2 (by decide) lkX3_add_19 rfl rfl rfl (Nat.le_of_ble_eq_true rfl) (fs' := [.ref (o + 1), .int (nI fi), .int (nI (re.length + 1))]) rfl dX3_add_89 ?_
    generalize eM55 : j_up M51 o (.inr (3, [.ref (o + 1), .int (nI fi), .int (nI (re.length + 1))])) = M55
    have h57 : M55 (o + 1) = some (.inl (0, 2400, .inl (upd (upd (upd (upd (upd (upd arr row a0) (row + 1) a1) (row + 2) a2) (row + 3) a3) (row + 4) a4) (row + 5) a5))) := by rw [← eM55, j_up_ne _ _ (by omega)]; exact h54
    have h58 : M55 o = some (.inr (3, [.ref (o + 1), .int (nI fi), .int (nI (re.length + 1))])) := by rw [← eM55]; exact j_up_self _ _ _
    exact j_vret X hlk hr (by omega) (by omega) dX3_add_92 ⟨rfl, rfl, ⟨fi, _, by rw [List.length_append]; exact h58, h57, hfi, by rw [List.length_append]; show re.length + 1 ≤ 400; omega, ln_push hfi hlt hl a0 a1 a2 a3 a4 a5 hrw⟩, fun q hq => by rw [← eM55, j_up_ne _ _ (by omega), ← eM51, j_up_ne _ _ (by omega), ← eM47, j_up_ne _ _ (by omega), ← eM43, j_up_ne _ _ (by omega), ← eM39, j_up_ne _ _ (by omega), ← eM35, j_up_ne _ _ (by omega), ← eM31, j_up_ne _ _ (by omega)]⟩
  · skip
    exact absurd (show nI re.length < 400 from nI_lt (b := 400) hlt (by decide)) c26
set_option maxHeartbeats 800000 in
set_option maxRecDepth 100000 in
theorem c_X3_cellT (l : Launch) (D : va_G) {ty : jT} {cA : ClassId} (hI : ty[0]? = some (cA, .int)) (b0 : Nat) {M : jM} {n o : Nat} {re : List Rec} (h : LnAt M o re) {j k : Nat} {rc : Rec} (hj : j < re.length) (hk : k < 6) (hrc : re[j]? = some rc) : Ct l D ty vwCl nwSQ b0 yX3_cell wsX3_cell 1 22 0 0 [.ref o, .int (nI j), .int (nI k)] M n (j_rd (.int (rec_get rc k)) M n) := by
  obtain ⟨fi, arr, h0, h1, hfi, hlen, hl⟩ := id h
  have hq := hl j hj
  rw [hrc] at hq
  cases hq
  refine j_start (cc := cX3_cell) (maxL := 4) (ret := (some .int)) (by decide) rfl [some (.ref o), some (.int (nI j)), some (.int (nI k)), none] (Nat.le_of_ble_eq_true rfl) rfl ?_
  intro p e s m below meth c X hlk hr hnm
  refine j_iload_n X 1 dX3_cell_0 rfl rfl ?_
  refine j_iconst X dX3_cell_1 (v := 0) (by decide) ?_
  refine j_aload_n X 0 dX3_cell_2 rfl rfl ?_
  refine j_get X h0 rfl iwX3_cell_X3 2 (by decide) lkX3_cell_19 rfl dX3_cell_3 ?_
  refine j_iconst X dX3_cell_6 (v := 1) (by decide) ?_
  refine j_isub X dX3_cell_7 ?_
  refine j_callSN X nwSQ_ok (As := [.int (nI j), .int 0, .int ((nI re.length) - 1)]) (rest := []) rfl (c_X4_isWithin l D hI b0 (nI j) 0 ((nI re.length) - 1)) rfl gX3_cell_X4_isWithin_n22 nlX3_22 wdX3_cell_inX4 wdX3_cell_stX4_isWithin ddX4_isWithin ⟨Nat.le_of_ble_eq_true rfl, Nat.le_of_ble_eq_true rfl⟩ (Nat.le_of_ble_eq_true rfl) rfl dX3_cell_8 ⟨(by show 0 + 0 ≤ 0; omega), (by show 0 + 0 ≤ 0; omega)⟩ (fun r59 M60 n61 hr62 => ?_)
  obtain ⟨rfl, rfl, rfl⟩ := hr62
  refine j_st (st := [.int 1]) (by rw [show (if 0 ≤ (nI j) ∧ (nI j) ≤ ((nI re.length) - 1) then 1 else 0 : Int32) = 1 from if_pos ⟨nI_pos' (by omega), by rw [show nI re.length - 1 = nI (re.length - 1) from by obtain ⟨z, hz⟩ : ∃ z, re.length = z + 1 := ⟨re.length - 1, by omega⟩; rw [hz]; exact nI_pred z]; exact nI_le (by omega) (by omega)⟩]; rfl) ?_
  refine j_if_eq X 27 dX3_cell_11 (by decide) (fun c63 => ?_) (fun c63 => ?_)
  · skip
    exact absurd c63 (by decide)
  · skip
    refine j_iload_n X 2 dX3_cell_14 rfl rfl ?_
    refine j_iconst X dX3_cell_15 (v := 0) (by decide) ?_
    refine j_iconst X dX3_cell_16 (v := 5) (by decide) ?_
    refine j_callSN X nwSQ_ok (As := [.int (nI k), .int 0, .int 5]) (rest := []) rfl (c_X4_isWithin l D hI b0 (nI k) 0 5) rfl gX3_cell_X4_isWithin_n22 nlX3_22 wdX3_cell_inX4 wdX3_cell_stX4_isWithin ddX4_isWithin ⟨Nat.le_of_ble_eq_true rfl, Nat.le_of_ble_eq_true rfl⟩ (Nat.le_of_ble_eq_true rfl) rfl dX3_cell_17 ⟨(by show 0 + 0 ≤ 0; omega), (by show 0 + 0 ≤ 0; omega)⟩ (fun r64 M65 n66 hr67 => ?_)
    obtain ⟨rfl, rfl, rfl⟩ := hr67
    refine j_st (st := [.int 1]) (by rw [show (if 0 ≤ (nI k) ∧ (nI k) ≤ 5 then 1 else 0 : Int32) = 1 from if_pos ⟨nI_pos' (by omega), nI_le (b := 5) (by omega) (by decide)⟩]; rfl) ?_
    refine j_if_eq X 27 dX3_cell_20 (by decide) (fun c68 => ?_) (fun c68 => ?_)
    · skip
      exact absurd c68 (by decide)
    · skip
      refine j_iconst X dX3_cell_23 (v := 1) (by decide) ?_
      refine j_goto X 28 dX3_cell_24 (by decide) ?_
      refine j_istore_n X 3 dX3_cell_28 rfl (by decide) rfl (L' := [some (.ref o), some (.int (nI j)), some (.int (nI k)), some (.int 1)]) rfl ?_
      refine j_iload_n X 3 dX3_cell_29 rfl rfl ?_
      refine j_if_eq X 48 dX3_cell_30 (by decide) (fun c69 => ?_) (fun c69 => ?_)
      · skip
        exact absurd c69 (by decide)
      · skip
        refine j_aload_n X 0 dX3_cell_33 rfl rfl ?_
        refine j_get X h0 rfl iwX3_cell_X3 0 (by decide) lkX3_cell_11 rfl dX3_cell_34 ?_
        refine j_aload_n X 0 dX3_cell_37 rfl rfl ?_
        refine j_iload_n X 1 dX3_cell_38 rfl rfl ?_
        refine j_callV X nwSQ_ok (As := [.int (nI j)]) (rest := [.ref (o + 1)]) h0 rfl rfl (c_X3_rowOf l D hI b0 h0 hfi (j := j) (by omega)) rfl gX3_cell_X3_rowOf ⟨rfl, ddX3_rowOf⟩ ⟨Nat.le_of_ble_eq_true rfl, Nat.le_of_ble_eq_true rfl⟩ (Nat.le_of_ble_eq_true rfl) rfl dX3_cell_39 ⟨(by show 0 + 0 ≤ 0; omega), (by show 0 + 0 ≤ 0; omega)⟩ (fun r70 M71 n72 hr73 => ?_)
        obtain ⟨rfl, rfl, rfl⟩ := hr73
        refine j_st (st := [.int (nI ((fi + j) % 400 * 6)), .ref (o + 1)]) rfl ?_
        refine j_iload_n X 2 dX3_cell_42 rfl rfl ?_
        refine j_iadd X dX3_cell_43 ?_
        refine j_st (st := [.int (nI ((fi + j) % 400 * 6 + k)), .ref (o + 1)]) (by rw [show (nI ((fi + j) % 400 * 6)) + (nI k) = nI ((fi + j) % 400 * 6 + k) from nI_add _ _]) ?_
        refine j_iald X h1 hI (vp_in_nI (show (fi + j) % 400 * 6 + k < 2400 by omega) (by decide)) (v := arr ((fi + j) % 400 * 6 + k)) (congrArg arr (nI_clamp (show (fi + j) % 400 * 6 + k < 2 ^ 31 by omega))) dX3_cell_44 ?_
        refine j_goto X 49 dX3_cell_45 (by decide) ?_
        exact j_iret X hlk hr (by omega) (by omega) dX3_cell_49 ⟨by rw [rec_row _ _ k hk], rfl, rfl⟩
set_option maxHeartbeats 800000 in
set_option maxRecDepth 100000 in
theorem c_X3_cellF (l : Launch) (D : va_G) {ty : jT} {cA : ClassId} (hI : ty[0]? = some (cA, .int)) (b0 : Nat) {M : jM} {n o : Nat} {re : List Rec} (h : LnAt M o re) {i k : Int32} (hi : i < 0 ∨ nI re.length ≤ i) : Ct l D ty vwCl nwSQ b0 yX3_cell wsX3_cell 1 22 0 0 [.ref o, .int i, .int k] M n (j_rd (.int 0) M n) := by
  obtain ⟨fi, arr, h0, h1, hfi, hlen, hl⟩ := id h
  have hw : ¬ ((0 : Int32) ≤ i ∧ i ≤ nI re.length - 1) := by
    intro g
    have g1 := Int32.le_iff_toInt_le.mp g.1
    have g2 := Int32.le_iff_toInt_le.mp g.2
    rw [show (nI re.length - 1).toInt = (re.length : Int) - 1 from pk_sub_toInt (b := 1) (by omega) (by decide)] at g2
    rcases hi with hi | hi
    · have := Int32.lt_iff_toInt_lt.mp hi
      omega
    · have := Int32.le_iff_toInt_le.mp hi
      rw [nI_toInt (by omega)] at this
      omega
  refine j_start (cc := cX3_cell) (maxL := 4) (ret := (some .int)) (by decide) rfl [some (.ref o), some (.int i), some (.int k), none] (Nat.le_of_ble_eq_true rfl) rfl ?_
  intro p e s m below meth c X hlk hr hnm
  refine j_iload_n X 1 dX3_cell_0 rfl rfl ?_
  refine j_iconst X dX3_cell_1 (v := 0) (by decide) ?_
  refine j_aload_n X 0 dX3_cell_2 rfl rfl ?_
  refine j_get X h0 rfl iwX3_cell_X3 2 (by decide) lkX3_cell_19 rfl dX3_cell_3 ?_
  refine j_iconst X dX3_cell_6 (v := 1) (by decide) ?_
  refine j_isub X dX3_cell_7 ?_
  refine j_callSN X nwSQ_ok (As := [.int i, .int 0, .int ((nI re.length) - 1)]) (rest := []) rfl (c_X4_isWithin l D hI b0 i 0 ((nI re.length) - 1)) rfl gX3_cell_X4_isWithin_n22 nlX3_22 wdX3_cell_inX4 wdX3_cell_stX4_isWithin ddX4_isWithin ⟨Nat.le_of_ble_eq_true rfl, Nat.le_of_ble_eq_true rfl⟩ (Nat.le_of_ble_eq_true rfl) rfl dX3_cell_8 ⟨(by show 0 + 0 ≤ 0; omega), (by show 0 + 0 ≤ 0; omega)⟩ (fun r74 M75 n76 hr77 => ?_)
  obtain ⟨rfl, rfl, rfl⟩ := hr77
  refine j_st (st := [.int 0]) (by rw [show (if 0 ≤ i ∧ i ≤ ((nI re.length) - 1) then 1 else 0 : Int32) = 0 from if_neg hw]; rfl) ?_
  refine j_if_eq X 27 dX3_cell_11 (by decide) (fun c78 => ?_) (fun c78 => ?_)
  · skip
    refine j_iconst X dX3_cell_27 (v := 0) (by decide) ?_
    refine j_istore_n X 3 dX3_cell_28 rfl (by decide) rfl (L' := [some (.ref o), some (.int i), some (.int k), some (.int 0)]) rfl ?_
    refine j_iload_n X 3 dX3_cell_29 rfl rfl ?_
    refine j_if_eq X 48 dX3_cell_30 (by decide) (fun c79 => ?_) (fun c79 => ?_)
    · skip
      refine j_iconst X dX3_cell_48 (v := 0) (by decide) ?_
      exact j_iret X hlk hr (by omega) (by omega) dX3_cell_49 ⟨rfl, rfl, rfl⟩
    · skip
      exact absurd rfl c79
  · skip
    exact absurd rfl c78
set_option maxHeartbeats 800000 in
set_option maxRecDepth 100000 in
theorem c_X3_dropE (l : Launch) (D : va_G) {ty : jT} {cA : ClassId} (hI : ty[0]? = some (cA, .int)) (b0 : Nat) {M : jM} {n o : Nat} (h : LnAt M o []) : Ct l D ty vwCl nwSQ b0 yX3_dropFirst wsX3_dropFirst 0 0 0 0 [.ref o] M n (j_rd (.int 0) M n) := by
  obtain ⟨fi, arr, h0, h1, hfi, hlen, hl⟩ := id h
  refine j_start (cc := cX3_dropFirst) (maxL := 1) (ret := (some .boolean)) (by decide) rfl [some (.ref o)] (Nat.le_of_ble_eq_true rfl) rfl ?_
  intro p e s m below meth c X hlk hr hnm
  refine j_aload_n X 0 dX3_dropFirst_0 rfl rfl ?_
  refine j_get X h0 rfl iwX3_dropFirst_X3 2 (by decide) lkX3_dropFirst_19 rfl dX3_dropFirst_1 ?_
  refine j_if_ne X 9 dX3_dropFirst_4 (by decide) (fun c80 => ?_) (fun c80 => ?_)
  · skip
    exact absurd rfl c80
  · skip
    refine j_iconst X dX3_dropFirst_7 (v := 0) (by decide) ?_
    exact j_zret X hlk hr (by omega) (by omega) (by decide) dX3_dropFirst_8 ⟨rfl, rfl, rfl⟩
set_option maxHeartbeats 800000 in
set_option maxRecDepth 100000 in
theorem c_X3_dropC (l : Launch) (D : va_G) {ty : jT} {cA : ClassId} (hI : ty[0]? = some (cA, .int)) (b0 : Nat) {M : jM} {n o : Nat} {rc : Rec} {re : List Rec} (h : LnAt M o (rc :: re)) : Ct l D ty vwCl nwSQ b0 yX3_dropFirst wsX3_dropFirst 0 0 0 0 [.ref o] M n (fun r M' n' => r = some (.int 1) ∧ n = n' ∧ LnAt M' o re ∧ ∀ q, (q < o ∨ o + 1 < q) → M' q = M q) := by
  obtain ⟨fi, arr, h0, h1, hfi, hlen, hl⟩ := id h
  have hlen : re.length + 1 ≤ 400 := hlen
  refine j_start (cc := cX3_dropFirst) (maxL := 1) (ret := (some .boolean)) (by decide) rfl [some (.ref o)] (Nat.le_of_ble_eq_true rfl) rfl ?_
  intro p e s m below meth c X hlk hr hnm
  refine j_aload_n X 0 dX3_dropFirst_0 rfl rfl ?_
  refine j_get X h0 rfl iwX3_dropFirst_X3 2 (by decide) lkX3_dropFirst_19 rfl dX3_dropFirst_1 ?_
  refine j_if_ne X 9 dX3_dropFirst_4 (by decide) (fun c81 => ?_) (fun c81 => ?_)
  · skip
    refine j_aload_n X 0 dX3_dropFirst_9 rfl rfl ?_
    refine j_aload_n X 0 dX3_dropFirst_10 rfl rfl ?_
    refine j_get X h0 rfl iwX3_dropFirst_X3 1 (by decide) lkX3_dropFirst_15 rfl dX3_dropFirst_11 ?_
    refine j_iconst X dX3_dropFirst_14 (v := 1) (by decide) ?_
    refine j_iadd X dX3_dropFirst_15 ?_
    refine j_st (st := [.int (nI (fi + 1)), .ref o]) (by rw [show (nI fi) + 1 = nI (fi + 1) from nI_add _ 1]) ?_
    refine j_sipush X dX3_dropFirst_16 (v := 400) (by decide) ?_
    refine j_irem X dX3_dropFirst_19 (by decide) ?_
    refine j_put X h0 rfl iwX3_dropFirst_X3 tyX3 tyX3_ok nmX3 1 (by decide) lkX3_dropFirst_15 rfl rfl rfl (Nat.le_of_ble_eq_true rfl) (fs' := [.ref (o + 1), .int ((nI (fi + 1)) - (nI (fi + 1)) / 400 * 400), .int (nI (re.length + 1))]) rfl dX3_dropFirst_20 ?_
    generalize eM82 : j_up M o (.inr (3, [.ref (o + 1), .int ((nI (fi + 1)) - (nI (fi + 1)) / 400 * 400), .int (nI (re.length + 1))])) = M82
    have h84 : M82 (o + 1) = some (.inl (0, 2400, .inl arr)) := by rw [← eM82, j_up_ne _ _ (by omega)]; exact h1
    have h85 : M82 o = some (.inr (3, [.ref (o + 1), .int ((nI (fi + 1)) - (nI (fi + 1)) / 400 * 400), .int (nI (re.length + 1))])) := by rw [← eM82]; exact j_up_self _ _ _
    refine j_aload_n X 0 dX3_dropFirst_23 rfl rfl ?_
    refine j_dup X dX3_dropFirst_24 rfl ?_
    refine j_get X h85 rfl iwX3_dropFirst_X3 2 (by decide) lkX3_dropFirst_19 rfl dX3_dropFirst_25 ?_
    refine j_iconst X dX3_dropFirst_28 (v := 1) (by decide) ?_
    refine j_isub X dX3_dropFirst_29 ?_
    refine j_put X h85 rfl iwX3_dropFirst_X3 tyX3 tyX3_ok nmX3 2 (by decide) lkX3_dropFirst_19 rfl rfl rfl (Nat.le_of_ble_eq_true rfl) (fs' := [.ref (o + 1), .int ((nI (fi + 1)) - (nI (fi + 1)) / 400 * 400), .int ((nI (re.length + 1)) - 1)]) rfl dX3_dropFirst_30 ?_
    generalize eM86 : j_up M82 o (.inr (3, [.ref (o + 1), .int ((nI (fi + 1)) - (nI (fi + 1)) / 400 * 400), .int ((nI (re.length + 1)) - 1)])) = M86
    have h87 : M86 (o + 1) = some (.inl (0, 2400, .inl arr)) := by rw [← eM86, j_up_ne _ _ (by omega)]; exact h84
    have h89 : M86 o = some (.inr (3, [.ref (o + 1), .int ((nI (fi + 1)) - (nI (fi + 1)) / 400 * 400), .int ((nI (re.length + 1)) - 1)])) := by rw [← eM86]; exact j_up_self _ _ _
    refine j_iconst X dX3_dropFirst_33 (v := 1) (by decide) ?_
    exact j_zret X hlk hr (by omega) (by omega) (by decide) dX3_dropFirst_34 ⟨rfl, rfl, ⟨(fi + 1) % 400, arr, by rw [h89, ln_rem (show fi + 1 < 2 ^ 31 by omega), nI_pred], h87, Nat.mod_lt _ (by decide), by omega, fun i hi => by have := hl (i + 1) (by show i + 1 < re.length + 1; omega); rw [List.getElem?_cons_succ] at this; rw [this, show ((fi + 1) % 400 + i) % 400 = (fi + (i + 1)) % 400 by omega]⟩, fun q hq => by rw [← eM86, j_up_ne _ _ (by omega), ← eM82, j_up_ne _ _ (by omega)]⟩
  · skip
    exact absurd c81 (nI_ne0 (n := re.length + 1) (by omega) (by omega))
end
section
/-! The groups: a chain of nodes, as a list of addresses and groups. -/
abbrev Grp : Type := Int32 × Int32 × Int32 × Int32 × Int32
abbrev Nd : Type := Nat × Grp
def gnode (g : Grp) (nx : Option Nat) : jE := .inr (1, [.int g.1, .int g.2.1, .int g.2.2.1, .int g.2.2.2.1, .int g.2.2.2.2, va_rf nx])
def g_hd : Grp := (-2147483648, -2147483648, 0, 0, -2147483648)
/-- from the reference r over the nodes of the list to the reference r2 -/
def Seg (M : jM) : Option Nat → List Nd → Option Nat → Prop
  | r, [], r2 => r = r2
  | r, x :: t, r2 => r = some x.1 ∧ ∃ nx, M x.1 = some (gnode x.2 nx) ∧ Seg M nx t r2
theorem Seg.app {M : jM} : ∀ {a b : List Nd} {r r2 : Option Nat}, Seg M r (a ++ b) r2 ↔ ∃ r1, Seg M r a r1 ∧ Seg M r1 b r2 := by
  intro a
  induction a with
  | nil => intro b r r2; exact ⟨fun h => ⟨r, rfl, h⟩, fun ⟨r1, h1, h2⟩ => by cases h1; exact h2⟩
  | cons x t ih =>
    intro b r r2
    constructor
    · rintro ⟨h1, nx, h2, h3⟩
      obtain ⟨r1, g1, g2⟩ := ih.mp h3
      exact ⟨r1, ⟨h1, nx, h2, g1⟩, g2⟩
    · rintro ⟨r1, ⟨h1, nx, h2, g1⟩, g2⟩
      exact ⟨h1, nx, h2, ih.mpr ⟨r1, g1, g2⟩⟩
theorem Seg.frame {M M' : jM} : ∀ {a : List Nd} {r r2 : Option Nat}, Seg M r a r2 → (∀ x ∈ a, M' x.1 = M x.1) → Seg M' r a r2 := by
  intro a
  induction a with
  | nil => intro r r2 h _; exact h
  | cons x t ih =>
    rintro r r2 ⟨h1, nx, h2, h3⟩ hf
    exact ⟨h1, nx, by rw [hf x List.mem_cons_self]; exact h2, ih h3 (fun y hy => hf y (List.mem_cons_of_mem _ hy))⟩
theorem Seg.mem {M : jM} : ∀ {a : List Nd} {r r2 : Option Nat}, Seg M r a r2 → ∀ x ∈ a, ∃ nx, M x.1 = some (gnode x.2 nx) := by
  intro a
  induction a with
  | nil => intro r r2 _ x hx; cases hx
  | cons y t ih =>
    rintro r r2 ⟨h1, nx, h2, h3⟩ x hx
    rcases List.mem_cons.mp hx with rfl | hx
    · exact ⟨nx, h2⟩
    · exact ih h3 x hx
def bef (g : Grp) (e k : Int32) : Bool := decide (g.1 < e) || (decide (g.1 = e) && decide (g.2.1 < k))
def isof (g : Grp) (e k : Int32) : Bool := decide (g.1 = e) && decide (g.2.1 = k)
/-- the last node before (e, k), from x on, and what stands behind it -/
def lb (e k : Int32) : Nd → List Nd → Nd × List Nd
  | x, [] => (x, [])
  | x, y :: t => if bef y.2 e k then lb e k y t else (x, y :: t)
theorem lb_cons {e k : Int32} {x y : Nd} {t : List Nd} : lb e k x (y :: t) = if bef y.2 e k then lb e k y t else (x, y :: t) := rfl
theorem lb_seg {M : jM} {e k : Int32} : ∀ {t : List Nd} {x : Nd}, Seg M (some x.1) (x :: t) none → Seg M (some (lb e k x t).1.1) ((lb e k x t).1 :: (lb e k x t).2) none := by
  intro t
  induction t with
  | nil => intro x h; exact h
  | cons y t ih =>
    intro x h
    unfold lb
    by_cases hb : bef y.2 e k = true
    · rw [if_pos hb]
      obtain ⟨_, nx, _, h3⟩ := h
      obtain ⟨h4, h5⟩ := h3
      exact ih ⟨rfl, h5⟩
    · rw [if_neg hb]
      exact h
theorem lb_app {e k : Int32} : ∀ {t : List Nd} {x : Nd}, ∃ pre, x :: t = pre ++ (lb e k x t).1 :: (lb e k x t).2 := by
  intro t
  induction t with
  | nil => intro x; exact ⟨[], rfl⟩
  | cons y t ih =>
    intro x
    unfold lb
    by_cases hb : bef y.2 e k = true
    · rw [if_pos hb]
      obtain ⟨pre, hp⟩ := ih (x := y)
      exact ⟨x :: pre, by rw [hp]; rfl⟩
    · rw [if_neg hb]
      exact ⟨[], rfl⟩
/-- what a value does to a group -/
def gth (g : Grp) (v : Int32) : Grp := (g.1, g.2.1, g.2.2.1 + v, g.2.2.2.1 + 1, if g.2.2.2.2 < v then v else g.2.2.2.2)
theorem bef_T1 {g : Grp} {e k : Int32} (h : g.1 < e) : (if bef g e k then (1 : Int32) else 0) = 1 := by simp [bef, h]
theorem bef_T3 {g : Grp} {e k : Int32} (_ : ¬ g.1 < e) (h2 : g.1 = e) (h3 : ¬ k ≤ g.2.1) : (if bef g e k then (1 : Int32) else 0) = 1 := by simp [bef, h2, Int32.not_le.mp h3]
theorem bef_F2 {g : Grp} {e k : Int32} (h : ¬ g.1 < e) (h2 : ¬ g.1 = e) : (if bef g e k then (1 : Int32) else 0) = 0 := by simp [bef, h, h2]
theorem bef_F3 {g : Grp} {e k : Int32} (h : ¬ g.1 < e) (_ : g.1 = e) (h3 : k ≤ g.2.1) : (if bef g e k then (1 : Int32) else 0) = 0 := by simp [bef, h, Int32.not_lt.mpr h3]
/-- a Groups object at o, its first node (none of them) behind it -/
def GrAt (M : jM) (o : Nat) (cs : List Nd) : Prop := M o = some (.inr (2, [.ref (o + 1)])) ∧ Seg M (some (o + 1)) ((o + 1, g_hd) :: cs) none
theorem GrAt.frame {M M' : jM} {o : Nat} {cs : List Nd} (h : GrAt M o cs) (hf : ∀ q, (q = o ∨ q = o + 1 ∨ ∃ z ∈ cs, z.1 = q) → M' q = M q) : GrAt M' o cs := by
  refine ⟨by rw [hf o (Or.inl rfl)]; exact h.1, h.2.frame (fun x hx => ?_)⟩
  rcases List.mem_cons.mp hx with rfl | hx
  · exact hf _ (Or.inr (Or.inl rfl))
  · exact hf _ (Or.inr (Or.inr ⟨x, hx, rfl⟩))
/-- the node sought, if it stands first behind -/
def fnd (e k : Int32) : List Nd → Option Nat
  | [] => none
  | y :: _ => if isof y.2 e k then some y.1 else none
/-- how many ends up to e stand in the chain, the one before being p -/
def wcn (e : Int32) : Int32 → List Nd → Nat
  | _, [] => 0
  | p, y :: t => if y.2.1 ≤ e then (if p = y.2.1 then wcn e y.2.1 t else wcn e y.2.1 t + 1) else 0
theorem wcn_cons {e p : Int32} {y : Nd} {t : List Nd} : wcn e p (y :: t) = if y.2.1 ≤ e then (if p = y.2.1 then wcn e y.2.1 t else wcn e y.2.1 t + 1) else 0 := rfl
/-- behind placeFrom: the group was there, or a new node stands behind the last one before it -/
def placed (M : jM) (n : Nat) (e k : Int32) (R : Nd × List Nd) : Option Value → jM → Nat → Prop := fun r M' n' =>
  (∃ y t, R.2 = y :: t ∧ isof y.2 e k = true ∧ r = some (.ref y.1) ∧ M = M' ∧ n = n') ∨
  ((∀ y t, R.2 = y :: t → isof y.2 e k = false) ∧ r = some (.ref n) ∧ n' = n + 1 ∧ M' n = some (gnode (e, k, 0, 0, -2147483648) (R.2.head?.map Prod.fst)) ∧ M' R.1.1 = some (gnode R.1.2 (some n)) ∧ ∀ q, q ≠ n → q ≠ R.1.1 → M' q = M q)
end
section
set_option maxRecDepth 20000 in
theorem iwX1_isBefore_X1 : ∀ w ∈ u_ws RX1 TX1 6, w ∈ wsX1_isBefore := by decide +kernel
set_option maxRecDepth 20000 in
theorem lkX1_isBefore_22 : Cond.fieldLink RX1 22 (TX1 0).1 (TX1 0).2.1 (TX1 0).2.2.1 ∈ wsX1_isBefore := by decide +kernel
set_option maxRecDepth 20000 in
theorem lkX1_isBefore_25 : Cond.fieldLink RX1 25 (TX1 1).1 (TX1 1).2.1 (TX1 1).2.2.1 ∈ wsX1_isBefore := by decide +kernel
set_option maxRecDepth 20000 in
theorem iwX1_isOf_X1 : ∀ w ∈ u_ws RX1 TX1 6, w ∈ wsX1_isOf := by decide +kernel
set_option maxRecDepth 20000 in
theorem lkX1_isOf_22 : Cond.fieldLink RX1 22 (TX1 0).1 (TX1 0).2.1 (TX1 0).2.2.1 ∈ wsX1_isOf := by decide +kernel
set_option maxRecDepth 20000 in
theorem lkX1_isOf_25 : Cond.fieldLink RX1 25 (TX1 1).1 (TX1 1).2.1 (TX1 1).2.2.1 ∈ wsX1_isOf := by decide +kernel
set_option maxRecDepth 20000 in
theorem iwX1_gather_X1 : ∀ w ∈ u_ws RX1 TX1 6, w ∈ wsX1_gather := by decide +kernel
set_option maxRecDepth 20000 in
theorem lkX1_gather_7 : Cond.fieldLink RX1 7 (TX1 2).1 (TX1 2).2.1 (TX1 2).2.2.1 ∈ wsX1_gather := by decide +kernel
set_option maxRecDepth 20000 in
theorem lkX1_gather_13 : Cond.fieldLink RX1 13 (TX1 3).1 (TX1 3).2.1 (TX1 3).2.2.1 ∈ wsX1_gather := by decide +kernel
set_option maxRecDepth 20000 in
theorem lkX1_gather_19 : Cond.fieldLink RX1 19 (TX1 4).1 (TX1 4).2.1 (TX1 4).2.2.1 ∈ wsX1_gather := by decide +kernel
set_option maxRecDepth 20000 in
theorem wdX1_gather_mmax0 : Cond.methodLink RX1 32 Lib.Math.max.name ∈ wsX1_gather := by decide +kernel
set_option maxRecDepth 20000 in
theorem wdX1_gather_mmax1 : Cond.static Lib.Math.max.name ∈ wsX1_gather := by decide +kernel
set_option maxRecDepth 20000 in
theorem wdX1_gather_mmax2 : Cond.initialized "java/lang/Math" ∈ wsX1_gather := by decide +kernel
set_option maxRecDepth 20000 in
theorem wdX1_gather_mmax3 : Cond.code Lib.Math.max.name Lib.Math.max.code 2 (some .int) ∈ wsX1_gather := by decide +kernel
set_option maxRecDepth 20000 in
theorem wdX1_init_oi1 : Cond.methodLink RX1 1 objectInit ∈ wsX1_init := by decide +kernel
set_option maxRecDepth 20000 in
theorem wdX1_init_oj : Cond.instanceMethod objectInit ∈ wsX1_init := by decide +kernel
set_option maxRecDepth 20000 in
theorem wdX1_init_ok : Cond.code objectInit ⟨#[0xb1]⟩ 1 none ∈ wsX1_init := by decide +kernel
set_option maxRecDepth 20000 in
theorem iwX1_init_X1 : ∀ w ∈ u_ws RX1 TX1 6, w ∈ wsX1_init := by decide +kernel
set_option maxRecDepth 20000 in
theorem lkX1_init_7 : Cond.fieldLink RX1 7 (TX1 2).1 (TX1 2).2.1 (TX1 2).2.2.1 ∈ wsX1_init := by decide +kernel
set_option maxRecDepth 20000 in
theorem lkX1_init_13 : Cond.fieldLink RX1 13 (TX1 3).1 (TX1 3).2.1 (TX1 3).2.2.1 ∈ wsX1_init := by decide +kernel
set_option maxRecDepth 20000 in
theorem wdX1_init_c18 : Cond.constant RX1 18 (-2147483648) ∈ wsX1_init := by decide +kernel
set_option maxRecDepth 20000 in
theorem lkX1_init_19 : Cond.fieldLink RX1 19 (TX1 4).1 (TX1 4).2.1 (TX1 4).2.2.1 ∈ wsX1_init := by decide +kernel
set_option maxRecDepth 20000 in
theorem lkX1_init_22 : Cond.fieldLink RX1 22 (TX1 0).1 (TX1 0).2.1 (TX1 0).2.2.1 ∈ wsX1_init := by decide +kernel
set_option maxRecDepth 20000 in
theorem lkX1_init_25 : Cond.fieldLink RX1 25 (TX1 1).1 (TX1 1).2.1 (TX1 1).2.2.1 ∈ wsX1_init := by decide +kernel
set_option maxRecDepth 20000 in
theorem lkX1_init_28 : Cond.fieldLink RX1 28 (TX1 5).1 (TX1 5).2.1 (TX1 5).2.2.1 ∈ wsX1_init := by decide +kernel
set_option maxRecDepth 20000 in
theorem iwX2_lastBefore_X1 : ∀ w ∈ u_ws RX1 TX1 6, w ∈ wsX2_lastBefore := by decide +kernel
set_option maxRecDepth 20000 in
theorem lkX2_lastBefore_21 : Cond.fieldLinkNest RX2 21 (TX1 5).1 (TX1 5).2.1 (TX1 5).2.2.1 "StreamQuery" ∈ nwSQ := by decide +kernel
set_option maxRecDepth 20000 in
theorem ddX1_isBefore : yX1_isBefore.cls ≠ "java/lang/invoke/MethodHandle" ∧ yX1_isBefore.cls ≠ "java/lang/invoke/VarHandle" ∧ (parseMethodDescriptor yX1_isBefore.desc).map (fun d => d.parameters.length) = some 2 := by decide +kernel
set_option maxRecDepth 20000 in
theorem iwX2_head_X2 : ∀ w ∈ u_ws RX2 TX2 1, w ∈ wsX2_head := by decide +kernel
set_option maxRecDepth 20000 in
theorem lkX2_head_15 : Cond.fieldLink RX2 15 (TX2 0).1 (TX2 0).2.1 (TX2 0).2.2.1 ∈ wsX2_head := by decide +kernel
set_option maxRecDepth 20000 in
theorem iwX2_clear_X2 : ∀ w ∈ u_ws RX2 TX2 1, w ∈ wsX2_clear := by decide +kernel
set_option maxRecDepth 20000 in
theorem lkX2_clear_15 : Cond.fieldLink RX2 15 (TX2 0).1 (TX2 0).2.1 (TX2 0).2.2.1 ∈ wsX2_clear := by decide +kernel
set_option maxRecDepth 20000 in
theorem iwX2_clear_X1 : ∀ w ∈ u_ws RX1 TX1 6, w ∈ wsX2_clear := by decide +kernel
set_option maxRecDepth 20000 in
theorem lkX2_clear_21 : Cond.fieldLinkNest RX2 21 (TX1 5).1 (TX1 5).2.1 (TX1 5).2.2.1 "StreamQuery" ∈ nwSQ := by decide +kernel
set_option maxRecDepth 20000 in
theorem wdX2_init_oi1 : Cond.methodLink RX2 1 objectInit ∈ wsX2_init := by decide +kernel
set_option maxRecDepth 20000 in
theorem wdX2_init_oj : Cond.instanceMethod objectInit ∈ wsX2_init := by decide +kernel
set_option maxRecDepth 20000 in
theorem wdX2_init_ok : Cond.code objectInit ⟨#[0xb1]⟩ 1 none ∈ wsX2_init := by decide +kernel
set_option maxRecDepth 20000 in
theorem wdX2_init_cl7 : Cond.classLink RX2 7 RX1 ∈ wsX2_init := by decide +kernel
set_option maxRecDepth 20000 in
theorem wdX2_init_itX1 : Cond.instantiable RX1 6 ∈ wsX2_init := by decide +kernel
set_option maxRecDepth 20000 in
theorem wdX2_init_inX1 : Cond.initialized RX1 ∈ wsX2_init := by decide +kernel
set_option maxRecDepth 20000 in
theorem dfX1 : ∀ j, j < 6 → defaultValue (tyX1 j) = vp_V [.int 0, .int 0, .int 0, .int 0, .int 0, .null] j := by decide +kernel
set_option maxRecDepth 20000 in
theorem iwX2_init_X1 : ∀ w ∈ u_ws RX1 TX1 6, w ∈ wsX2_init := by decide +kernel
set_option maxRecDepth 20000 in
theorem wdX2_init_c11 : Cond.constant RX2 11 (-2147483648) ∈ wsX2_init := by decide +kernel
set_option maxRecDepth 20000 in
theorem ddX1_init : yX1_init.cls ≠ "java/lang/invoke/MethodHandle" ∧ yX1_init.cls ≠ "java/lang/invoke/VarHandle" ∧ (parseMethodDescriptor yX1_init.desc).map (fun d => d.parameters.length) = some 3 := by decide +kernel
set_option maxRecDepth 20000 in
theorem wdX2_init_ml12 : Cond.methodLink RX2 12 yX1_init ∈ wsX2_init := by decide +kernel
set_option maxRecDepth 20000 in
theorem wdX2_init_imX1_init : Cond.instanceMethod yX1_init ∈ wsX2_init := by decide +kernel
set_option maxRecDepth 20000 in
theorem iwX2_init_X2 : ∀ w ∈ u_ws RX2 TX2 1, w ∈ wsX2_init := by decide +kernel
set_option maxRecDepth 20000 in
theorem lkX2_init_15 : Cond.fieldLink RX2 15 (TX2 0).1 (TX2 0).2.1 (TX2 0).2.2.1 ∈ wsX2_init := by decide +kernel
set_option maxRecDepth 20000 in
theorem iwX2_find_X2 : ∀ w ∈ u_ws RX2 TX2 1, w ∈ wsX2_find := by decide +kernel
set_option maxRecDepth 20000 in
theorem lkX2_find_15 : Cond.fieldLink RX2 15 (TX2 0).1 (TX2 0).2.1 (TX2 0).2.2.1 ∈ wsX2_find := by decide +kernel
set_option maxRecDepth 20000 in
theorem ddX2_lastBefore : yX2_lastBefore.cls ≠ "java/lang/invoke/MethodHandle" ∧ yX2_lastBefore.cls ≠ "java/lang/invoke/VarHandle" ∧ (parseMethodDescriptor yX2_lastBefore.desc).map (fun d => d.parameters.length) = some 3 := by decide +kernel
set_option maxRecDepth 20000 in
theorem iwX2_find_X1 : ∀ w ∈ u_ws RX1 TX1 6, w ∈ wsX2_find := by decide +kernel
set_option maxRecDepth 20000 in
theorem lkX2_find_21 : Cond.fieldLinkNest RX2 21 (TX1 5).1 (TX1 5).2.1 (TX1 5).2.2.1 "StreamQuery" ∈ nwSQ := by decide +kernel
set_option maxRecDepth 20000 in
theorem ddX1_isOf : yX1_isOf.cls ≠ "java/lang/invoke/MethodHandle" ∧ yX1_isOf.cls ≠ "java/lang/invoke/VarHandle" ∧ (parseMethodDescriptor yX1_isOf.desc).map (fun d => d.parameters.length) = some 2 := by decide +kernel
set_option maxRecDepth 20000 in
theorem iwX2_placeFrom_X1 : ∀ w ∈ u_ws RX1 TX1 6, w ∈ wsX2_placeFrom := by decide +kernel
set_option maxRecDepth 20000 in
theorem lkX2_placeFrom_21 : Cond.fieldLinkNest RX2 21 (TX1 5).1 (TX1 5).2.1 (TX1 5).2.2.1 "StreamQuery" ∈ nwSQ := by decide +kernel
set_option maxRecDepth 20000 in
theorem wdX2_placeFrom_cl7 : Cond.classLink RX2 7 RX1 ∈ wsX2_placeFrom := by decide +kernel
set_option maxRecDepth 20000 in
theorem wdX2_placeFrom_itX1 : Cond.instantiable RX1 6 ∈ wsX2_placeFrom := by decide +kernel
set_option maxRecDepth 20000 in
theorem wdX2_placeFrom_inX1 : Cond.initialized RX1 ∈ wsX2_placeFrom := by decide +kernel
set_option maxRecDepth 20000 in
theorem wdX2_placeFrom_ml12 : Cond.methodLink RX2 12 yX1_init ∈ wsX2_placeFrom := by decide +kernel
set_option maxRecDepth 20000 in
theorem wdX2_placeFrom_imX1_init : Cond.instanceMethod yX1_init ∈ wsX2_placeFrom := by decide +kernel
set_option maxRecDepth 20000 in
theorem iwX2_manyUpTo_X1 : ∀ w ∈ u_ws RX1 TX1 6, w ∈ wsX2_manyUpTo := by decide +kernel
set_option maxRecDepth 20000 in
theorem lkX2_manyUpTo_32 : Cond.fieldLinkNest RX2 32 (TX1 0).1 (TX1 0).2.1 (TX1 0).2.2.1 "StreamQuery" ∈ nwSQ := by decide +kernel
set_option maxRecDepth 20000 in
theorem lkX2_manyUpTo_21 : Cond.fieldLinkNest RX2 21 (TX1 5).1 (TX1 5).2.1 (TX1 5).2.2.1 "StreamQuery" ∈ nwSQ := by decide +kernel
set_option maxRecDepth 20000 in
theorem iwX2_manyUpTo_X2 : ∀ w ∈ u_ws RX2 TX2 1, w ∈ wsX2_manyUpTo := by decide +kernel
set_option maxRecDepth 20000 in
theorem lkX2_manyUpTo_15 : Cond.fieldLink RX2 15 (TX2 0).1 (TX2 0).2.1 (TX2 0).2.2.1 ∈ wsX2_manyUpTo := by decide +kernel
set_option maxRecDepth 20000 in
theorem iwX2_windowsUpTo_X1 : ∀ w ∈ u_ws RX1 TX1 6, w ∈ wsX2_windowsUpTo := by decide +kernel
set_option maxRecDepth 20000 in
theorem lkX2_windowsUpTo_32 : Cond.fieldLinkNest RX2 32 (TX1 0).1 (TX1 0).2.1 (TX1 0).2.2.1 "StreamQuery" ∈ nwSQ := by decide +kernel
set_option maxRecDepth 20000 in
theorem lkX2_windowsUpTo_21 : Cond.fieldLinkNest RX2 21 (TX1 5).1 (TX1 5).2.1 (TX1 5).2.2.1 "StreamQuery" ∈ nwSQ := by decide +kernel
set_option maxRecDepth 20000 in
theorem iwX2_windowsUpTo_X2 : ∀ w ∈ u_ws RX2 TX2 1, w ∈ wsX2_windowsUpTo := by decide +kernel
set_option maxRecDepth 20000 in
theorem lkX2_windowsUpTo_15 : Cond.fieldLink RX2 15 (TX2 0).1 (TX2 0).2.1 (TX2 0).2.2.1 ∈ wsX2_windowsUpTo := by decide +kernel
set_option maxRecDepth 20000 in
theorem iwX2_takeFirst_X2 : ∀ w ∈ u_ws RX2 TX2 1, w ∈ wsX2_takeFirst := by decide +kernel
set_option maxRecDepth 20000 in
theorem lkX2_takeFirst_15 : Cond.fieldLink RX2 15 (TX2 0).1 (TX2 0).2.1 (TX2 0).2.2.1 ∈ wsX2_takeFirst := by decide +kernel
set_option maxRecDepth 20000 in
theorem iwX2_takeFirst_X1 : ∀ w ∈ u_ws RX1 TX1 6, w ∈ wsX2_takeFirst := by decide +kernel
set_option maxRecDepth 20000 in
theorem lkX2_takeFirst_21 : Cond.fieldLinkNest RX2 21 (TX1 5).1 (TX1 5).2.1 (TX1 5).2.2.1 "StreamQuery" ∈ nwSQ := by decide +kernel
end
section
set_option maxHeartbeats 800000 in
set_option maxRecDepth 100000 in
theorem c_X1_isBefore (l : Launch) (D : va_G) {ty : jT} {cA : ClassId} (hI : ty[0]? = some (cA, .int)) (b0 : Nat) {M : jM} {n a : Nat} {g : Grp} {nx : Option Nat} (h : M a = some (gnode g nx)) (e1 k1 : Int32) : Ct l D ty vwCl nwSQ b0 yX1_isBefore wsX1_isBefore 0 0 0 0 [.ref a, .int e1, .int k1] M n (j_rd (.int (if bef g e1 k1 then 1 else 0)) M n) := by
  have h0 : M a = some (.inr (1, [.int g.1, .int g.2.1, .int g.2.2.1, .int g.2.2.2.1, .int g.2.2.2.2, va_rf nx])) := h
  refine j_start (cc := cX1_isBefore) (maxL := 3) (ret := (some .boolean)) (by decide) rfl [some (.ref a), some (.int e1), some (.int k1)] (Nat.le_of_ble_eq_true rfl) rfl ?_
  intro p e s m below meth c X hlk hr hnm
  refine j_aload_n X 0 dX1_isBefore_0 rfl rfl ?_
  refine j_get X h0 rfl iwX1_isBefore_X1 0 (by decide) lkX1_isBefore_22 rfl dX1_isBefore_1 ?_
  refine j_iload_n X 1 dX1_isBefore_4 rfl rfl ?_
  refine j_icmp_lt X 24 dX1_isBefore_5 (by decide) (fun c1 => ?_) (fun c1 => ?_)
  · skip
    refine j_iconst X dX1_isBefore_24 (v := 1) (by decide) ?_
    refine j_goto X 29 dX1_isBefore_25 (by decide) ?_
    exact j_zret X hlk hr (by omega) (by omega) (by decide) dX1_isBefore_29 ⟨congrArg (fun x => some (Value.int x)) (bef_T1 c1).symm, rfl, rfl⟩
  · skip
    refine j_aload_n X 0 dX1_isBefore_8 rfl rfl ?_
    refine j_get X h0 rfl iwX1_isBefore_X1 0 (by decide) lkX1_isBefore_22 rfl dX1_isBefore_9 ?_
    refine j_iload_n X 1 dX1_isBefore_12 rfl rfl ?_
    refine j_icmp_ne X 28 dX1_isBefore_13 (by decide) (fun c2 => ?_) (fun c2 => ?_)
    · skip
      refine j_iconst X dX1_isBefore_28 (v := 0) (by decide) ?_
      exact j_zret X hlk hr (by omega) (by omega) (by decide) dX1_isBefore_29 ⟨congrArg (fun x => some (Value.int x)) (bef_F2 c1 c2).symm, rfl, rfl⟩
    · skip
      refine j_aload_n X 0 dX1_isBefore_16 rfl rfl ?_
      refine j_get X h0 rfl iwX1_isBefore_X1 1 (by decide) lkX1_isBefore_25 rfl dX1_isBefore_17 ?_
      refine j_iload_n X 2 dX1_isBefore_20 rfl rfl ?_
      refine j_icmp_ge X 28 dX1_isBefore_21 (by decide) (fun c3 => ?_) (fun c3 => ?_)
      · skip
        refine j_iconst X dX1_isBefore_28 (v := 0) (by decide) ?_
        exact j_zret X hlk hr (by omega) (by omega) (by decide) dX1_isBefore_29 ⟨congrArg (fun x => some (Value.int x)) (bef_F3 c1 c2 c3).symm, rfl, rfl⟩
      · skip
        refine j_iconst X dX1_isBefore_24 (v := 1) (by decide) ?_
        refine j_goto X 29 dX1_isBefore_25 (by decide) ?_
        exact j_zret X hlk hr (by omega) (by omega) (by decide) dX1_isBefore_29 ⟨congrArg (fun x => some (Value.int x)) (bef_T3 c1 c2 c3).symm, rfl, rfl⟩
set_option maxHeartbeats 800000 in
set_option maxRecDepth 100000 in
theorem c_X1_isOf (l : Launch) (D : va_G) {ty : jT} {cA : ClassId} (hI : ty[0]? = some (cA, .int)) (b0 : Nat) {M : jM} {n a : Nat} {g : Grp} {nx : Option Nat} (h : M a = some (gnode g nx)) (e1 k1 : Int32) : Ct l D ty vwCl nwSQ b0 yX1_isOf wsX1_isOf 0 0 0 0 [.ref a, .int e1, .int k1] M n (j_rd (.int (if isof g e1 k1 then 1 else 0)) M n) := by
  have h0 : M a = some (.inr (1, [.int g.1, .int g.2.1, .int g.2.2.1, .int g.2.2.2.1, .int g.2.2.2.2, va_rf nx])) := h
  refine j_start (cc := cX1_isOf) (maxL := 3) (ret := (some .boolean)) (by decide) rfl [some (.ref a), some (.int e1), some (.int k1)] (Nat.le_of_ble_eq_true rfl) rfl ?_
  intro p e s m below meth c X hlk hr hnm
  refine j_aload_n X 0 dX1_isOf_0 rfl rfl ?_
  refine j_get X h0 rfl iwX1_isOf_X1 0 (by decide) lkX1_isOf_22 rfl dX1_isOf_1 ?_
  refine j_iload_n X 1 dX1_isOf_4 rfl rfl ?_
  refine j_icmp_ne X 20 dX1_isOf_5 (by decide) (fun c4 => ?_) (fun c4 => ?_)
  · skip
    refine j_iconst X dX1_isOf_20 (v := 0) (by decide) ?_
    exact j_zret X hlk hr (by omega) (by omega) (by decide) dX1_isOf_21 ⟨by simp [isof, c4], rfl, rfl⟩
  · skip
    refine j_aload_n X 0 dX1_isOf_8 rfl rfl ?_
    refine j_get X h0 rfl iwX1_isOf_X1 1 (by decide) lkX1_isOf_25 rfl dX1_isOf_9 ?_
    refine j_iload_n X 2 dX1_isOf_12 rfl rfl ?_
    refine j_icmp_ne X 20 dX1_isOf_13 (by decide) (fun c5 => ?_) (fun c5 => ?_)
    · skip
      refine j_iconst X dX1_isOf_20 (v := 0) (by decide) ?_
      exact j_zret X hlk hr (by omega) (by omega) (by decide) dX1_isOf_21 ⟨by simp [isof, c4, c5], rfl, rfl⟩
    · skip
      refine j_iconst X dX1_isOf_16 (v := 1) (by decide) ?_
      refine j_goto X 21 dX1_isOf_17 (by decide) ?_
      exact j_zret X hlk hr (by omega) (by omega) (by decide) dX1_isOf_21 ⟨by simp [isof, c4, c5], rfl, rfl⟩
set_option maxHeartbeats 800000 in
set_option maxRecDepth 100000 in
theorem c_X1_gather (l : Launch) (D : va_G) {ty : jT} {cA : ClassId} (hI : ty[0]? = some (cA, .int)) (b0 : Nat) {M : jM} {n a : Nat} {g : Grp} {nx : Option Nat} (h : M a = some (gnode g nx)) (v : Int32) : Ct l D ty vwCl nwSQ b0 yX1_gather wsX1_gather 1 21 0 0 [.ref a, .int v] M n (fun r M' n' => r = none ∧ n = n' ∧ M' a = some (gnode (gth g v) nx) ∧ ∀ q, q ≠ a → M' q = M q) := by
  have h0 : M a = some (.inr (1, [.int g.1, .int g.2.1, .int g.2.2.1, .int g.2.2.2.1, .int g.2.2.2.2, va_rf nx])) := h
  refine j_start (cc := cX1_gather) (maxL := 2) (ret := none) (by decide) rfl [some (.ref a), some (.int v)] (Nat.le_of_ble_eq_true rfl) rfl ?_
  intro p e s m below meth c X hlk hr hnm
  refine j_aload_n X 0 dX1_gather_0 rfl rfl ?_
  refine j_dup X dX1_gather_1 rfl ?_
  refine j_get X h0 rfl iwX1_gather_X1 2 (by decide) lkX1_gather_7 rfl dX1_gather_2 ?_
  refine j_iload_n X 1 dX1_gather_5 rfl rfl ?_
  refine j_iadd X dX1_gather_6 ?_
  refine j_put X h0 rfl iwX1_gather_X1 tyX1 tyX1_ok nmX1 2 (by decide) lkX1_gather_7 rfl rfl rfl (Nat.le_of_ble_eq_true rfl) (fs' := [.int g.1, .int g.2.1, .int (g.2.2.1 + v), .int g.2.2.2.1, .int g.2.2.2.2, va_rf nx]) rfl dX1_gather_7 ?_
  generalize eM6 : j_up M a (.inr (1, [.int g.1, .int g.2.1, .int (g.2.2.1 + v), .int g.2.2.2.1, .int g.2.2.2.2, va_rf nx])) = M6
  have h8 : M6 a = some (.inr (1, [.int g.1, .int g.2.1, .int (g.2.2.1 + v), .int g.2.2.2.1, .int g.2.2.2.2, va_rf nx])) := by rw [← eM6]; exact j_up_self _ _ _
  refine j_aload_n X 0 dX1_gather_10 rfl rfl ?_
  refine j_dup X dX1_gather_11 rfl ?_
  refine j_get X h8 rfl iwX1_gather_X1 3 (by decide) lkX1_gather_13 rfl dX1_gather_12 ?_
  refine j_iconst X dX1_gather_15 (v := 1) (by decide) ?_
  refine j_iadd X dX1_gather_16 ?_
  refine j_put X h8 rfl iwX1_gather_X1 tyX1 tyX1_ok nmX1 3 (by decide) lkX1_gather_13 rfl rfl rfl (Nat.le_of_ble_eq_true rfl) (fs' := [.int g.1, .int g.2.1, .int (g.2.2.1 + v), .int (g.2.2.2.1 + 1), .int g.2.2.2.2, va_rf nx]) rfl dX1_gather_17 ?_
  generalize eM9 : j_up M6 a (.inr (1, [.int g.1, .int g.2.1, .int (g.2.2.1 + v), .int (g.2.2.2.1 + 1), .int g.2.2.2.2, va_rf nx])) = M9
  have h11 : M9 a = some (.inr (1, [.int g.1, .int g.2.1, .int (g.2.2.1 + v), .int (g.2.2.2.1 + 1), .int g.2.2.2.2, va_rf nx])) := by rw [← eM9]; exact j_up_self _ _ _
  refine j_aload_n X 0 dX1_gather_20 rfl rfl ?_
  refine j_aload_n X 0 dX1_gather_21 rfl rfl ?_
  refine j_get X h11 rfl iwX1_gather_X1 4 (by decide) lkX1_gather_19 rfl dX1_gather_22 ?_
  refine j_iload_n X 1 dX1_gather_25 rfl rfl ?_
  refine j_max X wdX1_gather_mmax0 wdX1_gather_mmax1 wdX1_gather_mmax2 wdX1_gather_mmax3 (Nat.le_of_ble_eq_true rfl) (Nat.le_of_ble_eq_true rfl) (by omega) (by omega) dX1_gather_26 ?_
  refine j_put X h11 rfl iwX1_gather_X1 tyX1 tyX1_ok nmX1 4 (by decide) lkX1_gather_19 rfl rfl rfl (Nat.le_of_ble_eq_true rfl) (fs' := [.int g.1, .int g.2.1, .int (g.2.2.1 + v), .int (g.2.2.2.1 + 1), .int (if g.2.2.2.2 < v then v else g.2.2.2.2), va_rf nx]) rfl dX1_gather_29 ?_
  generalize eM12 : j_up M9 a (.inr (1, [.int g.1, .int g.2.1, .int (g.2.2.1 + v), .int (g.2.2.2.1 + 1), .int (if g.2.2.2.2 < v then v else g.2.2.2.2), va_rf nx])) = M12
  have h14 : M12 a = some (.inr (1, [.int g.1, .int g.2.1, .int (g.2.2.1 + v), .int (g.2.2.2.1 + 1), .int (if g.2.2.2.2 < v then v else g.2.2.2.2), va_rf nx])) := by rw [← eM12]; exact j_up_self _ _ _
  exact j_vret X hlk hr (by omega) (by omega) dX1_gather_32 ⟨rfl, rfl, h14, fun q hq => by rw [← eM12, j_up_ne _ _ (hq), ← eM9, j_up_ne _ _ (hq), ← eM6, j_up_ne _ _ (hq)]⟩
set_option maxHeartbeats 800000 in
set_option maxRecDepth 100000 in
theorem c_X1_init (l : Launch) (D : va_G) {ty : jT} {cA : ClassId} (hI : ty[0]? = some (cA, .int)) (b0 : Nat) {M : jM} {n a : Nat} {nx : Option Nat} (h0 : M a = some (.inr (1, [.int 0, .int 0, .int 0, .int 0, .int 0, .null]))) (e1 k1 : Int32) : Ct l D ty vwCl nwSQ b0 yX1_init wsX1_init 1 20 0 0 [.ref a, .int e1, .int k1, va_rf nx] M n (fun r M' n' => r = none ∧ n = n' ∧ M' a = some (gnode (e1, k1, 0, 0, -2147483648) nx) ∧ ∀ q, q ≠ a → M' q = M q) := by
  refine j_start (cc := cX1_init) (maxL := 4) (ret := none) (by decide) rfl [some (.ref a), some (.int e1), some (.int k1), some (va_rf nx)] (by cases nx <;> exact Nat.le_of_ble_eq_true rfl) (by cases nx <;> rfl) ?_
  intro p e s m below meth c X hlk hr hnm
  refine j_aload_n X 0 dX1_init_0 rfl rfl ?_
  refine j_objInit X wdX1_init_oi1 wdX1_init_oj wdX1_init_ok dX1_init_1 (Nat.le_of_ble_eq_true rfl) (Nat.le_of_ble_eq_true rfl) ?_
  refine j_aload_n X 0 dX1_init_4 rfl rfl ?_
  refine j_iconst X dX1_init_5 (v := 0) (by decide) ?_
  refine j_put X h0 rfl iwX1_init_X1 tyX1 tyX1_ok nmX1 2 (by decide) lkX1_init_7 rfl rfl rfl (Nat.le_of_ble_eq_true rfl) (fs' := [.int 0, .int 0, .int 0, .int 0, .int 0, .null]) rfl dX1_init_6 ?_
  generalize eM15 : j_up M a (.inr (1, [.int 0, .int 0, .int 0, .int 0, .int 0, .null])) = M15
  have h17 : M15 a = some (.inr (1, [.int 0, .int 0, .int 0, .int 0, .int 0, .null])) := by rw [← eM15]; exact j_up_self _ _ _
  refine j_aload_n X 0 dX1_init_9 rfl rfl ?_
  refine j_iconst X dX1_init_10 (v := 0) (by decide) ?_
  refine j_put X h17 rfl iwX1_init_X1 tyX1 tyX1_ok nmX1 3 (by decide) lkX1_init_13 rfl rfl rfl (Nat.le_of_ble_eq_true rfl) (fs' := [.int 0, .int 0, .int 0, .int 0, .int 0, .null]) rfl dX1_init_11 ?_
  generalize eM18 : j_up M15 a (.inr (1, [.int 0, .int 0, .int 0, .int 0, .int 0, .null])) = M18
  have h20 : M18 a = some (.inr (1, [.int 0, .int 0, .int 0, .int 0, .int 0, .null])) := by rw [← eM18]; exact j_up_self _ _ _
  refine j_aload_n X 0 dX1_init_14 rfl rfl ?_
  refine j_ldc X dX1_init_15 wdX1_init_c18 ?_
  refine j_put X h20 rfl iwX1_init_X1 tyX1 tyX1_ok nmX1 4 (by decide) lkX1_init_19 rfl rfl rfl (Nat.le_of_ble_eq_true rfl) (fs' := [.int 0, .int 0, .int 0, .int 0, .int (-2147483648), .null]) rfl dX1_init_17 ?_
  generalize eM21 : j_up M18 a (.inr (1, [.int 0, .int 0, .int 0, .int 0, .int (-2147483648), .null])) = M21
  have h23 : M21 a = some (.inr (1, [.int 0, .int 0, .int 0, .int 0, .int (-2147483648), .null])) := by rw [← eM21]; exact j_up_self _ _ _
  refine j_aload_n X 0 dX1_init_20 rfl rfl ?_
  refine j_iload_n X 1 dX1_init_21 rfl rfl ?_
  refine j_putF X h23 rfl iwX1_init_X1 tyX1 tyX1_ok nmX1 0 (by decide) lkX1_init_22 rfl hnm rfl rfl rfl (Nat.le_of_ble_eq_true rfl) (fs' := [.int e1, .int 0, .int 0, .int 0, .int (-2147483648), .null]) rfl dX1_init_22 ?_
  generalize eM24 : j_up M21 a (.inr (1, [.int e1, .int 0, .int 0, .int 0, .int (-2147483648), .null])) = M24
  have h26 : M24 a = some (.inr (1, [.int e1, .int 0, .int 0, .int 0, .int (-2147483648), .null])) := by rw [← eM24]; exact j_up_self _ _ _
  refine j_aload_n X 0 dX1_init_25 rfl rfl ?_
  refine j_iload_n X 2 dX1_init_26 rfl rfl ?_
  refine j_putF X h26 rfl iwX1_init_X1 tyX1 tyX1_ok nmX1 1 (by decide) lkX1_init_25 rfl hnm rfl rfl rfl (Nat.le_of_ble_eq_true rfl) (fs' := [.int e1, .int k1, .int 0, .int 0, .int (-2147483648), .null]) rfl dX1_init_27 ?_
  generalize eM27 : j_up M24 a (.inr (1, [.int e1, .int k1, .int 0, .int 0, .int (-2147483648), .null])) = M27
  have h29 : M27 a = some (.inr (1, [.int e1, .int k1, .int 0, .int 0, .int (-2147483648), .null])) := by rw [← eM27]; exact j_up_self _ _ _
  refine j_aload_n X 0 dX1_init_30 rfl rfl ?_
  refine j_aload_nQ X 3 dX1_init_31 rfl rfl ?_
  refine j_put X h29 rfl iwX1_init_X1 tyX1 tyX1_ok nmX1 5 (by decide) lkX1_init_28 rfl (by cases nx <;> rfl) (by cases nx <;> rfl) (Nat.le_of_ble_eq_true rfl) (fs' := [.int e1, .int k1, .int 0, .int 0, .int (-2147483648), va_rf nx]) rfl dX1_init_32 ?_
  generalize eM30 : j_up M27 a (.inr (1, [.int e1, .int k1, .int 0, .int 0, .int (-2147483648), va_rf nx])) = M30
  have h32 : M30 a = some (.inr (1, [.int e1, .int k1, .int 0, .int 0, .int (-2147483648), va_rf nx])) := by rw [← eM30]; exact j_up_self _ _ _
  exact j_vret X hlk hr (by omega) (by omega) dX1_init_35 ⟨rfl, rfl, h32, fun q hq => by rw [← eM30, j_up_ne _ _ (hq), ← eM27, j_up_ne _ _ (hq), ← eM24, j_up_ne _ _ (hq), ← eM21, j_up_ne _ _ (hq), ← eM18, j_up_ne _ _ (hq), ← eM15, j_up_ne _ _ (hq)]⟩
set_option maxHeartbeats 800000 in
set_option maxRecDepth 100000 in
theorem c_X2_lastBefore (l : Launch) (D : va_G) {ty : jT} {cA : ClassId} (hI : ty[0]? = some (cA, .int)) (b0 : Nat) {M : jM} {n : Nat} {x0 : Nd} {t0 : List Nd} (h : Seg M (some x0.1) (x0 :: t0) none) (e1 k1 : Int32) : Ct l D ty vwCl nwSQ b0 yX2_lastBefore wsX2_lastBefore 1 22 0 0 [.ref x0.1, .int e1, .int k1] M n (j_rd (.ref (lb e1 k1 x0 t0).1.1) M n) := by
  refine j_start (cc := cX2_lastBefore) (maxL := 4) (ret := (some (.object "StreamQuery$Group"))) (by decide) rfl [some (.ref x0.1), some (.int e1), some (.int k1), none] (Nat.le_of_ble_eq_true rfl) rfl ?_
  intro p e s m below meth c X hlk hr hnm
  have loop : ∀ (t : List Nd) (x : Nd), Seg M (some x.1) (x :: t) none → lb e1 k1 x t = lb e1 k1 x0 t0 → J p l e { frames := 1, cells := 0, slots := 0, locals := 22 } s m ([.ref x0.1, .int e1, .int k1] : List Value).toArray below meth c D ty vwCl b0 (MQ below (j_Q D ty vwCl b0 (j_rd (.ref (lb e1 k1 x0 t0).1.1) M n)) ([.ref x0.1, .int e1, .int k1] : List Value).toArray s 0 0 (fun q => b0 ≤ q)) 4 M n 0 0 2 [some (.ref x0.1), some (.int e1), some (.int k1), some (.ref x.1)] [] := by
    intro t
    induction t with
    | nil =>
      intro x hs he
      obtain ⟨_, nx, h1, h2⟩ := hs
      cases h2
      have h1 : M x.1 = some (.inr (1, [.int x.2.1, .int x.2.2.1, .int x.2.2.2.1, .int x.2.2.2.2.1, .int x.2.2.2.2.2, .null])) := h1
      refine j_aload_n X 3 dX2_lastBefore_2 rfl rfl ?_
      refine j_getN X h1 rfl iwX2_lastBefore_X1 5 (by decide) lkX2_lastBefore_21 rfl dX2_lastBefore_3 ?_
      refine j_ifnullN X 29 dX2_lastBefore_6 (by decide) ?_
      refine j_aload_n X 3 dX2_lastBefore_29 rfl rfl ?_
      exact j_aret X hlk hr (by omega) (by omega) (r := some x.1) dX2_lastBefore_30 ⟨by rw [← he]; rfl, rfl, rfl⟩
    | cons y t ih =>
      intro x hs he
      obtain ⟨_, nx, h1, h2⟩ := hs
      obtain ⟨rfl, ny, h3, h4⟩ := h2
      have h1 : M x.1 = some (.inr (1, [.int x.2.1, .int x.2.2.1, .int x.2.2.2.1, .int x.2.2.2.2.1, .int x.2.2.2.2.2, .ref y.1])) := h1
      rw [lb_cons] at he
      refine j_aload_n X 3 dX2_lastBefore_2 rfl rfl ?_
      refine j_getN X h1 rfl iwX2_lastBefore_X1 5 (by decide) lkX2_lastBefore_21 rfl dX2_lastBefore_3 ?_
      refine j_ifnullR X dX2_lastBefore_6 ?_
      refine j_aload_n X 3 dX2_lastBefore_9 rfl rfl ?_
      refine j_getN X h1 rfl iwX2_lastBefore_X1 5 (by decide) lkX2_lastBefore_21 rfl dX2_lastBefore_10 ?_
      refine j_iload_n X 1 dX2_lastBefore_13 rfl rfl ?_
      refine j_iload_n X 2 dX2_lastBefore_14 rfl rfl ?_
      refine j_callV X nwSQ_ok (As := [.int e1, .int k1]) (rest := []) h3 rfl rfl (c_X1_isBefore l D hI b0 h3 e1 k1) rfl gX2_lastBefore_X1_isBefore ⟨rfl, ddX1_isBefore⟩ ⟨Nat.le_of_ble_eq_true rfl, Nat.le_of_ble_eq_true rfl⟩ (Nat.le_of_ble_eq_true rfl) rfl dX2_lastBefore_15 ⟨(by show 0 + 0 ≤ 0; omega), (by show 0 + 0 ≤ 0; omega)⟩ (fun r33 M34 n35 hr36 => ?_)
      obtain ⟨rfl, rfl, rfl⟩ := hr36
      refine j_st (st := [.int (if bef y.2 e1 k1 then 1 else 0)]) rfl ?_
      refine j_if_eq X 29 dX2_lastBefore_18 (by decide) (fun c37 => ?_) (fun c37 => ?_)
      · skip
        refine j_aload_n X 3 dX2_lastBefore_29 rfl rfl ?_
        exact j_aret X hlk hr (by omega) (by omega) (r := some x.1) dX2_lastBefore_30 ⟨by rw [if_neg (fun hq => by rw [if_pos hq] at c37; exact absurd c37 (by decide))] at he; rw [← he]; rfl, rfl, rfl⟩
      · skip
        refine j_aload_n X 3 dX2_lastBefore_21 rfl rfl ?_
        refine j_getN X h1 rfl iwX2_lastBefore_X1 5 (by decide) lkX2_lastBefore_21 rfl dX2_lastBefore_22 ?_
        refine j_astore_n X 3 dX2_lastBefore_25 rfl (by decide) rfl (L' := [some (.ref x0.1), some (.int e1), some (.int k1), some (.ref y.1)]) rfl ?_
        refine j_goto X 2 dX2_lastBefore_26 (by decide) ?_
        have hb : bef y.2 e1 k1 = true := by cases hq : bef y.2 e1 k1 <;> simp [hq] at c37 ⊢
        rw [if_pos hb] at he
        exact ih y ⟨rfl, ny, h3, h4⟩ he
  refine j_aload_n X 0 dX2_lastBefore_0 rfl rfl ?_
  refine j_astore_n X 3 dX2_lastBefore_1 rfl (by decide) rfl (L' := [some (.ref x0.1), some (.int e1), some (.int k1), some (.ref x0.1)]) rfl ?_
  exact loop t0 x0 h rfl
set_option maxHeartbeats 800000 in
set_option maxRecDepth 100000 in
theorem c_X2_head (l : Launch) (D : va_G) {ty : jT} {cA : ClassId} (hI : ty[0]? = some (cA, .int)) (b0 : Nat) {M : jM} {n o : Nat} {cs : List Nd} (h : GrAt M o cs) : Ct l D ty vwCl nwSQ b0 yX2_head wsX2_head 0 0 0 0 [.ref o] M n (j_rd (.ref (o + 1)) M n) := by
  obtain ⟨h0, hs0⟩ := id h
  refine j_start (cc := cX2_head) (maxL := 1) (ret := (some (.object "StreamQuery$Group"))) (by decide) rfl [some (.ref o)] (Nat.le_of_ble_eq_true rfl) rfl ?_
  intro p e s m below meth c X hlk hr hnm
  refine j_aload_n X 0 dX2_head_0 rfl rfl ?_
  refine j_get X h0 rfl iwX2_head_X2 0 (by decide) lkX2_head_15 rfl dX2_head_1 ?_
  exact j_aret X hlk hr (by omega) (by omega) (r := some (o + 1)) dX2_head_4 ⟨rfl, rfl, rfl⟩
set_option maxHeartbeats 800000 in
set_option maxRecDepth 100000 in
theorem c_X2_clear (l : Launch) (D : va_G) {ty : jT} {cA : ClassId} (hI : ty[0]? = some (cA, .int)) (b0 : Nat) {M : jM} {n o : Nat} {cs : List Nd} (h : GrAt M o cs) : Ct l D ty vwCl nwSQ b0 yX2_clear wsX2_clear 0 0 0 0 [.ref o] M n (fun r M' n' => r = none ∧ n = n' ∧ GrAt M' o [] ∧ ∀ q, q ≠ o + 1 → M' q = M q) := by
  obtain ⟨h0, hs0⟩ := id h
  obtain ⟨_, nx, h1, hs1⟩ := hs0
  have h1 : M (o + 1) = some (.inr (1, [.int (-2147483648), .int (-2147483648), .int 0, .int 0, .int (-2147483648), va_rf nx])) := h1
  refine j_start (cc := cX2_clear) (maxL := 1) (ret := none) (by decide) rfl [some (.ref o)] (Nat.le_of_ble_eq_true rfl) rfl ?_
  intro p e s m below meth c X hlk hr hnm
  refine j_aload_n X 0 dX2_clear_0 rfl rfl ?_
  refine j_get X h0 rfl iwX2_clear_X2 0 (by decide) lkX2_clear_15 rfl dX2_clear_1 ?_
  refine j_null X dX2_clear_4 ?_
  refine j_putN X h1 rfl iwX2_clear_X1 tyX1 tyX1_ok nmX1 5 (by decide) lkX2_clear_21 rfl rfl rfl (Nat.le_of_ble_eq_true rfl) (fs' := [.int (-2147483648), .int (-2147483648), .int 0, .int 0, .int (-2147483648), .null]) rfl dX2_clear_5 ?_
  generalize eM38 : j_up M (o + 1) (.inr (1, [.int (-2147483648), .int (-2147483648), .int 0, .int 0, .int (-2147483648), .null])) = M38
  have h39 : M38 o = some (.inr (2, [.ref (o + 1)])) := by rw [← eM38, j_up_ne _ _ (by omega)]; exact h0
  have h41 : M38 (o + 1) = some (.inr (1, [.int (-2147483648), .int (-2147483648), .int 0, .int 0, .int (-2147483648), .null])) := by rw [← eM38]; exact j_up_self _ _ _
  exact j_vret X hlk hr (by omega) (by omega) dX2_clear_8 ⟨rfl, rfl, ⟨h39, rfl, none, h41, rfl⟩, fun q hq => by rw [← eM38, j_up_ne _ _ (hq)]⟩
set_option maxHeartbeats 800000 in
set_option maxRecDepth 100000 in
theorem c_X2_init (l : Launch) (D : va_G) {ty : jT} {cA : ClassId} (hI : ty[0]? = some (cA, .int)) (b0 : Nat) {M : jM} {n o : Nat} (hn : n = o + 1) (h0 : M o = some (.inr (2, [.null]))) : Ct l D ty vwCl nwSQ b0 yX2_init wsX2_init 2 43 1 6 [.ref o] M (o + 1) (fun r M' n' => r = none ∧ n' = o + 2 ∧ GrAt M' o [] ∧ ∀ q, (q < o ∨ o + 1 < q) → M' q = M q) := by
  subst hn
  refine j_start (cc := cX2_init) (maxL := 1) (ret := none) (by decide) rfl [some (.ref o)] (Nat.le_of_ble_eq_true rfl) rfl ?_
  intro p e s m below meth c X hlk hr hnm
  refine j_aload_n X 0 dX2_init_0 rfl rfl ?_
  refine j_objInit X wdX2_init_oi1 wdX2_init_oj wdX2_init_ok dX2_init_1 (Nat.le_of_ble_eq_true rfl) (Nat.le_of_ble_eq_true rfl) ?_
  refine j_aload_n X 0 dX2_init_4 rfl rfl ?_
  refine j_new X (ci := 1) (fs := [.int 0, .int 0, .int 0, .int 0, .int 0, .null]) rfl iwX2_init_X1 tyX1 tyX1_ok wdX2_init_cl7 wdX2_init_itX1 wdX2_init_inX1 dfX1 (by decide) (by decide) dX2_init_5 ?_
  generalize eM42 : j_up M (o + 1) (.inr (1, [.int 0, .int 0, .int 0, .int 0, .int 0, .null])) = M42
  have h43 : M42 o = some (.inr (2, [.null])) := by rw [← eM42, j_up_ne _ _ (by omega)]; exact h0
  have h44 : M42 (o + 1) = some (.inr (1, [.int 0, .int 0, .int 0, .int 0, .int 0, .null])) := by rw [← eM42]; exact j_up_self _ _ _
  refine j_dup X dX2_init_8 rfl ?_
  refine j_ldc X dX2_init_9 wdX2_init_c11 ?_
  refine j_ldc X dX2_init_11 wdX2_init_c11 ?_
  refine j_null X dX2_init_13 ?_
  refine j_callI X nwSQ_ok (As := [.int (-2147483648), .int (-2147483648), .null]) (rest := [.ref (o + 1), .ref o]) (b := o + 1) rfl (c_X1_init l D hI b0 h44 (nx := none) (-2147483648) (-2147483648)) rfl rfl gX2_init_X1_init wdX2_init_inX1 wdX2_init_ml12 wdX2_init_imX1_init rfl ddX1_init ⟨Nat.le_of_ble_eq_true rfl, Nat.le_of_ble_eq_true rfl⟩ (Nat.le_of_ble_eq_true rfl) rfl dX2_init_14 ⟨(by show 1 + 0 ≤ 1; omega), (by show 6 + 0 ≤ 6; omega)⟩ (fun r45 M46 n47 hr48 => ?_)
  obtain ⟨rfl, rfl, hg2, hf2⟩ := hr48
  refine j_st (st := [.ref (o + 1), .ref o]) rfl ?_
  have h49 : M46 o = some (.inr (2, [.null])) := by rw [hf2 o (by omega)]; exact h43
  refine j_putF X h49 rfl iwX2_init_X2 tyX2 tyX2_ok nmX2 0 (by decide) lkX2_init_15 rfl hnm rfl rfl rfl (Nat.le_of_ble_eq_true rfl) (fs' := [.ref (o + 1)]) rfl dX2_init_17 ?_
  generalize eM50 : j_up M46 o (.inr (2, [.ref (o + 1)])) = M50
  have h52 : M50 (o + 1) = some (.inr (1, [.int (-2147483648), .int (-2147483648), .int 0, .int 0, .int (-2147483648), .null])) := by rw [← eM50, j_up_ne _ _ (by omega)]; exact hg2
  have h53 : M50 o = some (.inr (2, [.ref (o + 1)])) := by rw [← eM50]; exact j_up_self _ _ _
  exact j_vret X hlk hr (by omega) (by omega) dX2_init_20 ⟨rfl, rfl, ⟨h53, rfl, none, h52, rfl⟩, fun q hq => by rw [← eM50, j_up_ne _ _ (by omega), hf2 _ (by omega), ← eM42, j_up_ne _ _ (by omega)]⟩
set_option maxHeartbeats 800000 in
set_option maxRecDepth 100000 in
theorem c_X2_find (l : Launch) (D : va_G) {ty : jT} {cA : ClassId} (hI : ty[0]? = some (cA, .int)) (b0 : Nat) {M : jM} {n o : Nat} {cs : List Nd} (h : GrAt M o cs) (e1 k1 : Int32) : Ct l D ty vwCl nwSQ b0 yX2_find wsX2_find 2 45 0 0 [.ref o, .int e1, .int k1] M n (j_rd (va_rf (fnd e1 k1 (lb e1 k1 (o + 1, g_hd) cs).2)) M n) := by
  obtain ⟨h0, hs0⟩ := id h
  have hsg := lb_seg (e := e1) (k := k1) (x := (o + 1, g_hd)) hs0
  generalize hR : lb e1 k1 (o + 1, g_hd) cs = R at hsg ⊢
  obtain ⟨x, tl⟩ := R
  obtain ⟨_, nx, hx0, hsx⟩ := hsg
  refine j_start (cc := cX2_find) (maxL := 4) (ret := (some (.object "StreamQuery$Group"))) (by decide) rfl [some (.ref o), some (.int e1), some (.int k1), none] (Nat.le_of_ble_eq_true rfl) rfl ?_
  intro p e s m below meth c X hlk hr hnm
  cases tl with
  | nil =>
    cases hsx
    have hx : M x.1 = some (.inr (1, [.int x.2.1, .int x.2.2.1, .int x.2.2.2.1, .int x.2.2.2.2.1, .int x.2.2.2.2.2, .null])) := hx0
    refine j_aload_n X 0 dX2_find_0 rfl rfl ?_
    refine j_get X h0 rfl iwX2_find_X2 0 (by decide) lkX2_find_15 rfl dX2_find_1 ?_
    refine j_iload_n X 1 dX2_find_4 rfl rfl ?_
    refine j_iload_n X 2 dX2_find_5 rfl rfl ?_
    refine j_callS X nwSQ_ok (As := [.ref (o + 1), .int e1, .int k1]) (rest := []) rfl (c_X2_lastBefore l D hI b0 (x0 := (o + 1, g_hd)) hs0 e1 k1) rfl gX2_find_X2_lastBefore ddX2_lastBefore ⟨Nat.le_of_ble_eq_true rfl, Nat.le_of_ble_eq_true rfl⟩ (Nat.le_of_ble_eq_true rfl) rfl dX2_find_6 ⟨(by show 0 + 0 ≤ 0; omega), (by show 0 + 0 ≤ 0; omega)⟩ (fun r54 M55 n56 hr57 => ?_)
    obtain ⟨rfl, rfl, rfl⟩ := hr57
    refine j_st (st := [.ref x.1]) (by rw [hR]; rfl) ?_
    refine j_getN X hx rfl iwX2_find_X1 5 (by decide) lkX2_find_21 rfl dX2_find_9 ?_
    refine j_astore_nN X 3 dX2_find_12 rfl (by decide) rfl (L' := [some (.ref o), some (.int e1), some (.int k1), some (.null)]) rfl ?_
    refine j_aload_nN X 3 dX2_find_13 rfl rfl ?_
    refine j_ifnullN X 30 dX2_find_14 (by decide) ?_
    refine j_null X dX2_find_30 ?_
    exact j_aret X hlk hr (by omega) (by omega) (r := none) dX2_find_31 ⟨rfl, rfl, rfl⟩
  | cons y t =>
    obtain ⟨rfl, ny, hy0, hsy⟩ := hsx
    have hx : M x.1 = some (.inr (1, [.int x.2.1, .int x.2.2.1, .int x.2.2.2.1, .int x.2.2.2.2.1, .int x.2.2.2.2.2, .ref y.1])) := hx0
    refine j_aload_n X 0 dX2_find_0 rfl rfl ?_
    refine j_get X h0 rfl iwX2_find_X2 0 (by decide) lkX2_find_15 rfl dX2_find_1 ?_
    refine j_iload_n X 1 dX2_find_4 rfl rfl ?_
    refine j_iload_n X 2 dX2_find_5 rfl rfl ?_
    refine j_callS X nwSQ_ok (As := [.ref (o + 1), .int e1, .int k1]) (rest := []) rfl (c_X2_lastBefore l D hI b0 (x0 := (o + 1, g_hd)) hs0 e1 k1) rfl gX2_find_X2_lastBefore ddX2_lastBefore ⟨Nat.le_of_ble_eq_true rfl, Nat.le_of_ble_eq_true rfl⟩ (Nat.le_of_ble_eq_true rfl) rfl dX2_find_6 ⟨(by show 0 + 0 ≤ 0; omega), (by show 0 + 0 ≤ 0; omega)⟩ (fun r58 M59 n60 hr61 => ?_)
    obtain ⟨rfl, rfl, rfl⟩ := hr61
    refine j_st (st := [.ref x.1]) (by rw [hR]; rfl) ?_
    refine j_getN X hx rfl iwX2_find_X1 5 (by decide) lkX2_find_21 rfl dX2_find_9 ?_
    refine j_astore_n X 3 dX2_find_12 rfl (by decide) rfl (L' := [some (.ref o), some (.int e1), some (.int k1), some (.ref y.1)]) rfl ?_
    refine j_aload_n X 3 dX2_find_13 rfl rfl ?_
    refine j_ifnullR X dX2_find_14 ?_
    refine j_aload_n X 3 dX2_find_17 rfl rfl ?_
    refine j_iload_n X 1 dX2_find_18 rfl rfl ?_
    refine j_iload_n X 2 dX2_find_19 rfl rfl ?_
    refine j_callV X nwSQ_ok (As := [.int e1, .int k1]) (rest := []) hy0 rfl rfl (c_X1_isOf l D hI b0 hy0 e1 k1) rfl gX2_find_X1_isOf ⟨rfl, ddX1_isOf⟩ ⟨Nat.le_of_ble_eq_true rfl, Nat.le_of_ble_eq_true rfl⟩ (Nat.le_of_ble_eq_true rfl) rfl dX2_find_20 ⟨(by show 0 + 0 ≤ 0; omega), (by show 0 + 0 ≤ 0; omega)⟩ (fun r62 M63 n64 hr65 => ?_)
    obtain ⟨rfl, rfl, rfl⟩ := hr65
    refine j_st (st := [.int (if isof y.2 e1 k1 then 1 else 0)]) rfl ?_
    refine j_if_eq X 30 dX2_find_23 (by decide) (fun c66 => ?_) (fun c66 => ?_)
    · skip
      refine j_null X dX2_find_30 ?_
      exact j_aret X hlk hr (by omega) (by omega) (r := none) dX2_find_31 ⟨by cases hb : isof y.2 e1 k1 <;> simp [fnd, hb] at c66 ⊢, rfl, rfl⟩
    · skip
      refine j_aload_n X 3 dX2_find_26 rfl rfl ?_
      refine j_goto X 31 dX2_find_27 (by decide) ?_
      exact j_aret X hlk hr (by omega) (by omega) (r := some y.1) dX2_find_31 ⟨by cases hb : isof y.2 e1 k1 <;> simp [fnd, hb] at c66 ⊢, rfl, rfl⟩
set_option maxHeartbeats 800000 in
set_option maxRecDepth 100000 in
theorem c_X2_placeFrom (l : Launch) (D : va_G) {ty : jT} {cA : ClassId} (hI : ty[0]? = some (cA, .int)) (b0 : Nat) {M : jM} {n o : Nat} {fs : List Value} (h0 : M o = some (.inr (2, fs))) {x0 : Nd} {t0 : List Nd} (hs0 : Seg M (some x0.1) (x0 :: t0) none) (e1 k1 : Int32) : Ct l D ty vwCl nwSQ b0 yX2_placeFrom wsX2_placeFrom 2 45 1 6 [.ref o, .ref x0.1, .int e1, .int k1] M n (placed M n e1 k1 (lb e1 k1 x0 t0)) := by
  have hsg := lb_seg (e := e1) (k := k1) (x := x0) hs0
  generalize hR : lb e1 k1 x0 t0 = R at hsg ⊢
  obtain ⟨x, tl⟩ := R
  obtain ⟨_, nx, hx0, hsx⟩ := hsg
  refine j_start (cc := cX2_placeFrom) (maxL := 6) (ret := (some (.object "StreamQuery$Group"))) (by decide) rfl [some (.ref o), some (.ref x0.1), some (.int e1), some (.int k1), none, none] (Nat.le_of_ble_eq_true rfl) rfl ?_
  intro p e s m below meth c X hlk hr hnm
  cases tl with
  | nil =>
    refine j_lt hx0 (fun hxl => ?_)
    have hxl : b0 ≤ x.1 ∧ x.1 < n := hxl
    cases hsx
    have hx : M x.1 = some (.inr (1, [.int x.2.1, .int x.2.2.1, .int x.2.2.2.1, .int x.2.2.2.2.1, .int x.2.2.2.2.2, .null])) := hx0
    refine j_aload_n X 1 dX2_placeFrom_0 rfl rfl ?_
    refine j_iload_n X 2 dX2_placeFrom_1 rfl rfl ?_
    refine j_iload_n X 3 dX2_placeFrom_2 rfl rfl ?_
    refine j_callS X nwSQ_ok (As := [.ref x0.1, .int e1, .int k1]) (rest := []) rfl (c_X2_lastBefore l D hI b0 hs0 e1 k1) rfl gX2_placeFrom_X2_lastBefore ddX2_lastBefore ⟨Nat.le_of_ble_eq_true rfl, Nat.le_of_ble_eq_true rfl⟩ (Nat.le_of_ble_eq_true rfl) rfl dX2_placeFrom_3 ⟨(by show 0 + 0 ≤ 1; omega), (by show 0 + 0 ≤ 6; omega)⟩ (fun r67 M68 n69 hr70 => ?_)
    obtain ⟨rfl, rfl, rfl⟩ := hr70
    refine j_st (st := [.ref x.1]) (by rw [hR]; rfl) ?_
    refine j_astore X dX2_placeFrom_6 (by decide) rfl (L' := [some (.ref o), some (.ref x0.1), some (.int e1), some (.int k1), some (.ref x.1), none]) rfl ?_
    refine j_aload X dX2_placeFrom_8 rfl ?_
    refine j_getN X hx rfl iwX2_placeFrom_X1 5 (by decide) lkX2_placeFrom_21 rfl dX2_placeFrom_10 ?_
    refine j_astoreN X dX2_placeFrom_13 (by decide) rfl (L' := [some (.ref o), some (.ref x0.1), some (.int e1), some (.int k1), some (.ref x.1), some (.null)]) rfl ?_
    refine j_aloadN X dX2_placeFrom_15 rfl ?_
    refine j_ifnullN X 30 dX2_placeFrom_17 (by decide) ?_
    refine j_new X (ci := 1) (fs := [.int 0, .int 0, .int 0, .int 0, .int 0, .null]) rfl iwX2_placeFrom_X1 tyX1 tyX1_ok wdX2_placeFrom_cl7 wdX2_placeFrom_itX1 wdX2_placeFrom_inX1 dfX1 (by decide) (by decide) dX2_placeFrom_30 ?_
    generalize eM71 : j_up M n (.inr (1, [.int 0, .int 0, .int 0, .int 0, .int 0, .null])) = M71
    have h72 : M71 x.1 = some (.inr (1, [.int x.2.1, .int x.2.2.1, .int x.2.2.2.1, .int x.2.2.2.2.1, .int x.2.2.2.2.2, .null])) := by rw [← eM71, j_up_ne _ _ (by omega)]; exact hx
    have h73 : M71 n = some (.inr (1, [.int 0, .int 0, .int 0, .int 0, .int 0, .null])) := by rw [← eM71]; exact j_up_self _ _ _
    refine j_dup X dX2_placeFrom_33 rfl ?_
    refine j_iload_n X 2 dX2_placeFrom_34 rfl rfl ?_
    refine j_iload_n X 3 dX2_placeFrom_35 rfl rfl ?_
    refine j_aloadN X dX2_placeFrom_36 rfl ?_
    refine j_callI X nwSQ_ok (As := [.int e1, .int k1, .null]) (rest := [.ref n]) (b := n) rfl (c_X1_init l D hI b0 h73 (nx := none) e1 k1) rfl rfl gX2_placeFrom_X1_init wdX2_placeFrom_inX1 wdX2_placeFrom_ml12 wdX2_placeFrom_imX1_init rfl ddX1_init ⟨Nat.le_of_ble_eq_true rfl, Nat.le_of_ble_eq_true rfl⟩ (Nat.le_of_ble_eq_true rfl) rfl dX2_placeFrom_38 ⟨(by show 1 + 0 ≤ 1; omega), (by show 6 + 0 ≤ 6; omega)⟩ (fun r74 M75 n76 hr77 => ?_)
    obtain ⟨rfl, rfl, hg2, hf2⟩ := hr77
    refine j_st (st := [.ref n]) rfl ?_
    have h78 : M75 x.1 = some (.inr (1, [.int x.2.1, .int x.2.2.1, .int x.2.2.2.1, .int x.2.2.2.2.1, .int x.2.2.2.2.2, .null])) := by rw [hf2 x.1 (by omega)]; exact h72
    refine j_astore X dX2_placeFrom_41 (by decide) rfl (L' := [some (.ref o), some (.ref x0.1), some (.int e1), some (.int k1), some (.ref x.1), some (.ref n)]) rfl ?_
    refine j_aload X dX2_placeFrom_43 rfl ?_
    refine j_aload X dX2_placeFrom_45 rfl ?_
    refine j_putN X h78 rfl iwX2_placeFrom_X1 tyX1 tyX1_ok nmX1 5 (by decide) lkX2_placeFrom_21 rfl rfl rfl (Nat.le_of_ble_eq_true rfl) (fs' := [.int x.2.1, .int x.2.2.1, .int x.2.2.2.1, .int x.2.2.2.2.1, .int x.2.2.2.2.2, .ref n]) rfl dX2_placeFrom_47 ?_
    generalize eM79 : j_up M75 x.1 (.inr (1, [.int x.2.1, .int x.2.2.1, .int x.2.2.2.1, .int x.2.2.2.2.1, .int x.2.2.2.2.2, .ref n])) = M79
    have h81 : M79 n = some (.inr (1, [.int e1, .int k1, .int 0, .int 0, .int (-2147483648), .null])) := by rw [← eM79, j_up_ne _ _ (by omega)]; exact hg2
    have h82 : M79 x.1 = some (.inr (1, [.int x.2.1, .int x.2.2.1, .int x.2.2.2.1, .int x.2.2.2.2.1, .int x.2.2.2.2.2, .ref n])) := by rw [← eM79]; exact j_up_self _ _ _
    refine j_aload X dX2_placeFrom_50 rfl ?_
    exact j_aret X hlk hr (by omega) (by omega) (r := some n) dX2_placeFrom_52 (Or.inr ⟨fun y t hq => (by cases hq), rfl, rfl, h81, h82, fun q h1 h2 => by rw [← eM79, j_up_ne _ _ (by assumption), hf2 _ (by assumption), ← eM71, j_up_ne _ _ (by assumption)]⟩)
  | cons y t =>
    refine j_lt hx0 (fun hxl => ?_)
    have hxl : b0 ≤ x.1 ∧ x.1 < n := hxl
    obtain ⟨rfl, ny, hy0, hsy⟩ := hsx
    have hx : M x.1 = some (.inr (1, [.int x.2.1, .int x.2.2.1, .int x.2.2.2.1, .int x.2.2.2.2.1, .int x.2.2.2.2.2, .ref y.1])) := hx0
    refine j_aload_n X 1 dX2_placeFrom_0 rfl rfl ?_
    refine j_iload_n X 2 dX2_placeFrom_1 rfl rfl ?_
    refine j_iload_n X 3 dX2_placeFrom_2 rfl rfl ?_
    refine j_callS X nwSQ_ok (As := [.ref x0.1, .int e1, .int k1]) (rest := []) rfl (c_X2_lastBefore l D hI b0 hs0 e1 k1) rfl gX2_placeFrom_X2_lastBefore ddX2_lastBefore ⟨Nat.le_of_ble_eq_true rfl, Nat.le_of_ble_eq_true rfl⟩ (Nat.le_of_ble_eq_true rfl) rfl dX2_placeFrom_3 ⟨(by show 0 + 0 ≤ 1; omega), (by show 0 + 0 ≤ 6; omega)⟩ (fun r83 M84 n85 hr86 => ?_)
    obtain ⟨rfl, rfl, rfl⟩ := hr86
    refine j_st (st := [.ref x.1]) (by rw [hR]; rfl) ?_
    refine j_astore X dX2_placeFrom_6 (by decide) rfl (L' := [some (.ref o), some (.ref x0.1), some (.int e1), some (.int k1), some (.ref x.1), none]) rfl ?_
    refine j_aload X dX2_placeFrom_8 rfl ?_
    refine j_getN X hx rfl iwX2_placeFrom_X1 5 (by decide) lkX2_placeFrom_21 rfl dX2_placeFrom_10 ?_
    refine j_astore X dX2_placeFrom_13 (by decide) rfl (L' := [some (.ref o), some (.ref x0.1), some (.int e1), some (.int k1), some (.ref x.1), some (.ref y.1)]) rfl ?_
    refine j_aload X dX2_placeFrom_15 rfl ?_
    refine j_ifnullR X dX2_placeFrom_17 ?_
    refine j_aload X dX2_placeFrom_20 rfl ?_
    refine j_iload_n X 2 dX2_placeFrom_22 rfl rfl ?_
    refine j_iload_n X 3 dX2_placeFrom_23 rfl rfl ?_
    refine j_callV X nwSQ_ok (As := [.int e1, .int k1]) (rest := []) hy0 rfl rfl (c_X1_isOf l D hI b0 hy0 e1 k1) rfl gX2_placeFrom_X1_isOf ⟨rfl, ddX1_isOf⟩ ⟨Nat.le_of_ble_eq_true rfl, Nat.le_of_ble_eq_true rfl⟩ (Nat.le_of_ble_eq_true rfl) rfl dX2_placeFrom_24 ⟨(by show 0 + 0 ≤ 1; omega), (by show 0 + 0 ≤ 6; omega)⟩ (fun r87 M88 n89 hr90 => ?_)
    obtain ⟨rfl, rfl, rfl⟩ := hr90
    refine j_st (st := [.int (if isof y.2 e1 k1 then 1 else 0)]) rfl ?_
    refine j_if_ne X 50 dX2_placeFrom_27 (by decide) (fun c91 => ?_) (fun c91 => ?_)
    · skip
      refine j_aload X dX2_placeFrom_50 rfl ?_
      exact j_aret X hlk hr (by omega) (by omega) (r := some y.1) dX2_placeFrom_52 (Or.inl ⟨y, t, rfl, by cases hb : isof y.2 e1 k1 <;> simp [hb] at c91 ⊢, rfl, rfl, rfl⟩)
    · skip
      refine j_new X (ci := 1) (fs := [.int 0, .int 0, .int 0, .int 0, .int 0, .null]) rfl iwX2_placeFrom_X1 tyX1 tyX1_ok wdX2_placeFrom_cl7 wdX2_placeFrom_itX1 wdX2_placeFrom_inX1 dfX1 (by decide) (by decide) dX2_placeFrom_30 ?_
      generalize eM92 : j_up M n (.inr (1, [.int 0, .int 0, .int 0, .int 0, .int 0, .null])) = M92
      have h93 : M92 x.1 = some (.inr (1, [.int x.2.1, .int x.2.2.1, .int x.2.2.2.1, .int x.2.2.2.2.1, .int x.2.2.2.2.2, .ref y.1])) := by rw [← eM92, j_up_ne _ _ (by omega)]; exact hx
      have h94 : M92 n = some (.inr (1, [.int 0, .int 0, .int 0, .int 0, .int 0, .null])) := by rw [← eM92]; exact j_up_self _ _ _
      refine j_dup X dX2_placeFrom_33 rfl ?_
      refine j_iload_n X 2 dX2_placeFrom_34 rfl rfl ?_
      refine j_iload_n X 3 dX2_placeFrom_35 rfl rfl ?_
      refine j_aload X dX2_placeFrom_36 rfl ?_
      refine j_callI X nwSQ_ok (As := [.int e1, .int k1, .ref y.1]) (rest := [.ref n]) (b := n) rfl (c_X1_init l D hI b0 h94 (nx := (some y.1)) e1 k1) rfl rfl gX2_placeFrom_X1_init wdX2_placeFrom_inX1 wdX2_placeFrom_ml12 wdX2_placeFrom_imX1_init rfl ddX1_init ⟨Nat.le_of_ble_eq_true rfl, Nat.le_of_ble_eq_true rfl⟩ (Nat.le_of_ble_eq_true rfl) rfl dX2_placeFrom_38 ⟨(by show 1 + 0 ≤ 1; omega), (by show 6 + 0 ≤ 6; omega)⟩ (fun r95 M96 n97 hr98 => ?_)
      obtain ⟨rfl, rfl, hg2, hf2⟩ := hr98
      refine j_st (st := [.ref n]) rfl ?_
      have h99 : M96 x.1 = some (.inr (1, [.int x.2.1, .int x.2.2.1, .int x.2.2.2.1, .int x.2.2.2.2.1, .int x.2.2.2.2.2, .ref y.1])) := by rw [hf2 x.1 (by omega)]; exact h93
      refine j_astore X dX2_placeFrom_41 (by decide) rfl (L' := [some (.ref o), some (.ref x0.1), some (.int e1), some (.int k1), some (.ref x.1), some (.ref n)]) rfl ?_
      refine j_aload X dX2_placeFrom_43 rfl ?_
      refine j_aload X dX2_placeFrom_45 rfl ?_
      refine j_putN X h99 rfl iwX2_placeFrom_X1 tyX1 tyX1_ok nmX1 5 (by decide) lkX2_placeFrom_21 rfl rfl rfl (Nat.le_of_ble_eq_true rfl) (fs' := [.int x.2.1, .int x.2.2.1, .int x.2.2.2.1, .int x.2.2.2.2.1, .int x.2.2.2.2.2, .ref n]) rfl dX2_placeFrom_47 ?_
      generalize eM100 : j_up M96 x.1 (.inr (1, [.int x.2.1, .int x.2.2.1, .int x.2.2.2.1, .int x.2.2.2.2.1, .int x.2.2.2.2.2, .ref n])) = M100
      have h102 : M100 n = some (.inr (1, [.int e1, .int k1, .int 0, .int 0, .int (-2147483648), .ref y.1])) := by rw [← eM100, j_up_ne _ _ (by omega)]; exact hg2
      have h103 : M100 x.1 = some (.inr (1, [.int x.2.1, .int x.2.2.1, .int x.2.2.2.1, .int x.2.2.2.2.1, .int x.2.2.2.2.2, .ref n])) := by rw [← eM100]; exact j_up_self _ _ _
      refine j_aload X dX2_placeFrom_50 rfl ?_
      exact j_aret X hlk hr (by omega) (by omega) (r := some n) dX2_placeFrom_52 (Or.inr ⟨fun y t hq => by cases hq; cases hb : isof y.2 e1 k1 <;> simp [hb] at c91 ⊢, rfl, rfl, h102, h103, fun q h1 h2 => by rw [← eM100, j_up_ne _ _ (by assumption), hf2 _ (by assumption), ← eM92, j_up_ne _ _ (by assumption)]⟩)
set_option maxHeartbeats 800000 in
set_option maxRecDepth 100000 in
theorem c_X2_manyUpTo (l : Launch) (D : va_G) {ty : jT} {cA : ClassId} (hI : ty[0]? = some (cA, .int)) (b0 : Nat) {M : jM} {n o : Nat} {cs : List Nd} (h : GrAt M o cs) (e1 : Int32) : Ct l D ty vwCl nwSQ b0 yX2_manyUpTo wsX2_manyUpTo 0 0 0 0 [.ref o, .int e1] M n (j_rd (.int (nI (cs.takeWhile (fun x : Nd => decide (x.2.1 ≤ e1))).length)) M n) := by
  obtain ⟨h0, hs0⟩ := id h
  obtain ⟨_, nx, h1, hs1⟩ := hs0
  have h1 : M (o + 1) = some (.inr (1, [.int (-2147483648), .int (-2147483648), .int 0, .int 0, .int (-2147483648), va_rf nx])) := h1
  refine j_start (cc := cX2_manyUpTo) (maxL := 4) (ret := (some .int)) (by decide) rfl [some (.ref o), some (.int e1), none, none] (Nat.le_of_ble_eq_true rfl) rfl ?_
  intro p e s m below meth c X hlk hr hnm
  have loop : ∀ (t : List Nd) (r : Option Nat) (i : Nat), Seg M r t none → i + (t.takeWhile (fun x : Nd => decide (x.2.1 ≤ e1))).length = (cs.takeWhile (fun x : Nd => decide (x.2.1 ≤ e1))).length → J p l e { frames := 0, cells := 0, slots := 0, locals := 0 } s m ([.ref o, .int e1] : List Value).toArray below meth c D ty vwCl b0 (MQ below (j_Q D ty vwCl b0 (j_rd (.int (nI (cs.takeWhile (fun x : Nd => decide (x.2.1 ≤ e1))).length)) M n)) ([.ref o, .int e1] : List Value).toArray s 0 0 (fun q => b0 ≤ q)) 4 M n 0 0 10 [some (.ref o), some (.int e1), some (.int (nI i)), some (va_rf r)] [] := by
    intro t
    induction t with
    | nil =>
      intro r i hs he
      cases hs
      refine j_aload_nN X 3 dX2_manyUpTo_10 rfl rfl ?_
      refine j_ifnullN X 33 dX2_manyUpTo_11 (by decide) ?_
      refine j_iload_n X 2 dX2_manyUpTo_33 rfl rfl ?_
      exact j_iret X hlk hr (by omega) (by omega) dX2_manyUpTo_34 ⟨by rw [← he]; rfl, rfl, rfl⟩
    | cons y t ih =>
      intro r i hs he
      obtain ⟨rfl, ny, hy0, hsy⟩ := hs
      have hy : M y.1 = some (.inr (1, [.int y.2.1, .int y.2.2.1, .int y.2.2.2.1, .int y.2.2.2.2.1, .int y.2.2.2.2.2, va_rf ny])) := hy0
      refine j_aload_n X 3 dX2_manyUpTo_10 rfl rfl ?_
      refine j_ifnullR X dX2_manyUpTo_11 ?_
      refine j_aload_n X 3 dX2_manyUpTo_14 rfl rfl ?_
      refine j_getN X hy rfl iwX2_manyUpTo_X1 0 (by decide) lkX2_manyUpTo_32 rfl dX2_manyUpTo_15 ?_
      refine j_iload_n X 1 dX2_manyUpTo_18 rfl rfl ?_
      refine j_icmp_gt X 33 dX2_manyUpTo_19 (by decide) (fun c104 => ?_) (fun c104 => ?_)
      · skip
        refine j_iload_n X 2 dX2_manyUpTo_33 rfl rfl ?_
        exact j_iret X hlk hr (by omega) (by omega) dX2_manyUpTo_34 ⟨by rw [List.takeWhile_cons, if_neg (by rw [decide_eq_true_eq]; exact Int32.not_le.mpr c104)] at he; rw [← he]; rfl, rfl, rfl⟩
      · skip
        refine j_iinc X dX2_manyUpTo_22 rfl (v := nI (i + 1)) (nI_1 _) (by decide) rfl (L' := [some (.ref o), some (.int e1), some (.int (nI (i + 1))), some (.ref y.1)]) rfl ?_
        refine j_aload_n X 3 dX2_manyUpTo_25 rfl rfl ?_
        refine j_getN X hy rfl iwX2_manyUpTo_X1 5 (by decide) lkX2_manyUpTo_21 rfl dX2_manyUpTo_26 ?_
        refine j_astore_nQ X 3 dX2_manyUpTo_29 rfl (by decide) rfl (L' := [some (.ref o), some (.int e1), some (.int (nI (i + 1))), some (va_rf ny)]) rfl ?_
        refine j_goto X 10 dX2_manyUpTo_30 (by decide) ?_
        rw [List.takeWhile_cons, if_pos (decide_eq_true (Int32.not_lt.mp c104)), List.length_cons] at he
        exact ih ny (i + 1) hsy (by omega)
  refine j_iconst X dX2_manyUpTo_0 (v := 0) (by decide) ?_
  refine j_istore_n X 2 dX2_manyUpTo_1 rfl (by decide) rfl (L' := [some (.ref o), some (.int e1), some (.int 0), none]) rfl ?_
  refine j_aload_n X 0 dX2_manyUpTo_2 rfl rfl ?_
  refine j_get X h0 rfl iwX2_manyUpTo_X2 0 (by decide) lkX2_manyUpTo_15 rfl dX2_manyUpTo_3 ?_
  refine j_getN X h1 rfl iwX2_manyUpTo_X1 5 (by decide) lkX2_manyUpTo_21 rfl dX2_manyUpTo_6 ?_
  refine j_astore_nQ X 3 dX2_manyUpTo_9 rfl (by decide) rfl (L' := [some (.ref o), some (.int e1), some (.int 0), some (va_rf nx)]) rfl ?_
  exact loop cs nx 0 hs1 (by omega)
set_option maxHeartbeats 800000 in
set_option maxRecDepth 100000 in
theorem c_X2_windowsUpTo (l : Launch) (D : va_G) {ty : jT} {cA : ClassId} (hI : ty[0]? = some (cA, .int)) (b0 : Nat) {M : jM} {n o : Nat} {cs : List Nd} (h : GrAt M o cs) (e1 : Int32) : Ct l D ty vwCl nwSQ b0 yX2_windowsUpTo wsX2_windowsUpTo 0 0 0 0 [.ref o, .int e1] M n (j_rd (.int (nI (wcn e1 (-2147483648) cs))) M n) := by
  obtain ⟨h0, hs0⟩ := id h
  obtain ⟨_, nx, h1, hs1⟩ := hs0
  have h1 : M (o + 1) = some (.inr (1, [.int (-2147483648), .int (-2147483648), .int 0, .int 0, .int (-2147483648), va_rf nx])) := h1
  refine j_start (cc := cX2_windowsUpTo) (maxL := 5) (ret := (some .int)) (by decide) rfl [some (.ref o), some (.int e1), none, none, none] (Nat.le_of_ble_eq_true rfl) rfl ?_
  intro p e s m below meth c X hlk hr hnm
  have loop : ∀ (t : List Nd) (r : Option Nat) (i : Nat) (x : Nd) (nz : Option Nat), M x.1 = some (gnode x.2 nz) → Seg M r t none → i + wcn e1 x.2.1 t = wcn e1 (-2147483648) cs → J p l e { frames := 0, cells := 0, slots := 0, locals := 0 } s m ([.ref o, .int e1] : List Value).toArray below meth c D ty vwCl b0 (MQ below (j_Q D ty vwCl b0 (j_rd (.int (nI (wcn e1 (-2147483648) cs))) M n)) ([.ref o, .int e1] : List Value).toArray s 0 0 (fun q => b0 ≤ q)) 5 M n 0 0 16 [some (.ref o), some (.int e1), some (.int (nI i)), some (.ref x.1), some (va_rf r)] [] := by
    intro t
    induction t with
    | nil =>
      intro r i x nz hxm hs he
      cases hs
      refine j_aloadN X dX2_windowsUpTo_16 rfl ?_
      refine j_ifnullN X 58 dX2_windowsUpTo_18 (by decide) ?_
      refine j_iload_n X 2 dX2_windowsUpTo_58 rfl rfl ?_
      exact j_iret X hlk hr (by omega) (by omega) dX2_windowsUpTo_59 ⟨by rw [← he]; rfl, rfl, rfl⟩
    | cons y t ih =>
      intro r i x nz hxm hs he
      obtain ⟨rfl, ny, hy0, hsy⟩ := hs
      have hy : M y.1 = some (.inr (1, [.int y.2.1, .int y.2.2.1, .int y.2.2.2.1, .int y.2.2.2.2.1, .int y.2.2.2.2.2, va_rf ny])) := hy0
      have hxm2 : M x.1 = some (.inr (1, [.int x.2.1, .int x.2.2.1, .int x.2.2.2.1, .int x.2.2.2.2.1, .int x.2.2.2.2.2, va_rf nz])) := hxm
      rw [wcn_cons] at he
      refine j_aload X dX2_windowsUpTo_16 rfl ?_
      refine j_ifnullR X dX2_windowsUpTo_18 ?_
      refine j_aload X dX2_windowsUpTo_21 rfl ?_
      refine j_getN X hy rfl iwX2_windowsUpTo_X1 0 (by decide) lkX2_windowsUpTo_32 rfl dX2_windowsUpTo_23 ?_
      refine j_iload_n X 1 dX2_windowsUpTo_26 rfl rfl ?_
      refine j_icmp_gt X 58 dX2_windowsUpTo_27 (by decide) (fun c105 => ?_) (fun c105 => ?_)
      · skip
        refine j_iload_n X 2 dX2_windowsUpTo_58 rfl rfl ?_
        exact j_iret X hlk hr (by omega) (by omega) dX2_windowsUpTo_59 ⟨by rw [if_neg (Int32.not_le.mpr c105)] at he; rw [← he]; rfl, rfl, rfl⟩
      · skip
        refine j_aload_n X 3 dX2_windowsUpTo_30 rfl rfl ?_
        refine j_getN X hxm2 rfl iwX2_windowsUpTo_X1 0 (by decide) lkX2_windowsUpTo_32 rfl dX2_windowsUpTo_31 ?_
        refine j_aload X dX2_windowsUpTo_34 rfl ?_
        refine j_getN X hy rfl iwX2_windowsUpTo_X1 0 (by decide) lkX2_windowsUpTo_32 rfl dX2_windowsUpTo_36 ?_
        refine j_icmp_eq X 45 dX2_windowsUpTo_39 (by decide) (fun c106 => ?_) (fun c106 => ?_)
        · skip
          refine j_aload X dX2_windowsUpTo_45 rfl ?_
          refine j_astore_n X 3 dX2_windowsUpTo_47 rfl (by decide) rfl (L' := [some (.ref o), some (.int e1), some (.int (nI i)), some (.ref y.1), some (.ref y.1)]) rfl ?_
          refine j_aload X dX2_windowsUpTo_48 rfl ?_
          refine j_getN X hy rfl iwX2_windowsUpTo_X1 5 (by decide) lkX2_windowsUpTo_21 rfl dX2_windowsUpTo_50 ?_
          refine j_astoreQ X dX2_windowsUpTo_53 (by decide) rfl (L' := [some (.ref o), some (.int e1), some (.int (nI i)), some (.ref y.1), some (va_rf ny)]) rfl ?_
          refine j_goto X 16 dX2_windowsUpTo_55 (by decide) ?_
          rw [if_pos (Int32.not_lt.mp c105), if_pos c106] at he
          exact ih ny i y ny hy0 hsy (by omega)
        · skip
          refine j_iinc X dX2_windowsUpTo_42 rfl (v := nI (i + 1)) (nI_1 _) (by decide) rfl (L' := [some (.ref o), some (.int e1), some (.int (nI (i + 1))), some (.ref x.1), some (.ref y.1)]) rfl ?_
          refine j_aload X dX2_windowsUpTo_45 rfl ?_
          refine j_astore_n X 3 dX2_windowsUpTo_47 rfl (by decide) rfl (L' := [some (.ref o), some (.int e1), some (.int (nI (i + 1))), some (.ref y.1), some (.ref y.1)]) rfl ?_
          refine j_aload X dX2_windowsUpTo_48 rfl ?_
          refine j_getN X hy rfl iwX2_windowsUpTo_X1 5 (by decide) lkX2_windowsUpTo_21 rfl dX2_windowsUpTo_50 ?_
          refine j_astoreQ X dX2_windowsUpTo_53 (by decide) rfl (L' := [some (.ref o), some (.int e1), some (.int (nI (i + 1))), some (.ref y.1), some (va_rf ny)]) rfl ?_
          refine j_goto X 16 dX2_windowsUpTo_55 (by decide) ?_
          rw [if_pos (Int32.not_lt.mp c105), if_neg c106] at he
          exact ih ny (i + 1) y ny hy0 hsy (by omega)
  refine j_iconst X dX2_windowsUpTo_0 (v := 0) (by decide) ?_
  refine j_istore_n X 2 dX2_windowsUpTo_1 rfl (by decide) rfl (L' := [some (.ref o), some (.int e1), some (.int 0), none, none]) rfl ?_
  refine j_aload_n X 0 dX2_windowsUpTo_2 rfl rfl ?_
  refine j_get X h0 rfl iwX2_windowsUpTo_X2 0 (by decide) lkX2_windowsUpTo_15 rfl dX2_windowsUpTo_3 ?_
  refine j_astore_n X 3 dX2_windowsUpTo_6 rfl (by decide) rfl (L' := [some (.ref o), some (.int e1), some (.int 0), some (.ref (o + 1)), none]) rfl ?_
  refine j_aload_n X 0 dX2_windowsUpTo_7 rfl rfl ?_
  refine j_get X h0 rfl iwX2_windowsUpTo_X2 0 (by decide) lkX2_windowsUpTo_15 rfl dX2_windowsUpTo_8 ?_
  refine j_getN X h1 rfl iwX2_windowsUpTo_X1 5 (by decide) lkX2_windowsUpTo_21 rfl dX2_windowsUpTo_11 ?_
  refine j_astoreQ X dX2_windowsUpTo_14 (by decide) rfl (L' := [some (.ref o), some (.int e1), some (.int 0), some (.ref (o + 1)), some (va_rf nx)]) rfl ?_
  exact loop cs nx 0 (o + 1, g_hd) nx h1 hs1 (by rw [Nat.zero_add]; rfl)
set_option maxHeartbeats 800000 in
set_option maxRecDepth 100000 in
theorem c_X2_takeE (l : Launch) (D : va_G) {ty : jT} {cA : ClassId} (hI : ty[0]? = some (cA, .int)) (b0 : Nat) {M : jM} {n o : Nat} (h : GrAt M o []) : Ct l D ty vwCl nwSQ b0 yX2_takeFirst wsX2_takeFirst 0 0 0 0 [.ref o] M n (j_rd (.null) M n) := by
  obtain ⟨h0, hs0⟩ := id h
  obtain ⟨_, nx, h1, hs1⟩ := hs0
  have h1 : M (o + 1) = some (.inr (1, [.int (-2147483648), .int (-2147483648), .int 0, .int 0, .int (-2147483648), va_rf nx])) := h1
  cases hs1
  refine j_start (cc := cX2_takeFirst) (maxL := 2) (ret := (some (.object "StreamQuery$Group"))) (by decide) rfl [some (.ref o), none] (Nat.le_of_ble_eq_true rfl) rfl ?_
  intro p e s m below meth c X hlk hr hnm
  refine j_aload_n X 0 dX2_takeFirst_0 rfl rfl ?_
  refine j_get X h0 rfl iwX2_takeFirst_X2 0 (by decide) lkX2_takeFirst_15 rfl dX2_takeFirst_1 ?_
  refine j_getN X h1 rfl iwX2_takeFirst_X1 5 (by decide) lkX2_takeFirst_21 rfl dX2_takeFirst_4 ?_
  refine j_astore_nN X 1 dX2_takeFirst_7 rfl (by decide) rfl (L' := [some (.ref o), some (.null)]) rfl ?_
  refine j_aload_nN X 1 dX2_takeFirst_8 rfl rfl ?_
  refine j_ifnullN X 23 dX2_takeFirst_9 (by decide) ?_
  refine j_aload_nN X 1 dX2_takeFirst_23 rfl rfl ?_
  exact j_aret X hlk hr (by omega) (by omega) (r := none) dX2_takeFirst_24 ⟨rfl, rfl, rfl⟩
set_option maxHeartbeats 800000 in
set_option maxRecDepth 100000 in
theorem c_X2_takeC (l : Launch) (D : va_G) {ty : jT} {cA : ClassId} (hI : ty[0]? = some (cA, .int)) (b0 : Nat) {M : jM} {n o : Nat} {y : Nd} {cs : List Nd} (h : GrAt M o (y :: cs)) (hne : y.1 ≠ o + 1) (hnd : ∀ z ∈ cs, z.1 ≠ o + 1) (hno : y.1 ≠ o) : Ct l D ty vwCl nwSQ b0 yX2_takeFirst wsX2_takeFirst 0 0 0 0 [.ref o] M n (fun r M' n' => r = some (.ref y.1) ∧ n = n' ∧ GrAt M' o cs ∧ ∀ q, q ≠ o + 1 → M' q = M q) := by
  obtain ⟨h0, hs0⟩ := id h
  obtain ⟨_, nx, h1, hs1⟩ := hs0
  have h1 : M (o + 1) = some (.inr (1, [.int (-2147483648), .int (-2147483648), .int 0, .int 0, .int (-2147483648), va_rf nx])) := h1
  obtain ⟨rfl, ny, hy0, hsy⟩ := hs1
  have hy : M y.1 = some (.inr (1, [.int y.2.1, .int y.2.2.1, .int y.2.2.2.1, .int y.2.2.2.2.1, .int y.2.2.2.2.2, va_rf ny])) := hy0
  refine j_start (cc := cX2_takeFirst) (maxL := 2) (ret := (some (.object "StreamQuery$Group"))) (by decide) rfl [some (.ref o), none] (Nat.le_of_ble_eq_true rfl) rfl ?_
  intro p e s m below meth c X hlk hr hnm
  refine j_aload_n X 0 dX2_takeFirst_0 rfl rfl ?_
  refine j_get X h0 rfl iwX2_takeFirst_X2 0 (by decide) lkX2_takeFirst_15 rfl dX2_takeFirst_1 ?_
  refine j_getN X h1 rfl iwX2_takeFirst_X1 5 (by decide) lkX2_takeFirst_21 rfl dX2_takeFirst_4 ?_
  refine j_astore_n X 1 dX2_takeFirst_7 rfl (by decide) rfl (L' := [some (.ref o), some (.ref y.1)]) rfl ?_
  refine j_aload_n X 1 dX2_takeFirst_8 rfl rfl ?_
  refine j_ifnullR X dX2_takeFirst_9 ?_
  refine j_aload_n X 0 dX2_takeFirst_12 rfl rfl ?_
  refine j_get X h0 rfl iwX2_takeFirst_X2 0 (by decide) lkX2_takeFirst_15 rfl dX2_takeFirst_13 ?_
  refine j_aload_n X 1 dX2_takeFirst_16 rfl rfl ?_
  refine j_getN X hy rfl iwX2_takeFirst_X1 5 (by decide) lkX2_takeFirst_21 rfl dX2_takeFirst_17 ?_
  refine j_putN X h1 rfl iwX2_takeFirst_X1 tyX1 tyX1_ok nmX1 5 (by decide) lkX2_takeFirst_21 rfl (by cases ny <;> rfl) (by cases ny <;> rfl) (Nat.le_of_ble_eq_true rfl) (fs' := [.int (-2147483648), .int (-2147483648), .int 0, .int 0, .int (-2147483648), va_rf ny]) rfl dX2_takeFirst_20 ?_
  generalize eM107 : j_up M (o + 1) (.inr (1, [.int (-2147483648), .int (-2147483648), .int 0, .int 0, .int (-2147483648), va_rf ny])) = M107
  have h108 : M107 o = some (.inr (2, [.ref (o + 1)])) := by rw [← eM107, j_up_ne _ _ (by omega)]; exact h0
  have h110 : M107 y.1 = some (.inr (1, [.int y.2.1, .int y.2.2.1, .int y.2.2.2.1, .int y.2.2.2.2.1, .int y.2.2.2.2.2, va_rf ny])) := by rw [← eM107, j_up_ne _ _ (by omega)]; exact hy
  have h111 : M107 (o + 1) = some (.inr (1, [.int (-2147483648), .int (-2147483648), .int 0, .int 0, .int (-2147483648), va_rf ny])) := by rw [← eM107]; exact j_up_self _ _ _
  refine j_aload_n X 1 dX2_takeFirst_23 rfl rfl ?_
  exact j_aret X hlk hr (by omega) (by omega) (r := some y.1) dX2_takeFirst_24 ⟨rfl, rfl, ⟨h108, rfl, ny, h111, hsy.frame (fun z hz => by rw [← eM107, j_up_ne _ _ (hnd z hz)])⟩, fun q hq => by rw [← eM107, j_up_ne _ _ (hq)]⟩
end
section
/-! A contract of a method of the JDK's, out of the walk of its body (no native stands in its place). -/
theorem j_ofWF {l : Launch} {y : MethodName} {ws ws' : List Cond} {rm : Room} {Pc : Array Value → State → Prop} {Qc : Array Value → State → Outcome → State → Prop} {mc ms : Nat} {free : Addr → Prop} {cc : ByteArray} {maxL : Nat} {ret : Option FieldType}
    (hy : plainFor y = true) (hw : ws = Cond.code y cc maxL ret :: ws')
    (body : ∀ p e s m args below meth c s₁, BodyLoose p l y (headSpec ws rm) cc maxL ret e s m args below meth c s₁ → c.maxLocals = maxL → Pc args s →
      W p l e (headSpec ws rm).room s m args below meth c s.heap [] 0 0 (MQ below Qc args s mc ms free) (entryFrame m args maxL)) : Met l y ws rm Pc Qc mc ms free := by
  refine MetFree.of_bodySF (code := cc) (maxLocals := maxL) (ret := ret) hy ?_ ?_
  · intro args s m h hn
    obtain ⟨meth, c, h1, h2, h3, h4, h5, h6, -, -⟩ := Cond.code_spec hn (atoms_spec (ws := ws) h _ (by rw [hw]; exact List.mem_cons_self))
    exact ⟨meth, c, h1, h2, h3, h4, h5, h6⟩
  · intro p e s m args below meth c s₁ B hml hP _
    have hh0 : s₁.heap = s.heap := by rw [B.state]; rfl
    obtain ⟨t, a1, o, b1, b2, b3⟩ := body p e s m args below meth c s₁ B hml hP s₁ hh0 (Stand.of_body B)
    exact ⟨t, o, a1, b1, b2, ⟨b3.1, b3.2⟩⟩
theorem j_startF {l : Launch} {D : va_G} {ty : jT} {cl : List vw_C} {nw : List Cond} {b0 : Nat} {M : jM} {n : Nat} {cc : ByteArray} {Rt : Option Value → jM → Nat → Prop} {mc ms : Nat} {y : MethodName} {ws ws' : List Cond} {maxL : Nat} {ret : Option FieldType} {fr lo : Nat} {as : List Value} (hy : plainFor y = true) (hw : ws = Cond.code y cc maxL ret :: ws') (L0 : List (Option Value)) (hlen : (j_a0 as).length ≤ maxL) (h0 : j_a0 as ++ List.replicate (maxL - (j_a0 as).length) none = L0)
    (body : ∀ (p : Program) (e : Env) (s : State) (m : MethodId) (below : List Frame) (meth : Method) (c : Code), j_X p s m as.toArray c cc maxL y.cls ws D ty cl nw → meth.locks = false → meth.sig.returnType = ret → meth.name = y.name →
      J p l e { frames := fr, cells := mc, slots := ms, locals := lo } s m as.toArray below meth c D ty cl b0 (MQ below (j_Q D ty cl b0 Rt) as.toArray s mc ms (fun q => b0 ≤ q)) maxL M n 0 0 0 L0 []) :
    Ct l D ty cl nw b0 y ws fr lo mc ms as M n Rt := by
  refine j_ofWF (cc := cc) (maxL := maxL) (ret := ret) hy hw ?_
  intro p e s m args below meth c s₁ B hml hv
  obtain ⟨rfl, hH, hK⟩ := hv
  rw [lg_entry_eq]
  exact body p e s m below meth c ⟨B.exec, B.bytes, hml, findClass_of_methodNamed B.named, atoms_spec (ws := ws) B.pre, hK⟩ B.notSynchronized B.returns (name_of_methodNamed B.named B.method).1 s.heap [] _ hH va_S.rf (j_L0 hlen h0)
end
section
/-! The class: its object at x, with all that it owns behind it. -/
def sqO (x : Nat) (w sl la sp rm ln mA mB lt pr tl tk : Int32) : jE := .inr (4, [.ref (x + 1), .ref (x + 5), .ref (x + 9), .ref (x + 11), .int w, .int sl, .int la, .int sp, .int rm, .int ln, .int mA, .int mB, .int lt, .int pr, .int tl, .int tk])
/-- Java's floorDiv, as its code has it -/
def fd (x y : Int32) : Int32 := if 0 ≤ x ^^^ y then x / y else if x / y * y = x then x / y else x / y - 1
def okT (t : Int32) : Prop := -1000000000 ≤ t ∧ t ≤ 1000000000
def okW (w sl : Int32) : Prop := (1 ≤ w ∧ w ≤ 1000000) ∧ (1 ≤ sl ∧ sl ≤ w) ∧ w ≤ 16 * sl
def okS (w sl la sp rm ln : Int32) : Prop := okW w sl ∧ (0 ≤ la ∧ la ≤ 1000000) ∧ (0 ≤ sp ∧ sp ≤ 1000000) ∧ (1 ≤ rm ∧ rm ≤ 200) ∧ (1 ≤ ln ∧ ln ≤ 400)
theorem okT_dec (t : Int32) : okT t ∨ ¬ okT t := Classical.em _
def mn (a b : Int32) : Int32 := if b < a then b else a
theorem zo_ne {q : Prop} [Decidable q] : ¬ (if q then (1 : Int32) else 0) = 0 ↔ q := by
  by_cases h : q
  · simp [h]
  · simp [h]
theorem zo_eq {q : Prop} [Decidable q] : (if q then (1 : Int32) else 0) = 0 ↔ ¬ q := by
  by_cases h : q
  · simp [h]
  · simp [h]
theorem zo_1 {q : Prop} [Decidable q] (h : q) : (if q then (1 : Int32) else 0) = 1 := if_pos h
theorem zo_0 {q : Prop} [Decidable q] (h : ¬ q) : (if q then (1 : Int32) else 0) = 0 := if_neg h
/-- the whole class: settings, marks, counts, events, groups, queue; the groups' nodes lie at nb and above -/
def SQ (M : jM) (x nb : Nat) (w sl la sp rm ln mA mB lt pr tl tk : Int32) (A B : List Ev) (cs : List Nd) (qu : List Rec) : Prop :=
  M x = some (sqO x w sl la sp rm ln mA mB lt pr tl tk) ∧ EvAt M (x + 1) A ∧ EvAt M (x + 5) B ∧ GrAt M (x + 9) cs ∧ LnAt M (x + 11) qu ∧ (cs.map Prod.fst).Nodup ∧ (∀ z ∈ cs, nb ≤ z.1) ∧ x + 13 ≤ nb
/-- what count answers -/
def cntv (v a b c d e f g h i : Int32) : Int32 := if v = 0 then a else if v = 1 then b else if v = 2 then c else if v = 3 then d else if v = 4 then e else if v = 5 then f else if v = 6 then g else if v = 7 then h else if v = 8 then i else -2
end
section
set_option maxRecDepth 20000 in
theorem wdX4_isTime_c168 : Cond.constant RX4 168 (-1000000000) ∈ wsX4_isTime := by decide +kernel
set_option maxRecDepth 20000 in
theorem wdX4_isTime_c169 : Cond.constant RX4 169 (1000000000) ∈ wsX4_isTime := by decide +kernel
set_option maxRecDepth 20000 in
theorem iwX4_mark_X4 : ∀ w ∈ u_ws RX4 TX4 16, w ∈ wsX4_mark := by decide +kernel
set_option maxRecDepth 20000 in
theorem lkX4_mark_97 : Cond.fieldLink RX4 97 (TX4 10).1 (TX4 10).2.1 (TX4 10).2.2.1 ∈ wsX4_mark := by decide +kernel
set_option maxRecDepth 20000 in
theorem lkX4_mark_104 : Cond.fieldLink RX4 104 (TX4 11).1 (TX4 11).2.1 (TX4 11).2.2.1 ∈ wsX4_mark := by decide +kernel
set_option maxRecDepth 20000 in
theorem wdX4_mark_mmin0 : Cond.methodLink RX4 107 Lib.Math.min.name ∈ wsX4_mark := by decide +kernel
set_option maxRecDepth 20000 in
theorem wdX4_mark_mmin1 : Cond.static Lib.Math.min.name ∈ wsX4_mark := by decide +kernel
set_option maxRecDepth 20000 in
theorem wdX4_mark_mmin2 : Cond.initialized "java/lang/Math" ∈ wsX4_mark := by decide +kernel
set_option maxRecDepth 20000 in
theorem wdX4_mark_mmin3 : Cond.code Lib.Math.min.name Lib.Math.min.code 2 (some .int) ∈ wsX4_mark := by decide +kernel
set_option maxRecDepth 20000 in
theorem wdX4_areWindows_c59 : Cond.constant RX4 59 (1000000) ∈ wsX4_areWindows := by decide +kernel
set_option maxRecDepth 20000 in
theorem iwX4_beginningAbove_X4 : ∀ w ∈ u_ws RX4 TX4 16, w ∈ wsX4_beginningAbove := by decide +kernel
set_option maxRecDepth 20000 in
theorem lkX4_beginningAbove_37 : Cond.fieldLink RX4 37 (TX4 5).1 (TX4 5).2.1 (TX4 5).2.2.1 ∈ wsX4_beginningAbove := by decide +kernel
set_option maxRecDepth 20000 in
theorem ddJ9_floorDiv_7cf53 : yJ9_floorDiv_7cf53.cls ≠ "java/lang/invoke/MethodHandle" ∧ yJ9_floorDiv_7cf53.cls ≠ "java/lang/invoke/VarHandle" ∧ (parseMethodDescriptor yJ9_floorDiv_7cf53.desc).map (fun d => d.parameters.length) = some 2 := by decide +kernel
set_option maxRecDepth 20000 in
theorem iwX4_countTaken_X4 : ∀ w ∈ u_ws RX4 TX4 16, w ∈ wsX4_countTaken := by decide +kernel
set_option maxRecDepth 20000 in
theorem lkX4_countTaken_153 : Cond.fieldLink RX4 153 (TX4 13).1 (TX4 13).2.1 (TX4 13).2.2.1 ∈ wsX4_countTaken := by decide +kernel
set_option maxRecDepth 20000 in
theorem lkX4_countTaken_159 : Cond.fieldLink RX4 159 (TX4 15).1 (TX4 15).2.1 (TX4 15).2.2.1 ∈ wsX4_countTaken := by decide +kernel
set_option maxRecDepth 20000 in
theorem ddX4_isTime : yX4_isTime.cls ≠ "java/lang/invoke/MethodHandle" ∧ yX4_isTime.cls ≠ "java/lang/invoke/VarHandle" ∧ (parseMethodDescriptor yX4_isTime.desc).map (fun d => d.parameters.length) = some 1 := by decide +kernel
set_option maxRecDepth 20000 in
theorem iwX4_available_X4 : ∀ w ∈ u_ws RX4 TX4 16, w ∈ wsX4_available := by decide +kernel
set_option maxRecDepth 20000 in
theorem lkX4_available_29 : Cond.fieldLink RX4 29 (TX4 3).1 (TX4 3).2.1 (TX4 3).2.2.1 ∈ wsX4_available := by decide +kernel
set_option maxRecDepth 20000 in
theorem ddX3_size : yX3_size.cls ≠ "java/lang/invoke/MethodHandle" ∧ yX3_size.cls ≠ "java/lang/invoke/VarHandle" ∧ (parseMethodDescriptor yX3_size.desc).map (fun d => d.parameters.length) = some 0 := by decide +kernel
set_option maxRecDepth 20000 in
theorem iwX4_kind_X4 : ∀ w ∈ u_ws RX4 TX4 16, w ∈ wsX4_kind := by decide +kernel
set_option maxRecDepth 20000 in
theorem lkX4_kind_29 : Cond.fieldLink RX4 29 (TX4 3).1 (TX4 3).2.1 (TX4 3).2.2.1 ∈ wsX4_kind := by decide +kernel
set_option maxRecDepth 20000 in
theorem ddX3_cell : yX3_cell.cls ≠ "java/lang/invoke/MethodHandle" ∧ yX3_cell.cls ≠ "java/lang/invoke/VarHandle" ∧ (parseMethodDescriptor yX3_cell.desc).map (fun d => d.parameters.length) = some 2 := by decide +kernel
set_option maxRecDepth 20000 in
theorem iwX4_field_X4 : ∀ w ∈ u_ws RX4 TX4 16, w ∈ wsX4_field := by decide +kernel
set_option maxRecDepth 20000 in
theorem lkX4_field_29 : Cond.fieldLink RX4 29 (TX4 3).1 (TX4 3).2.1 (TX4 3).2.2.1 ∈ wsX4_field := by decide +kernel
set_option maxRecDepth 20000 in
theorem iwX4_pop_X4 : ∀ w ∈ u_ws RX4 TX4 16, w ∈ wsX4_pop := by decide +kernel
set_option maxRecDepth 20000 in
theorem lkX4_pop_29 : Cond.fieldLink RX4 29 (TX4 3).1 (TX4 3).2.1 (TX4 3).2.2.1 ∈ wsX4_pop := by decide +kernel
set_option maxRecDepth 20000 in
theorem ddX3_dropFirst : yX3_dropFirst.cls ≠ "java/lang/invoke/MethodHandle" ∧ yX3_dropFirst.cls ≠ "java/lang/invoke/VarHandle" ∧ (parseMethodDescriptor yX3_dropFirst.desc).map (fun d => d.parameters.length) = some 0 := by decide +kernel
set_option maxRecDepth 20000 in
theorem iwX4_look_X4 : ∀ w ∈ u_ws RX4 TX4 16, w ∈ wsX4_look := by decide +kernel
set_option maxRecDepth 20000 in
theorem lkX4_look_22 : Cond.fieldLink RX4 22 (TX4 2).1 (TX4 2).2.1 (TX4 2).2.2.1 ∈ wsX4_look := by decide +kernel
set_option maxRecDepth 20000 in
theorem ddX2_find : yX2_find.cls ≠ "java/lang/invoke/MethodHandle" ∧ yX2_find.cls ≠ "java/lang/invoke/VarHandle" ∧ (parseMethodDescriptor yX2_find.desc).map (fun d => d.parameters.length) = some 2 := by decide +kernel
set_option maxRecDepth 20000 in
theorem iwX4_look_X1 : ∀ w ∈ u_ws RX1 TX1 6, w ∈ wsX4_look := by decide +kernel
set_option maxRecDepth 20000 in
theorem lkX4_look_130 : Cond.fieldLinkNest RX4 130 (TX1 2).1 (TX1 2).2.1 (TX1 2).2.2.1 "StreamQuery" ∈ nwSQ := by decide +kernel
set_option maxRecDepth 20000 in
theorem lkX4_look_135 : Cond.fieldLinkNest RX4 135 (TX1 3).1 (TX1 3).2.1 (TX1 3).2.2.1 "StreamQuery" ∈ nwSQ := by decide +kernel
set_option maxRecDepth 20000 in
theorem lkX4_look_138 : Cond.fieldLinkNest RX4 138 (TX1 4).1 (TX1 4).2.1 (TX1 4).2.2.1 "StreamQuery" ∈ nwSQ := by decide +kernel
set_option maxRecDepth 20000 in
theorem iwX4_event_X4 : ∀ w ∈ u_ws RX4 TX4 16, w ∈ wsX4_event := by decide +kernel
set_option maxRecDepth 20000 in
theorem lkX4_event_10 : Cond.fieldLink RX4 10 (TX4 0).1 (TX4 0).2.1 (TX4 0).2.2.1 ∈ wsX4_event := by decide +kernel
set_option maxRecDepth 20000 in
theorem ddX0_time : yX0_time.cls ≠ "java/lang/invoke/MethodHandle" ∧ yX0_time.cls ≠ "java/lang/invoke/VarHandle" ∧ (parseMethodDescriptor yX0_time.desc).map (fun d => d.parameters.length) = some 1 := by decide +kernel
set_option maxRecDepth 20000 in
theorem ddX0_key : yX0_key.cls ≠ "java/lang/invoke/MethodHandle" ∧ yX0_key.cls ≠ "java/lang/invoke/VarHandle" ∧ (parseMethodDescriptor yX0_key.desc).map (fun d => d.parameters.length) = some 1 := by decide +kernel
set_option maxRecDepth 20000 in
theorem ddX0_value : yX0_value.cls ≠ "java/lang/invoke/MethodHandle" ∧ yX0_value.cls ≠ "java/lang/invoke/VarHandle" ∧ (parseMethodDescriptor yX0_value.desc).map (fun d => d.parameters.length) = some 1 := by decide +kernel
set_option maxRecDepth 20000 in
theorem lkX4_event_16 : Cond.fieldLink RX4 16 (TX4 1).1 (TX4 1).2.1 (TX4 1).2.2.1 ∈ wsX4_event := by decide +kernel
set_option maxRecDepth 20000 in
theorem iwX4_count_X4 : ∀ w ∈ u_ws RX4 TX4 16, w ∈ wsX4_count := by decide +kernel
set_option maxRecDepth 20000 in
theorem lkX4_count_10 : Cond.fieldLink RX4 10 (TX4 0).1 (TX4 0).2.1 (TX4 0).2.2.1 ∈ wsX4_count := by decide +kernel
set_option maxRecDepth 20000 in
theorem ddX0_size : yX0_size.cls ≠ "java/lang/invoke/MethodHandle" ∧ yX0_size.cls ≠ "java/lang/invoke/VarHandle" ∧ (parseMethodDescriptor yX0_size.desc).map (fun d => d.parameters.length) = some 0 := by decide +kernel
set_option maxRecDepth 20000 in
theorem lkX4_count_16 : Cond.fieldLink RX4 16 (TX4 1).1 (TX4 1).2.1 (TX4 1).2.2.1 ∈ wsX4_count := by decide +kernel
set_option maxRecDepth 20000 in
theorem lkX4_count_144 : Cond.fieldLink RX4 144 (TX4 12).1 (TX4 12).2.1 (TX4 12).2.2.1 ∈ wsX4_count := by decide +kernel
set_option maxRecDepth 20000 in
theorem lkX4_count_97 : Cond.fieldLink RX4 97 (TX4 10).1 (TX4 10).2.1 (TX4 10).2.2.1 ∈ wsX4_count := by decide +kernel
set_option maxRecDepth 20000 in
theorem lkX4_count_104 : Cond.fieldLink RX4 104 (TX4 11).1 (TX4 11).2.1 (TX4 11).2.2.1 ∈ wsX4_count := by decide +kernel
set_option maxRecDepth 20000 in
theorem lkX4_count_22 : Cond.fieldLink RX4 22 (TX4 2).1 (TX4 2).2.1 (TX4 2).2.2.1 ∈ wsX4_count := by decide +kernel
set_option maxRecDepth 20000 in
theorem wdX4_count_c149 : Cond.constant RX4 149 (2147483647) ∈ wsX4_count := by decide +kernel
set_option maxRecDepth 20000 in
theorem ddX2_windowsUpTo : yX2_windowsUpTo.cls ≠ "java/lang/invoke/MethodHandle" ∧ yX2_windowsUpTo.cls ≠ "java/lang/invoke/VarHandle" ∧ (parseMethodDescriptor yX2_windowsUpTo.desc).map (fun d => d.parameters.length) = some 1 := by decide +kernel
set_option maxRecDepth 20000 in
theorem lkX4_count_153 : Cond.fieldLink RX4 153 (TX4 13).1 (TX4 13).2.1 (TX4 13).2.2.1 ∈ wsX4_count := by decide +kernel
set_option maxRecDepth 20000 in
theorem lkX4_count_156 : Cond.fieldLink RX4 156 (TX4 14).1 (TX4 14).2.1 (TX4 14).2.2.1 ∈ wsX4_count := by decide +kernel
set_option maxRecDepth 20000 in
theorem lkX4_count_159 : Cond.fieldLink RX4 159 (TX4 15).1 (TX4 15).2.1 (TX4 15).2.2.1 ∈ wsX4_count := by decide +kernel
end
section
set_option maxHeartbeats 800000 in
set_option maxRecDepth 100000 in
theorem c_X4_isTime (l : Launch) (D : va_G) {ty : jT} {cA : ClassId} (hI : ty[0]? = some (cA, .int)) (b0 : Nat) {M : jM} {n : Nat} (t : Int32) : Ct l D ty vwCl nwSQ b0 yX4_isTime wsX4_isTime 1 22 0 0 [.int t] M n (j_rd (.int (if -1000000000 ≤ t ∧ t ≤ 1000000000 then 1 else 0)) M n) := by
  refine j_start (cc := cX4_isTime) (maxL := 1) (ret := (some .boolean)) (by decide) rfl [some (.int t)] (Nat.le_of_ble_eq_true rfl) rfl ?_
  intro p e s m below meth c X hlk hr hnm
  refine j_iload_n X 0 dX4_isTime_0 rfl rfl ?_
  refine j_ldc X dX4_isTime_1 wdX4_isTime_c168 ?_
  refine j_ldc X dX4_isTime_3 wdX4_isTime_c169 ?_
  refine j_callS X nwSQ_ok (As := [.int t, .int (-1000000000), .int 1000000000]) (rest := []) rfl (c_X4_isWithin l D hI b0 t (-1000000000) 1000000000) rfl gX4_isTime_X4_isWithin ddX4_isWithin ⟨Nat.le_of_ble_eq_true rfl, Nat.le_of_ble_eq_true rfl⟩ (Nat.le_of_ble_eq_true rfl) rfl dX4_isTime_5 ⟨(by show 0 + 0 ≤ 0; omega), (by show 0 + 0 ≤ 0; omega)⟩ (fun r1 M2 n3 hr4 => ?_)
  obtain ⟨rfl, rfl, rfl⟩ := hr4
  refine j_st (st := [.int (if (-1000000000) ≤ t ∧ t ≤ 1000000000 then 1 else 0)]) rfl ?_
  exact j_zret X hlk hr (by omega) (by omega) (by split <;> rfl) dX4_isTime_8 ⟨rfl, rfl, rfl⟩
set_option maxHeartbeats 800000 in
set_option maxRecDepth 100000 in
theorem c_X4_mark (l : Launch) (D : va_G) {ty : jT} {cA : ClassId} (hI : ty[0]? = some (cA, .int)) (b0 : Nat) {M : jM} {n x : Nat} {w sl la sp rm ln mA mB lt pr tl tk : Int32} (hx : M x = some (sqO x w sl la sp rm ln mA mB lt pr tl tk)) : Ct l D ty vwCl nwSQ b0 yX4_mark wsX4_mark 1 21 0 0 [.ref x] M n (j_rd (.int (mn mA mB)) M n) := by
  have hx : M x = some (.inr (4, [.ref (x + 1), .ref (x + 5), .ref (x + 9), .ref (x + 11), .int w, .int sl, .int la, .int sp, .int rm, .int ln, .int mA, .int mB, .int lt, .int pr, .int tl, .int tk])) := hx
  refine j_start (cc := cX4_mark) (maxL := 1) (ret := (some .int)) (by decide) rfl [some (.ref x)] (Nat.le_of_ble_eq_true rfl) rfl ?_
  intro p e s m below meth c X hlk hr hnm
  refine j_aload_n X 0 dX4_mark_0 rfl rfl ?_
  refine j_get X hx rfl iwX4_mark_X4 10 (by decide) lkX4_mark_97 rfl dX4_mark_1 ?_
  refine j_aload_n X 0 dX4_mark_4 rfl rfl ?_
  refine j_get X hx rfl iwX4_mark_X4 11 (by decide) lkX4_mark_104 rfl dX4_mark_5 ?_
  refine j_min X wdX4_mark_mmin0 wdX4_mark_mmin1 wdX4_mark_mmin2 wdX4_mark_mmin3 (Nat.le_of_ble_eq_true rfl) (Nat.le_of_ble_eq_true rfl) (by omega) (by omega) dX4_mark_8 ?_
  exact j_iret X hlk hr (by omega) (by omega) dX4_mark_11 ⟨rfl, rfl, rfl⟩
set_option maxHeartbeats 800000 in
set_option maxRecDepth 100000 in
theorem c_X4_areWindows (l : Launch) (D : va_G) {ty : jT} {cA : ClassId} (hI : ty[0]? = some (cA, .int)) (b0 : Nat) {M : jM} {n : Nat} (w sl : Int32) : Ct l D ty vwCl nwSQ b0 yX4_areWindows wsX4_areWindows 1 22 0 0 [.int w, .int sl] M n (j_rd (.int (if (1 ≤ w ∧ w ≤ 1000000) ∧ (1 ≤ sl ∧ sl ≤ w) ∧ w ≤ 16 * sl then 1 else 0)) M n) := by
  refine j_start (cc := cX4_areWindows) (maxL := 2) (ret := (some .boolean)) (by decide) rfl [some (.int w), some (.int sl)] (Nat.le_of_ble_eq_true rfl) rfl ?_
  intro p e s m below meth c X hlk hr hnm
  refine j_iload_n X 0 dX4_areWindows_0 rfl rfl ?_
  refine j_iconst X dX4_areWindows_1 (v := 1) (by decide) ?_
  refine j_ldc X dX4_areWindows_2 wdX4_areWindows_c59 ?_
  refine j_callS X nwSQ_ok (As := [.int w, .int 1, .int 1000000]) (rest := []) rfl (c_X4_isWithin l D hI b0 w 1 1000000) rfl gX4_areWindows_X4_isWithin ddX4_isWithin ⟨Nat.le_of_ble_eq_true rfl, Nat.le_of_ble_eq_true rfl⟩ (Nat.le_of_ble_eq_true rfl) rfl dX4_areWindows_4 ⟨(by show 0 + 0 ≤ 0; omega), (by show 0 + 0 ≤ 0; omega)⟩ (fun r5 M6 n7 hr8 => ?_)
  obtain ⟨rfl, rfl, rfl⟩ := hr8
  refine j_st (st := [.int (if 1 ≤ w ∧ w ≤ 1000000 then 1 else 0)]) rfl ?_
  refine j_if_eq X 31 dX4_areWindows_7 (by decide) (fun c9 => ?_) (fun c9 => ?_)
  · skip
    refine j_iconst X dX4_areWindows_31 (v := 0) (by decide) ?_
    exact j_zret X hlk hr (by omega) (by omega) (by decide) dX4_areWindows_32 ⟨congrArg (fun z => some (Value.int z)) (zo_0 (fun h => zo_eq.mp c9 h.1)).symm, rfl, rfl⟩
  · skip
    refine j_iload_n X 1 dX4_areWindows_10 rfl rfl ?_
    refine j_iconst X dX4_areWindows_11 (v := 1) (by decide) ?_
    refine j_iload_n X 0 dX4_areWindows_12 rfl rfl ?_
    refine j_callS X nwSQ_ok (As := [.int sl, .int 1, .int w]) (rest := []) rfl (c_X4_isWithin l D hI b0 sl 1 w) rfl gX4_areWindows_X4_isWithin ddX4_isWithin ⟨Nat.le_of_ble_eq_true rfl, Nat.le_of_ble_eq_true rfl⟩ (Nat.le_of_ble_eq_true rfl) rfl dX4_areWindows_13 ⟨(by show 0 + 0 ≤ 0; omega), (by show 0 + 0 ≤ 0; omega)⟩ (fun r10 M11 n12 hr13 => ?_)
    obtain ⟨rfl, rfl, rfl⟩ := hr13
    refine j_st (st := [.int (if 1 ≤ sl ∧ sl ≤ w then 1 else 0)]) rfl ?_
    refine j_if_eq X 31 dX4_areWindows_16 (by decide) (fun c14 => ?_) (fun c14 => ?_)
    · skip
      refine j_iconst X dX4_areWindows_31 (v := 0) (by decide) ?_
      exact j_zret X hlk hr (by omega) (by omega) (by decide) dX4_areWindows_32 ⟨congrArg (fun z => some (Value.int z)) (zo_0 (fun h => zo_eq.mp c14 h.2.1)).symm, rfl, rfl⟩
    · skip
      refine j_iload_n X 0 dX4_areWindows_19 rfl rfl ?_
      refine j_bipush X dX4_areWindows_20 (v := 16) (by decide) ?_
      refine j_iload_n X 1 dX4_areWindows_22 rfl rfl ?_
      refine j_imul X dX4_areWindows_23 ?_
      refine j_icmp_gt X 31 dX4_areWindows_24 (by decide) (fun c15 => ?_) (fun c15 => ?_)
      · skip
        refine j_iconst X dX4_areWindows_31 (v := 0) (by decide) ?_
        exact j_zret X hlk hr (by omega) (by omega) (by decide) dX4_areWindows_32 ⟨congrArg (fun z => some (Value.int z)) (zo_0 (fun h => Int32.not_lt.mpr h.2.2 c15)).symm, rfl, rfl⟩
      · skip
        refine j_iconst X dX4_areWindows_27 (v := 1) (by decide) ?_
        refine j_goto X 32 dX4_areWindows_28 (by decide) ?_
        exact j_zret X hlk hr (by omega) (by omega) (by decide) dX4_areWindows_32 ⟨congrArg (fun z => some (Value.int z)) (zo_1 ⟨zo_ne.mp c9, zo_ne.mp c14, Int32.not_lt.mp c15⟩).symm, rfl, rfl⟩
set_option maxHeartbeats 800000 in
set_option maxRecDepth 100000 in
theorem c_J9_floorDiv (l : Launch) (D : va_G) {ty : jT} {cA : ClassId} (hI : ty[0]? = some (cA, .int)) (b0 : Nat) {M : jM} {n : Nat} (a b : Int32) (hnz : ¬ b = 0) : Ct l D ty vwCl nwSQ b0 yJ9_floorDiv_7cf53 wsJ9_floorDiv_7cf53 0 0 0 0 [.int a, .int b] M n (j_rd (.int (fd a b)) M n) := by
  refine j_startF (cc := cJ9_floorDiv_7cf53) (maxL := 3) (ret := (some .int)) (by decide +kernel) rfl [some (.int a), some (.int b), none] (Nat.le_of_ble_eq_true rfl) rfl ?_
  intro p e s m below meth c X hlk hr hnm
  refine j_iload_n X 0 dJ9_floorDiv_7cf53_0 rfl rfl ?_
  refine j_iload_n X 1 dJ9_floorDiv_7cf53_1 rfl rfl ?_
  refine j_idiv X dJ9_floorDiv_7cf53_2 hnz ?_
  refine j_istore_n X 2 dJ9_floorDiv_7cf53_3 rfl (by decide) rfl (L' := [some (.int a), some (.int b), some (.int (a / b))]) rfl ?_
  refine j_iload_n X 0 dJ9_floorDiv_7cf53_4 rfl rfl ?_
  refine j_iload_n X 1 dJ9_floorDiv_7cf53_5 rfl rfl ?_
  refine j_ixor X dJ9_floorDiv_7cf53_6 ?_
  refine j_if_ge X 21 dJ9_floorDiv_7cf53_7 (by decide) (fun c16 => ?_) (fun c16 => ?_)
  · skip
    refine j_iload_n X 2 dJ9_floorDiv_7cf53_21 rfl rfl ?_
    exact j_iret X hlk hr (by omega) (by omega) dJ9_floorDiv_7cf53_22 ⟨by unfold fd; rw [if_pos c16], rfl, rfl⟩
  · skip
    refine j_iload_n X 2 dJ9_floorDiv_7cf53_10 rfl rfl ?_
    refine j_iload_n X 1 dJ9_floorDiv_7cf53_11 rfl rfl ?_
    refine j_imul X dJ9_floorDiv_7cf53_12 ?_
    refine j_iload_n X 0 dJ9_floorDiv_7cf53_13 rfl rfl ?_
    refine j_icmp_eq X 21 dJ9_floorDiv_7cf53_14 (by decide) (fun c17 => ?_) (fun c17 => ?_)
    · skip
      refine j_iload_n X 2 dJ9_floorDiv_7cf53_21 rfl rfl ?_
      exact j_iret X hlk hr (by omega) (by omega) dJ9_floorDiv_7cf53_22 ⟨by unfold fd; rw [if_neg c16, if_pos c17], rfl, rfl⟩
    · skip
      refine j_iload_n X 2 dJ9_floorDiv_7cf53_17 rfl rfl ?_
      refine j_iconst X dJ9_floorDiv_7cf53_18 (v := 1) (by decide) ?_
      refine j_isub X dJ9_floorDiv_7cf53_19 ?_
      exact j_iret X hlk hr (by omega) (by omega) dJ9_floorDiv_7cf53_20 ⟨by unfold fd; rw [if_neg c16, if_neg c17], rfl, rfl⟩
set_option maxHeartbeats 800000 in
set_option maxRecDepth 100000 in
theorem c_X4_beginningAbove (l : Launch) (D : va_G) {ty : jT} {cA : ClassId} (hI : ty[0]? = some (cA, .int)) (b0 : Nat) {M : jM} {n x : Nat} {w sl la sp rm ln mA mB lt pr tl tk : Int32} (hx : M x = some (sqO x w sl la sp rm ln mA mB lt pr tl tk)) (hsl : 1 ≤ sl) (t : Int32) : Ct l D ty vwCl nwSQ b0 yX4_beginningAbove wsX4_beginningAbove 1 22 0 0 [.ref x, .int t] M n (j_rd (.int ((fd t sl + 1) * sl)) M n) := by
  have hx : M x = some (.inr (4, [.ref (x + 1), .ref (x + 5), .ref (x + 9), .ref (x + 11), .int w, .int sl, .int la, .int sp, .int rm, .int ln, .int mA, .int mB, .int lt, .int pr, .int tl, .int tk])) := hx
  refine j_start (cc := cX4_beginningAbove) (maxL := 2) (ret := (some .int)) (by decide) rfl [some (.ref x), some (.int t)] (Nat.le_of_ble_eq_true rfl) rfl ?_
  intro p e s m below meth c X hlk hr hnm
  refine j_aload_n X 0 dX4_beginningAbove_0 rfl rfl ?_
  refine j_get X hx rfl iwX4_beginningAbove_X4 5 (by decide) lkX4_beginningAbove_37 rfl dX4_beginningAbove_1 ?_
  refine j_iconst X dX4_beginningAbove_4 (v := 1) (by decide) ?_
  refine j_icmp_ge X 12 dX4_beginningAbove_5 (by decide) (fun c18 => ?_) (fun c18 => ?_)
  · skip
    refine j_iload_n X 1 dX4_beginningAbove_12 rfl rfl ?_
    refine j_aload_n X 0 dX4_beginningAbove_13 rfl rfl ?_
    refine j_get X hx rfl iwX4_beginningAbove_X4 5 (by decide) lkX4_beginningAbove_37 rfl dX4_beginningAbove_14 ?_
    refine j_callS X nwSQ_ok (As := [.int t, .int sl]) (rest := []) rfl (c_J9_floorDiv l D hI b0 t sl (fun q => by rw [q] at hsl; exact absurd hsl (by decide))) rfl gX4_beginningAbove_J9_floorDiv_7cf53 ddJ9_floorDiv_7cf53 ⟨Nat.le_of_ble_eq_true rfl, Nat.le_of_ble_eq_true rfl⟩ (Nat.le_of_ble_eq_true rfl) rfl dX4_beginningAbove_17 ⟨(by show 0 + 0 ≤ 0; omega), (by show 0 + 0 ≤ 0; omega)⟩ (fun r19 M20 n21 hr22 => ?_)
    obtain ⟨rfl, rfl, rfl⟩ := hr22
    refine j_st (st := [.int (fd t sl)]) rfl ?_
    refine j_iconst X dX4_beginningAbove_20 (v := 1) (by decide) ?_
    refine j_iadd X dX4_beginningAbove_21 ?_
    refine j_aload_n X 0 dX4_beginningAbove_22 rfl rfl ?_
    refine j_get X hx rfl iwX4_beginningAbove_X4 5 (by decide) lkX4_beginningAbove_37 rfl dX4_beginningAbove_23 ?_
    refine j_imul X dX4_beginningAbove_26 ?_
    exact j_iret X hlk hr (by omega) (by omega) dX4_beginningAbove_27 ⟨rfl, rfl, rfl⟩
  · skip
    exact absurd hsl c18
set_option maxHeartbeats 800000 in
set_option maxRecDepth 100000 in
theorem c_X4_countTaken (l : Launch) (D : va_G) {ty : jT} {cA : ClassId} (hI : ty[0]? = some (cA, .int)) (b0 : Nat) {M : jM} {n x : Nat} {w sl la sp rm ln mA mB lt pr tl tk : Int32} (hx : M x = some (sqO x w sl la sp rm ln mA mB lt pr tl tk)) (z : Int32) : Ct l D ty vwCl nwSQ b0 yX4_countTaken wsX4_countTaken 0 0 0 0 [.ref x, .int z] M n (fun r M' n' => r = none ∧ n = n' ∧ M' x = some (sqO x w sl la sp rm ln mA mB lt (pr + z) tl (tk + 1)) ∧ ∀ q, q ≠ x → M' q = M q) := by
  have hx : M x = some (.inr (4, [.ref (x + 1), .ref (x + 5), .ref (x + 9), .ref (x + 11), .int w, .int sl, .int la, .int sp, .int rm, .int ln, .int mA, .int mB, .int lt, .int pr, .int tl, .int tk])) := hx
  refine j_start (cc := cX4_countTaken) (maxL := 2) (ret := none) (by decide) rfl [some (.ref x), some (.int z)] (Nat.le_of_ble_eq_true rfl) rfl ?_
  intro p e s m below meth c X hlk hr hnm
  refine j_aload_n X 0 dX4_countTaken_0 rfl rfl ?_
  refine j_dup X dX4_countTaken_1 rfl ?_
  refine j_get X hx rfl iwX4_countTaken_X4 13 (by decide) lkX4_countTaken_153 rfl dX4_countTaken_2 ?_
  refine j_iload_n X 1 dX4_countTaken_5 rfl rfl ?_
  refine j_iadd X dX4_countTaken_6 ?_
  refine j_put X hx rfl iwX4_countTaken_X4 tyX4 tyX4_ok nmX4 13 (by decide) lkX4_countTaken_153 rfl rfl rfl (Nat.le_of_ble_eq_true rfl) (fs' := [.ref (x + 1), .ref (x + 5), .ref (x + 9), .ref (x + 11), .int w, .int sl, .int la, .int sp, .int rm, .int ln, .int mA, .int mB, .int lt, .int (pr + z), .int tl, .int tk]) rfl dX4_countTaken_7 ?_
  generalize eM23 : j_up M x (.inr (4, [.ref (x + 1), .ref (x + 5), .ref (x + 9), .ref (x + 11), .int w, .int sl, .int la, .int sp, .int rm, .int ln, .int mA, .int mB, .int lt, .int (pr + z), .int tl, .int tk])) = M23
  have h25 : M23 x = some (.inr (4, [.ref (x + 1), .ref (x + 5), .ref (x + 9), .ref (x + 11), .int w, .int sl, .int la, .int sp, .int rm, .int ln, .int mA, .int mB, .int lt, .int (pr + z), .int tl, .int tk])) := by rw [← eM23]; exact j_up_self _ _ _
  refine j_aload_n X 0 dX4_countTaken_10 rfl rfl ?_
  refine j_dup X dX4_countTaken_11 rfl ?_
  refine j_get X h25 rfl iwX4_countTaken_X4 15 (by decide) lkX4_countTaken_159 rfl dX4_countTaken_12 ?_
  refine j_iconst X dX4_countTaken_15 (v := 1) (by decide) ?_
  refine j_iadd X dX4_countTaken_16 ?_
  refine j_put X h25 rfl iwX4_countTaken_X4 tyX4 tyX4_ok nmX4 15 (by decide) lkX4_countTaken_159 rfl rfl rfl (Nat.le_of_ble_eq_true rfl) (fs' := [.ref (x + 1), .ref (x + 5), .ref (x + 9), .ref (x + 11), .int w, .int sl, .int la, .int sp, .int rm, .int ln, .int mA, .int mB, .int lt, .int (pr + z), .int tl, .int (tk + 1)]) rfl dX4_countTaken_17 ?_
  generalize eM26 : j_up M23 x (.inr (4, [.ref (x + 1), .ref (x + 5), .ref (x + 9), .ref (x + 11), .int w, .int sl, .int la, .int sp, .int rm, .int ln, .int mA, .int mB, .int lt, .int (pr + z), .int tl, .int (tk + 1)])) = M26
  have h28 : M26 x = some (.inr (4, [.ref (x + 1), .ref (x + 5), .ref (x + 9), .ref (x + 11), .int w, .int sl, .int la, .int sp, .int rm, .int ln, .int mA, .int mB, .int lt, .int (pr + z), .int tl, .int (tk + 1)])) := by rw [← eM26]; exact j_up_self _ _ _
  exact j_vret X hlk hr (by omega) (by omega) dX4_countTaken_20 ⟨rfl, rfl, h28, fun q hq => by rw [← eM26, j_up_ne _ _ (hq), ← eM23, j_up_ne _ _ (hq)]⟩
set_option maxHeartbeats 800000 in
set_option maxRecDepth 100000 in
theorem c_X4_refusalOfMark (l : Launch) (D : va_G) {ty : jT} {cA : ClassId} (hI : ty[0]? = some (cA, .int)) (b0 : Nat) {M : jM} {n : Nat} (t k : Int32) : Ct l D ty vwCl nwSQ b0 yX4_refusalOfMark wsX4_refusalOfMark 2 42 0 0 [.int t, .int k] M n (j_rd (.int (if ¬ (-1000000000 ≤ t ∧ t ≤ 1000000000) then -2 else if t ≤ k then -5 else 0)) M n) := by
  refine j_start (cc := cX4_refusalOfMark) (maxL := 2) (ret := (some .int)) (by decide) rfl [some (.int t), some (.int k)] (Nat.le_of_ble_eq_true rfl) rfl ?_
  intro p e s m below meth c X hlk hr hnm
  refine j_iload_n X 0 dX4_refusalOfMark_0 rfl rfl ?_
  refine j_callS X nwSQ_ok (As := [.int t]) (rest := []) rfl (c_X4_isTime l D hI b0 t) rfl gX4_refusalOfMark_X4_isTime ddX4_isTime ⟨Nat.le_of_ble_eq_true rfl, Nat.le_of_ble_eq_true rfl⟩ (Nat.le_of_ble_eq_true rfl) rfl dX4_refusalOfMark_1 ⟨(by show 0 + 0 ≤ 0; omega), (by show 0 + 0 ≤ 0; omega)⟩ (fun r29 M30 n31 hr32 => ?_)
  obtain ⟨rfl, rfl, rfl⟩ := hr32
  refine j_st (st := [.int (if -1000000000 ≤ t ∧ t ≤ 1000000000 then 1 else 0)]) rfl ?_
  refine j_if_ne X 10 dX4_refusalOfMark_4 (by decide) (fun c33 => ?_) (fun c33 => ?_)
  · skip
    refine j_iload_n X 0 dX4_refusalOfMark_10 rfl rfl ?_
    refine j_iload_n X 1 dX4_refusalOfMark_11 rfl rfl ?_
    refine j_icmp_gt X 20 dX4_refusalOfMark_12 (by decide) (fun c34 => ?_) (fun c34 => ?_)
    · skip
      refine j_iconst X dX4_refusalOfMark_20 (v := 0) (by decide) ?_
      exact j_iret X hlk hr (by omega) (by omega) dX4_refusalOfMark_21 ⟨congrArg (fun z => some (Value.int z)) ((if_neg (fun g => g (zo_ne.mp c33))).trans (if_neg (Int32.not_le.mpr c34))).symm, rfl, rfl⟩
    · skip
      refine j_bipush X dX4_refusalOfMark_15 (v := (-5)) (by decide) ?_
      refine j_goto X 21 dX4_refusalOfMark_17 (by decide) ?_
      exact j_iret X hlk hr (by omega) (by omega) dX4_refusalOfMark_21 ⟨congrArg (fun z => some (Value.int z)) ((if_neg (fun g => g (zo_ne.mp c33))).trans (if_pos (Int32.not_lt.mp c34))).symm, rfl, rfl⟩
  · skip
    refine j_bipush X dX4_refusalOfMark_7 (v := (-2)) (by decide) ?_
    exact j_iret X hlk hr (by omega) (by omega) dX4_refusalOfMark_9 ⟨congrArg (fun z => some (Value.int z)) (if_pos (zo_eq.mp c33)).symm, rfl, rfl⟩
set_option maxHeartbeats 800000 in
set_option maxRecDepth 100000 in
theorem c_X4_available (l : Launch) (D : va_G) {ty : jT} {cA : ClassId} (hI : ty[0]? = some (cA, .int)) (b0 : Nat) {M : jM} {n x : Nat} {w sl la sp rm ln mA mB lt pr tl tk : Int32} (hx : M x = some (sqO x w sl la sp rm ln mA mB lt pr tl tk)) {qu : List Rec} (hq : LnAt M (x + 11) qu) : Ct l D ty vwCl nwSQ b0 yX4_available wsX4_available 1 20 0 0 [.ref x] M n (j_rd (.int (nI qu.length)) M n) := by
  have hx : M x = some (.inr (4, [.ref (x + 1), .ref (x + 5), .ref (x + 9), .ref (x + 11), .int w, .int sl, .int la, .int sp, .int rm, .int ln, .int mA, .int mB, .int lt, .int pr, .int tl, .int tk])) := hx
  obtain ⟨fi, hqc⟩ := hq.cell
  refine j_start (cc := cX4_available) (maxL := 1) (ret := (some .int)) (by decide) rfl [some (.ref x)] (Nat.le_of_ble_eq_true rfl) rfl ?_
  intro p e s m below meth c X hlk hr hnm
  refine j_aload_n X 0 dX4_available_0 rfl rfl ?_
  refine j_get X hx rfl iwX4_available_X4 3 (by decide) lkX4_available_29 rfl dX4_available_1 ?_
  refine j_callV X nwSQ_ok (As := []) (rest := []) hqc rfl rfl (c_X3_size l D hI b0 hq) rfl gX4_available_X3_size ⟨rfl, ddX3_size⟩ ⟨Nat.le_of_ble_eq_true rfl, Nat.le_of_ble_eq_true rfl⟩ (Nat.le_of_ble_eq_true rfl) rfl dX4_available_4 ⟨(by show 0 + 0 ≤ 0; omega), (by show 0 + 0 ≤ 0; omega)⟩ (fun r35 M36 n37 hr38 => ?_)
  obtain ⟨rfl, rfl, rfl⟩ := hr38
  refine j_st (st := [.int (nI qu.length)]) rfl ?_
  exact j_iret X hlk hr (by omega) (by omega) dX4_available_7 ⟨rfl, rfl, rfl⟩
set_option maxHeartbeats 800000 in
set_option maxRecDepth 100000 in
theorem c_X4_kindT (l : Launch) (D : va_G) {ty : jT} {cA : ClassId} (hI : ty[0]? = some (cA, .int)) (b0 : Nat) {M : jM} {n x : Nat} {w sl la sp rm ln mA mB lt pr tl tk : Int32} (hx : M x = some (sqO x w sl la sp rm ln mA mB lt pr tl tk)) {qu : List Rec} (hq : LnAt M (x + 11) qu) {j : Nat} {rc : Rec} (hj : j < qu.length) (hrc : qu[j]? = some rc) : Ct l D ty vwCl nwSQ b0 yX4_kind wsX4_kind 2 45 0 0 [.ref x, .int (nI j)] M n (j_rd (.int rc.1) M n) := by
  have hx : M x = some (.inr (4, [.ref (x + 1), .ref (x + 5), .ref (x + 9), .ref (x + 11), .int w, .int sl, .int la, .int sp, .int rm, .int ln, .int mA, .int mB, .int lt, .int pr, .int tl, .int tk])) := hx
  obtain ⟨fi, hqc⟩ := hq.cell
  refine j_start (cc := cX4_kind) (maxL := 2) (ret := (some .int)) (by decide) rfl [some (.ref x), some (.int (nI j))] (Nat.le_of_ble_eq_true rfl) rfl ?_
  intro p e s m below meth c X hlk hr hnm
  refine j_aload_n X 0 dX4_kind_0 rfl rfl ?_
  refine j_get X hx rfl iwX4_kind_X4 3 (by decide) lkX4_kind_29 rfl dX4_kind_1 ?_
  refine j_iload_n X 1 dX4_kind_4 rfl rfl ?_
  refine j_iconst X dX4_kind_5 (v := 0) (by decide) ?_
  refine j_callV X nwSQ_ok (As := [.int (nI j), .int 0]) (rest := []) hqc rfl rfl (c_X3_cellT l D hI b0 hq (k := 0) hj (by decide) hrc) rfl gX4_kind_X3_cell ⟨rfl, ddX3_cell⟩ ⟨Nat.le_of_ble_eq_true rfl, Nat.le_of_ble_eq_true rfl⟩ (Nat.le_of_ble_eq_true rfl) rfl dX4_kind_6 ⟨(by show 0 + 0 ≤ 0; omega), (by show 0 + 0 ≤ 0; omega)⟩ (fun r39 M40 n41 hr42 => ?_)
  obtain ⟨rfl, rfl, rfl⟩ := hr42
  refine j_st (st := [.int (rec_get rc 0)]) rfl ?_
  exact j_iret X hlk hr (by omega) (by omega) dX4_kind_9 ⟨rfl, rfl, rfl⟩
set_option maxHeartbeats 800000 in
set_option maxRecDepth 100000 in
theorem c_X4_kindF (l : Launch) (D : va_G) {ty : jT} {cA : ClassId} (hI : ty[0]? = some (cA, .int)) (b0 : Nat) {M : jM} {n x : Nat} {w sl la sp rm ln mA mB lt pr tl tk : Int32} (hx : M x = some (sqO x w sl la sp rm ln mA mB lt pr tl tk)) {qu : List Rec} (hq : LnAt M (x + 11) qu) {i : Int32} (hi : i < 0 ∨ nI qu.length ≤ i) : Ct l D ty vwCl nwSQ b0 yX4_kind wsX4_kind 2 45 0 0 [.ref x, .int i] M n (j_rd (.int 0) M n) := by
  have hx : M x = some (.inr (4, [.ref (x + 1), .ref (x + 5), .ref (x + 9), .ref (x + 11), .int w, .int sl, .int la, .int sp, .int rm, .int ln, .int mA, .int mB, .int lt, .int pr, .int tl, .int tk])) := hx
  obtain ⟨fi, hqc⟩ := hq.cell
  refine j_start (cc := cX4_kind) (maxL := 2) (ret := (some .int)) (by decide) rfl [some (.ref x), some (.int i)] (Nat.le_of_ble_eq_true rfl) rfl ?_
  intro p e s m below meth c X hlk hr hnm
  refine j_aload_n X 0 dX4_kind_0 rfl rfl ?_
  refine j_get X hx rfl iwX4_kind_X4 3 (by decide) lkX4_kind_29 rfl dX4_kind_1 ?_
  refine j_iload_n X 1 dX4_kind_4 rfl rfl ?_
  refine j_iconst X dX4_kind_5 (v := 0) (by decide) ?_
  refine j_callV X nwSQ_ok (As := [.int i, .int 0]) (rest := []) hqc rfl rfl (c_X3_cellF l D hI b0 hq hi) rfl gX4_kind_X3_cell ⟨rfl, ddX3_cell⟩ ⟨Nat.le_of_ble_eq_true rfl, Nat.le_of_ble_eq_true rfl⟩ (Nat.le_of_ble_eq_true rfl) rfl dX4_kind_6 ⟨(by show 0 + 0 ≤ 0; omega), (by show 0 + 0 ≤ 0; omega)⟩ (fun r43 M44 n45 hr46 => ?_)
  obtain ⟨rfl, rfl, rfl⟩ := hr46
  refine j_st (st := [.int 0]) rfl ?_
  exact j_iret X hlk hr (by omega) (by omega) dX4_kind_9 ⟨rfl, rfl, rfl⟩
set_option maxHeartbeats 800000 in
set_option maxRecDepth 100000 in
theorem c_X4_fieldT (l : Launch) (D : va_G) {ty : jT} {cA : ClassId} (hI : ty[0]? = some (cA, .int)) (b0 : Nat) {M : jM} {n x : Nat} {w sl la sp rm ln mA mB lt pr tl tk : Int32} (hx : M x = some (sqO x w sl la sp rm ln mA mB lt pr tl tk)) {qu : List Rec} (hq : LnAt M (x + 11) qu) {j k : Nat} {rc : Rec} (hj : j < qu.length) (hk : k < 5) (hrc : qu[j]? = some rc) : Ct l D ty vwCl nwSQ b0 yX4_field wsX4_field 2 45 0 0 [.ref x, .int (nI j), .int (nI k)] M n (j_rd (.int (rec_get rc (k + 1))) M n) := by
  have hx : M x = some (.inr (4, [.ref (x + 1), .ref (x + 5), .ref (x + 9), .ref (x + 11), .int w, .int sl, .int la, .int sp, .int rm, .int ln, .int mA, .int mB, .int lt, .int pr, .int tl, .int tk])) := hx
  obtain ⟨fi, hqc⟩ := hq.cell
  refine j_start (cc := cX4_field) (maxL := 3) (ret := (some .int)) (by decide) rfl [some (.ref x), some (.int (nI j)), some (.int (nI k))] (Nat.le_of_ble_eq_true rfl) rfl ?_
  intro p e s m below meth c X hlk hr hnm
  refine j_iload_n X 2 dX4_field_0 rfl rfl ?_
  refine j_iconst X dX4_field_1 (v := 0) (by decide) ?_
  refine j_iconst X dX4_field_2 (v := 4) (by decide) ?_
  refine j_callS X nwSQ_ok (As := [.int (nI k), .int 0, .int 4]) (rest := []) rfl (c_X4_isWithin l D hI b0 (nI k) 0 4) rfl gX4_field_X4_isWithin ddX4_isWithin ⟨Nat.le_of_ble_eq_true rfl, Nat.le_of_ble_eq_true rfl⟩ (Nat.le_of_ble_eq_true rfl) rfl dX4_field_3 ⟨(by show 0 + 0 ≤ 0; omega), (by show 0 + 0 ≤ 0; omega)⟩ (fun r47 M48 n49 hr50 => ?_)
  obtain ⟨rfl, rfl, rfl⟩ := hr50
  refine j_st (st := [.int (if 0 ≤ (nI k) ∧ (nI k) ≤ 4 then 1 else 0)]) rfl ?_
  refine j_if_eq X 23 dX4_field_6 (by decide) (fun c51 => ?_) (fun c51 => ?_)
  · skip
    exact absurd ⟨nI_pos' (by omega), nI_le (b := 4) (by omega) (by decide)⟩ (zo_eq.mp c51)
  · skip
    refine j_aload_n X 0 dX4_field_9 rfl rfl ?_
    refine j_get X hx rfl iwX4_field_X4 3 (by decide) lkX4_field_29 rfl dX4_field_10 ?_
    refine j_iload_n X 1 dX4_field_13 rfl rfl ?_
    refine j_iload_n X 2 dX4_field_14 rfl rfl ?_
    refine j_iconst X dX4_field_15 (v := 1) (by decide) ?_
    refine j_iadd X dX4_field_16 ?_
    refine j_st (st := [.int (nI (k + 1)), .int (nI j), .ref (x + 11)]) (by rw [show (nI k) + 1 = nI (k + 1) from nI_add _ 1]) ?_
    refine j_callV X nwSQ_ok (As := [.int (nI j), .int (nI (k + 1))]) (rest := []) hqc rfl rfl (c_X3_cellT l D hI b0 hq (k := k + 1) hj (by omega) hrc) rfl gX4_field_X3_cell ⟨rfl, ddX3_cell⟩ ⟨Nat.le_of_ble_eq_true rfl, Nat.le_of_ble_eq_true rfl⟩ (Nat.le_of_ble_eq_true rfl) rfl dX4_field_17 ⟨(by show 0 + 0 ≤ 0; omega), (by show 0 + 0 ≤ 0; omega)⟩ (fun r52 M53 n54 hr55 => ?_)
    obtain ⟨rfl, rfl, rfl⟩ := hr55
    refine j_st (st := [.int (rec_get rc (k + 1))]) rfl ?_
    refine j_goto X 24 dX4_field_20 (by decide) ?_
    exact j_iret X hlk hr (by omega) (by omega) dX4_field_24 ⟨rfl, rfl, rfl⟩
set_option maxHeartbeats 800000 in
set_option maxRecDepth 100000 in
theorem c_X4_fieldF (l : Launch) (D : va_G) {ty : jT} {cA : ClassId} (hI : ty[0]? = some (cA, .int)) (b0 : Nat) {M : jM} {n x : Nat} {w sl la sp rm ln mA mB lt pr tl tk : Int32} (hx : M x = some (sqO x w sl la sp rm ln mA mB lt pr tl tk)) {qu : List Rec} (hq : LnAt M (x + 11) qu) {i : Int32} (hi : i < 0 ∨ nI qu.length ≤ i) (k : Int32) : Ct l D ty vwCl nwSQ b0 yX4_field wsX4_field 2 45 0 0 [.ref x, .int i, .int k] M n (j_rd (.int 0) M n) := by
  have hx : M x = some (.inr (4, [.ref (x + 1), .ref (x + 5), .ref (x + 9), .ref (x + 11), .int w, .int sl, .int la, .int sp, .int rm, .int ln, .int mA, .int mB, .int lt, .int pr, .int tl, .int tk])) := hx
  obtain ⟨fi, hqc⟩ := hq.cell
  refine j_start (cc := cX4_field) (maxL := 3) (ret := (some .int)) (by decide) rfl [some (.ref x), some (.int i), some (.int k)] (Nat.le_of_ble_eq_true rfl) rfl ?_
  intro p e s m below meth c X hlk hr hnm
  refine j_iload_n X 2 dX4_field_0 rfl rfl ?_
  refine j_iconst X dX4_field_1 (v := 0) (by decide) ?_
  refine j_iconst X dX4_field_2 (v := 4) (by decide) ?_
  refine j_callS X nwSQ_ok (As := [.int k, .int 0, .int 4]) (rest := []) rfl (c_X4_isWithin l D hI b0 k 0 4) rfl gX4_field_X4_isWithin ddX4_isWithin ⟨Nat.le_of_ble_eq_true rfl, Nat.le_of_ble_eq_true rfl⟩ (Nat.le_of_ble_eq_true rfl) rfl dX4_field_3 ⟨(by show 0 + 0 ≤ 0; omega), (by show 0 + 0 ≤ 0; omega)⟩ (fun r56 M57 n58 hr59 => ?_)
  obtain ⟨rfl, rfl, rfl⟩ := hr59
  refine j_st (st := [.int (if 0 ≤ k ∧ k ≤ 4 then 1 else 0)]) rfl ?_
  refine j_if_eq X 23 dX4_field_6 (by decide) (fun c60 => ?_) (fun c60 => ?_)
  · skip
    refine j_iconst X dX4_field_23 (v := 0) (by decide) ?_
    exact j_iret X hlk hr (by omega) (by omega) dX4_field_24 ⟨rfl, rfl, rfl⟩
  · skip
    refine j_aload_n X 0 dX4_field_9 rfl rfl ?_
    refine j_get X hx rfl iwX4_field_X4 3 (by decide) lkX4_field_29 rfl dX4_field_10 ?_
    refine j_iload_n X 1 dX4_field_13 rfl rfl ?_
    refine j_iload_n X 2 dX4_field_14 rfl rfl ?_
    refine j_iconst X dX4_field_15 (v := 1) (by decide) ?_
    refine j_iadd X dX4_field_16 ?_
    refine j_callV X nwSQ_ok (As := [.int i, .int (k + 1)]) (rest := []) hqc rfl rfl (c_X3_cellF l D hI b0 hq hi) rfl gX4_field_X3_cell ⟨rfl, ddX3_cell⟩ ⟨Nat.le_of_ble_eq_true rfl, Nat.le_of_ble_eq_true rfl⟩ (Nat.le_of_ble_eq_true rfl) rfl dX4_field_17 ⟨(by show 0 + 0 ≤ 0; omega), (by show 0 + 0 ≤ 0; omega)⟩ (fun r61 M62 n63 hr64 => ?_)
    obtain ⟨rfl, rfl, rfl⟩ := hr64
    refine j_st (st := [.int 0]) rfl ?_
    refine j_goto X 24 dX4_field_20 (by decide) ?_
    exact j_iret X hlk hr (by omega) (by omega) dX4_field_24 ⟨rfl, rfl, rfl⟩
set_option maxHeartbeats 800000 in
set_option maxRecDepth 100000 in
theorem c_X4_fieldK (l : Launch) (D : va_G) {ty : jT} {cA : ClassId} (hI : ty[0]? = some (cA, .int)) (b0 : Nat) {M : jM} {n x : Nat} {w sl la sp rm ln mA mB lt pr tl tk : Int32} (hx : M x = some (sqO x w sl la sp rm ln mA mB lt pr tl tk)) {qu : List Rec} (hq : LnAt M (x + 11) qu) (i : Int32) {k : Int32} (hk : ¬ (0 ≤ k ∧ k ≤ 4)) : Ct l D ty vwCl nwSQ b0 yX4_field wsX4_field 2 45 0 0 [.ref x, .int i, .int k] M n (j_rd (.int 0) M n) := by
  have hx : M x = some (.inr (4, [.ref (x + 1), .ref (x + 5), .ref (x + 9), .ref (x + 11), .int w, .int sl, .int la, .int sp, .int rm, .int ln, .int mA, .int mB, .int lt, .int pr, .int tl, .int tk])) := hx
  obtain ⟨fi, hqc⟩ := hq.cell
  refine j_start (cc := cX4_field) (maxL := 3) (ret := (some .int)) (by decide) rfl [some (.ref x), some (.int i), some (.int k)] (Nat.le_of_ble_eq_true rfl) rfl ?_
  intro p e s m below meth c X hlk hr hnm
  refine j_iload_n X 2 dX4_field_0 rfl rfl ?_
  refine j_iconst X dX4_field_1 (v := 0) (by decide) ?_
  refine j_iconst X dX4_field_2 (v := 4) (by decide) ?_
  refine j_callS X nwSQ_ok (As := [.int k, .int 0, .int 4]) (rest := []) rfl (c_X4_isWithin l D hI b0 k 0 4) rfl gX4_field_X4_isWithin ddX4_isWithin ⟨Nat.le_of_ble_eq_true rfl, Nat.le_of_ble_eq_true rfl⟩ (Nat.le_of_ble_eq_true rfl) rfl dX4_field_3 ⟨(by show 0 + 0 ≤ 0; omega), (by show 0 + 0 ≤ 0; omega)⟩ (fun r65 M66 n67 hr68 => ?_)
  obtain ⟨rfl, rfl, rfl⟩ := hr68
  refine j_st (st := [.int (if 0 ≤ k ∧ k ≤ 4 then 1 else 0)]) rfl ?_
  refine j_if_eq X 23 dX4_field_6 (by decide) (fun c69 => ?_) (fun c69 => ?_)
  · skip
    refine j_iconst X dX4_field_23 (v := 0) (by decide) ?_
    exact j_iret X hlk hr (by omega) (by omega) dX4_field_24 ⟨rfl, rfl, rfl⟩
  · skip
    exact absurd (zo_ne.mp c69) hk
set_option maxHeartbeats 800000 in
set_option maxRecDepth 100000 in
theorem c_X4_popE (l : Launch) (D : va_G) {ty : jT} {cA : ClassId} (hI : ty[0]? = some (cA, .int)) (b0 : Nat) {M : jM} {n x : Nat} {w sl la sp rm ln mA mB lt pr tl tk : Int32} (hx : M x = some (sqO x w sl la sp rm ln mA mB lt pr tl tk)) (hq : LnAt M (x + 11) []) : Ct l D ty vwCl nwSQ b0 yX4_pop wsX4_pop 1 20 0 0 [.ref x] M n (j_rd (.int 0) M n) := by
  have hx : M x = some (.inr (4, [.ref (x + 1), .ref (x + 5), .ref (x + 9), .ref (x + 11), .int w, .int sl, .int la, .int sp, .int rm, .int ln, .int mA, .int mB, .int lt, .int pr, .int tl, .int tk])) := hx
  obtain ⟨fi, hqc⟩ := hq.cell
  refine j_start (cc := cX4_pop) (maxL := 1) (ret := (some .boolean)) (by decide) rfl [some (.ref x)] (Nat.le_of_ble_eq_true rfl) rfl ?_
  intro p e s m below meth c X hlk hr hnm
  refine j_aload_n X 0 dX4_pop_0 rfl rfl ?_
  refine j_get X hx rfl iwX4_pop_X4 3 (by decide) lkX4_pop_29 rfl dX4_pop_1 ?_
  refine j_callV X nwSQ_ok (As := []) (rest := []) hqc rfl rfl (c_X3_dropE l D hI b0 hq) rfl gX4_pop_X3_dropFirst ⟨rfl, ddX3_dropFirst⟩ ⟨Nat.le_of_ble_eq_true rfl, Nat.le_of_ble_eq_true rfl⟩ (Nat.le_of_ble_eq_true rfl) rfl dX4_pop_4 ⟨(by show 0 + 0 ≤ 0; omega), (by show 0 + 0 ≤ 0; omega)⟩ (fun r70 M71 n72 hr73 => ?_)
  obtain ⟨rfl, rfl, rfl⟩ := hr73
  refine j_st (st := [.int 0]) rfl ?_
  exact j_zret X hlk hr (by omega) (by omega) (by decide) dX4_pop_7 ⟨rfl, rfl, rfl⟩
set_option maxHeartbeats 800000 in
set_option maxRecDepth 100000 in
theorem c_X4_popC (l : Launch) (D : va_G) {ty : jT} {cA : ClassId} (hI : ty[0]? = some (cA, .int)) (b0 : Nat) {M : jM} {n x : Nat} {w sl la sp rm ln mA mB lt pr tl tk : Int32} (hx : M x = some (sqO x w sl la sp rm ln mA mB lt pr tl tk)) {rc : Rec} {qu : List Rec} (hq : LnAt M (x + 11) (rc :: qu)) : Ct l D ty vwCl nwSQ b0 yX4_pop wsX4_pop 1 20 0 0 [.ref x] M n (fun r M' n' => r = some (.int 1) ∧ n = n' ∧ LnAt M' (x + 11) qu ∧ ∀ q, (q < x + 11 ∨ x + 12 < q) → M' q = M q) := by
  have hx : M x = some (.inr (4, [.ref (x + 1), .ref (x + 5), .ref (x + 9), .ref (x + 11), .int w, .int sl, .int la, .int sp, .int rm, .int ln, .int mA, .int mB, .int lt, .int pr, .int tl, .int tk])) := hx
  obtain ⟨fi, hqc⟩ := hq.cell
  refine j_start (cc := cX4_pop) (maxL := 1) (ret := (some .boolean)) (by decide) rfl [some (.ref x)] (Nat.le_of_ble_eq_true rfl) rfl ?_
  intro p e s m below meth c X hlk hr hnm
  refine j_aload_n X 0 dX4_pop_0 rfl rfl ?_
  refine j_get X hx rfl iwX4_pop_X4 3 (by decide) lkX4_pop_29 rfl dX4_pop_1 ?_
  refine j_callV X nwSQ_ok (As := []) (rest := []) hqc rfl rfl (c_X3_dropC l D hI b0 hq) rfl gX4_pop_X3_dropFirst ⟨rfl, ddX3_dropFirst⟩ ⟨Nat.le_of_ble_eq_true rfl, Nat.le_of_ble_eq_true rfl⟩ (Nat.le_of_ble_eq_true rfl) rfl dX4_pop_4 ⟨(by show 0 + 0 ≤ 0; omega), (by show 0 + 0 ≤ 0; omega)⟩ (fun r74 M75 n76 hr77 => ?_)
  obtain ⟨rfl, rfl, hl2, hf2⟩ := hr77
  refine j_st (st := [.int 1]) rfl ?_
  exact j_zret X hlk hr (by omega) (by omega) (by decide) dX4_pop_7 ⟨rfl, rfl, hl2, fun q hq => hf2 q (by omega)⟩
set_option maxHeartbeats 800000 in
set_option maxRecDepth 100000 in
theorem c_X4_lookN (l : Launch) (D : va_G) {ty : jT} {cA : ClassId} (hI : ty[0]? = some (cA, .int)) (b0 : Nat) {M : jM} {n x : Nat} {w sl la sp rm ln mA mB lt pr tl tk : Int32} (hx : M x = some (sqO x w sl la sp rm ln mA mB lt pr tl tk)) {cs : List Nd} (hg : GrAt M (x + 9) cs) (e1 k1 v : Int32) (hf : fnd e1 k1 (lb e1 k1 (x + 9 + 1, g_hd) cs).2 = none) : Ct l D ty vwCl nwSQ b0 yX4_look wsX4_look 3 68 0 0 [.ref x, .int e1, .int k1, .int v] M n (j_rd (.int 0) M n) := by
  have hx : M x = some (.inr (4, [.ref (x + 1), .ref (x + 5), .ref (x + 9), .ref (x + 11), .int w, .int sl, .int la, .int sp, .int rm, .int ln, .int mA, .int mB, .int lt, .int pr, .int tl, .int tk])) := hx
  refine j_start (cc := cX4_look) (maxL := 5) (ret := (some .int)) (by decide) rfl [some (.ref x), some (.int e1), some (.int k1), some (.int v), none] (Nat.le_of_ble_eq_true rfl) rfl ?_
  intro p e s m below meth c X hlk hr hnm
  refine j_aload_n X 0 dX4_look_0 rfl rfl ?_
  refine j_get X hx rfl iwX4_look_X4 2 (by decide) lkX4_look_22 rfl dX4_look_1 ?_
  refine j_iload_n X 1 dX4_look_4 rfl rfl ?_
  refine j_iload_n X 2 dX4_look_5 rfl rfl ?_
  refine j_callV X nwSQ_ok (As := [.int e1, .int k1]) (rest := []) hg.1 rfl rfl (c_X2_find l D hI b0 hg e1 k1) rfl gX4_look_X2_find ⟨rfl, ddX2_find⟩ ⟨Nat.le_of_ble_eq_true rfl, Nat.le_of_ble_eq_true rfl⟩ (Nat.le_of_ble_eq_true rfl) rfl dX4_look_6 ⟨(by show 0 + 0 ≤ 0; omega), (by show 0 + 0 ≤ 0; omega)⟩ (fun r78 M79 n80 hr81 => ?_)
  obtain ⟨rfl, rfl, rfl⟩ := hr81
  refine j_st (st := [.null]) (by rw [hf]; rfl) ?_
  refine j_astoreN X dX4_look_9 (by decide) rfl (L' := [some (.ref x), some (.int e1), some (.int k1), some (.int v), some (.null)]) rfl ?_
  refine j_aloadN X dX4_look_11 rfl ?_
  refine j_ifnonnullN X dX4_look_13 ?_
  refine j_iconst X dX4_look_16 (v := 0) (by decide) ?_
  exact j_iret X hlk hr (by omega) (by omega) dX4_look_17 ⟨rfl, rfl, rfl⟩
set_option maxHeartbeats 800000 in
set_option maxRecDepth 100000 in
theorem c_X4_lookS (l : Launch) (D : va_G) {ty : jT} {cA : ClassId} (hI : ty[0]? = some (cA, .int)) (b0 : Nat) {M : jM} {n x : Nat} {w sl la sp rm ln mA mB lt pr tl tk : Int32} (hx : M x = some (sqO x w sl la sp rm ln mA mB lt pr tl tk)) {cs : List Nd} (hg : GrAt M (x + 9) cs) (e1 k1 v : Int32) {a : Nat} {g : Grp} {nx : Option Nat} (hf : fnd e1 k1 (lb e1 k1 (x + 9 + 1, g_hd) cs).2 = some a) (ha : M a = some (gnode g nx)) : Ct l D ty vwCl nwSQ b0 yX4_look wsX4_look 3 68 0 0 [.ref x, .int e1, .int k1, .int v] M n (j_rd (.int (if v = 0 then g.2.2.1 else if v = 1 then g.2.2.2.1 else if v = 2 then g.2.2.2.2 else 0)) M n) := by
  have hx : M x = some (.inr (4, [.ref (x + 1), .ref (x + 5), .ref (x + 9), .ref (x + 11), .int w, .int sl, .int la, .int sp, .int rm, .int ln, .int mA, .int mB, .int lt, .int pr, .int tl, .int tk])) := hx
  have ha : M a = some (.inr (1, [.int g.1, .int g.2.1, .int g.2.2.1, .int g.2.2.2.1, .int g.2.2.2.2, va_rf nx])) := ha
  refine j_start (cc := cX4_look) (maxL := 5) (ret := (some .int)) (by decide) rfl [some (.ref x), some (.int e1), some (.int k1), some (.int v), none] (Nat.le_of_ble_eq_true rfl) rfl ?_
  intro p e s m below meth c X hlk hr hnm
  refine j_aload_n X 0 dX4_look_0 rfl rfl ?_
  refine j_get X hx rfl iwX4_look_X4 2 (by decide) lkX4_look_22 rfl dX4_look_1 ?_
  refine j_iload_n X 1 dX4_look_4 rfl rfl ?_
  refine j_iload_n X 2 dX4_look_5 rfl rfl ?_
  refine j_callV X nwSQ_ok (As := [.int e1, .int k1]) (rest := []) hg.1 rfl rfl (c_X2_find l D hI b0 hg e1 k1) rfl gX4_look_X2_find ⟨rfl, ddX2_find⟩ ⟨Nat.le_of_ble_eq_true rfl, Nat.le_of_ble_eq_true rfl⟩ (Nat.le_of_ble_eq_true rfl) rfl dX4_look_6 ⟨(by show 0 + 0 ≤ 0; omega), (by show 0 + 0 ≤ 0; omega)⟩ (fun r82 M83 n84 hr85 => ?_)
  obtain ⟨rfl, rfl, rfl⟩ := hr85
  refine j_st (st := [.ref a]) (by rw [hf]; rfl) ?_
  refine j_astore X dX4_look_9 (by decide) rfl (L' := [some (.ref x), some (.int e1), some (.int k1), some (.int v), some (.ref a)]) rfl ?_
  refine j_aload X dX4_look_11 rfl ?_
  refine j_ifnonnullR X 18 dX4_look_13 (by decide) ?_
  refine j_iload_n X 3 dX4_look_18 rfl rfl ?_
  by_cases c86 : v = 0
  · skip
    refine j_tableIn X 44 dX4_look_19 (by rw [c86]; decide) (by rw [c86]; decide) (off := 25) (by rw [c86]; decide) (by decide) ?_
    refine j_aload X dX4_look_44 rfl ?_
    refine j_getN X ha rfl iwX4_look_X1 2 (by decide) lkX4_look_130 rfl dX4_look_46 ?_
    exact j_iret X hlk hr (by omega) (by omega) dX4_look_49 ⟨congrArg (fun z => some (Value.int z)) (if_pos c86).symm, rfl, rfl⟩
  by_cases c87 : v = 1
  · skip
    refine j_tableIn X 50 dX4_look_19 (by rw [c87]; decide) (by rw [c87]; decide) (off := 31) (by rw [c87]; decide) (by decide) ?_
    refine j_aload X dX4_look_50 rfl ?_
    refine j_getN X ha rfl iwX4_look_X1 3 (by decide) lkX4_look_135 rfl dX4_look_52 ?_
    exact j_iret X hlk hr (by omega) (by omega) dX4_look_55 ⟨congrArg (fun z => some (Value.int z)) ((if_neg (by rw [c87]; decide)).trans (if_pos c87)).symm, rfl, rfl⟩
  by_cases c88 : v = 2
  · skip
    refine j_tableIn X 56 dX4_look_19 (by rw [c88]; decide) (by rw [c88]; decide) (off := 37) (by rw [c88]; decide) (by decide) ?_
    refine j_aload X dX4_look_56 rfl ?_
    refine j_getN X ha rfl iwX4_look_X1 4 (by decide) lkX4_look_138 rfl dX4_look_58 ?_
    exact j_iret X hlk hr (by omega) (by omega) dX4_look_61 ⟨congrArg (fun z => some (Value.int z)) ((if_neg (by rw [c88]; decide)).trans ((if_neg (by rw [c88]; decide)).trans (if_pos c88))).symm, rfl, rfl⟩
  · skip
    refine j_tableOut X 62 dX4_look_19 (by have q0 := lv_neT (a := 0) c86 (by decide); have q1 := lv_neT (a := 1) c87 (by decide); have q2 := lv_neT (a := 2) c88 (by decide); omega) (by decide) ?_
    refine j_iconst X dX4_look_62 (v := 0) (by decide) ?_
    exact j_iret X hlk hr (by omega) (by omega) dX4_look_63 ⟨congrArg (fun z => some (Value.int z)) ((if_neg c86).trans ((if_neg c87).trans (if_neg c88))).symm, rfl, rfl⟩
set_option maxHeartbeats 800000 in
set_option maxRecDepth 100000 in
theorem c_X4_eventAT (l : Launch) (D : va_G) {ty : jT} {cA : ClassId} (hI : ty[0]? = some (cA, .int)) (b0 : Nat) {M : jM} {n x : Nat} {w sl la sp rm ln mA mB lt pr tl tk : Int32} (hx : M x = some (sqO x w sl la sp rm ln mA mB lt pr tl tk)) {le : List Ev} (he : EvAt M (x + 1) le) {j : Nat} {ev : Ev} (hj : j < le.length) (hev : le[j]? = some ev) (v : Int32) : Ct l D ty vwCl nwSQ b0 yX4_event wsX4_event 2 42 0 0 [.ref x, .int 0, .int (nI j), .int v] M n (j_rd (.int (if v = 0 then ev.1 else if v = 1 then ev.2.1 else if v = 2 then ev.2.2 else 0)) M n) := by
  have hx : M x = some (.inr (4, [.ref (x + 1), .ref (x + 5), .ref (x + 9), .ref (x + 11), .int w, .int sl, .int la, .int sp, .int rm, .int ln, .int mA, .int mB, .int lt, .int pr, .int tl, .int tk])) := hx
  refine j_start (cc := cX4_event) (maxL := 5) (ret := (some .int)) (by decide) rfl [some (.ref x), some (.int 0), some (.int (nI j)), some (.int v), none] (Nat.le_of_ble_eq_true rfl) rfl ?_
  intro p e s m below meth c X hlk hr hnm
  refine j_iload_n X 1 dX4_event_0 rfl rfl ?_
  refine j_iconst X dX4_event_1 (v := 0) (by decide) ?_
  refine j_iconst X dX4_event_2 (v := 1) (by decide) ?_
  refine j_callS X nwSQ_ok (As := [.int 0, .int 0, .int 1]) (rest := []) rfl (c_X4_isWithin l D hI b0 0 0 1) rfl gX4_event_X4_isWithin ddX4_isWithin ⟨Nat.le_of_ble_eq_true rfl, Nat.le_of_ble_eq_true rfl⟩ (Nat.le_of_ble_eq_true rfl) rfl dX4_event_3 ⟨(by show 0 + 0 ≤ 0; omega), (by show 0 + 0 ≤ 0; omega)⟩ (fun r89 M90 n91 hr92 => ?_)
  obtain ⟨rfl, rfl, rfl⟩ := hr92
  refine j_st (st := [.int (if 0 ≤ 0 ∧ 0 ≤ 1 then 1 else 0)]) rfl ?_
  refine j_if_ne X 11 dX4_event_6 (by decide) (fun c93 => ?_) (fun c93 => ?_)
  · skip
    refine j_iload_n X 1 dX4_event_11 rfl rfl ?_
    refine j_if_ne X 22 dX4_event_12 (by decide) (fun c94 => ?_) (fun c94 => ?_)
    · skip
      exact absurd rfl c94
    · skip
      refine j_aload_n X 0 dX4_event_15 rfl rfl ?_
      refine j_get X hx rfl iwX4_event_X4 0 (by decide) lkX4_event_10 rfl dX4_event_16 ?_
      refine j_goto X 26 dX4_event_19 (by decide) ?_
      refine j_astore X dX4_event_26 (by decide) rfl (L' := [some (.ref x), some (.int 0), some (.int (nI j)), some (.int v), some (.ref (x + 1))]) rfl ?_
      refine j_iload_n X 3 dX4_event_28 rfl rfl ?_
      by_cases c95 : v = 0
      · skip
        refine j_tableIn X 56 dX4_event_29 (by rw [c95]; decide) (by rw [c95]; decide) (off := 27) (by rw [c95]; decide) (by decide) ?_
        refine j_aload X dX4_event_56 rfl ?_
        refine j_iload_n X 2 dX4_event_58 rfl rfl ?_
        refine j_callV X nwSQ_ok (As := [.int (nI j)]) (rest := []) he.cell rfl rfl (c_X0_timeT l D hI b0 he hj hev) rfl gX4_event_X0_time ⟨rfl, ddX0_time⟩ ⟨Nat.le_of_ble_eq_true rfl, Nat.le_of_ble_eq_true rfl⟩ (Nat.le_of_ble_eq_true rfl) rfl dX4_event_59 ⟨(by show 0 + 0 ≤ 0; omega), (by show 0 + 0 ≤ 0; omega)⟩ (fun r96 M97 n98 hr99 => ?_)
        obtain ⟨rfl, rfl, rfl⟩ := hr99
        refine j_st (st := [.int ev.1]) rfl ?_
        exact j_iret X hlk hr (by omega) (by omega) dX4_event_62 ⟨congrArg (fun z => some (Value.int z)) (if_pos c95).symm, rfl, rfl⟩
      by_cases c100 : v = 1
      · skip
        refine j_tableIn X 63 dX4_event_29 (by rw [c100]; decide) (by rw [c100]; decide) (off := 34) (by rw [c100]; decide) (by decide) ?_
        refine j_aload X dX4_event_63 rfl ?_
        refine j_iload_n X 2 dX4_event_65 rfl rfl ?_
        refine j_callV X nwSQ_ok (As := [.int (nI j)]) (rest := []) he.cell rfl rfl (c_X0_keyT l D hI b0 he hj hev) rfl gX4_event_X0_key ⟨rfl, ddX0_key⟩ ⟨Nat.le_of_ble_eq_true rfl, Nat.le_of_ble_eq_true rfl⟩ (Nat.le_of_ble_eq_true rfl) rfl dX4_event_66 ⟨(by show 0 + 0 ≤ 0; omega), (by show 0 + 0 ≤ 0; omega)⟩ (fun r101 M102 n103 hr104 => ?_)
        obtain ⟨rfl, rfl, rfl⟩ := hr104
        refine j_st (st := [.int ev.2.1]) rfl ?_
        exact j_iret X hlk hr (by omega) (by omega) dX4_event_69 ⟨congrArg (fun z => some (Value.int z)) ((if_neg (by rw [c100]; decide)).trans (if_pos c100)).symm, rfl, rfl⟩
      by_cases c105 : v = 2
      · skip
        refine j_tableIn X 70 dX4_event_29 (by rw [c105]; decide) (by rw [c105]; decide) (off := 41) (by rw [c105]; decide) (by decide) ?_
        refine j_aload X dX4_event_70 rfl ?_
        refine j_iload_n X 2 dX4_event_72 rfl rfl ?_
        refine j_callV X nwSQ_ok (As := [.int (nI j)]) (rest := []) he.cell rfl rfl (c_X0_valueT l D hI b0 he hj hev) rfl gX4_event_X0_value ⟨rfl, ddX0_value⟩ ⟨Nat.le_of_ble_eq_true rfl, Nat.le_of_ble_eq_true rfl⟩ (Nat.le_of_ble_eq_true rfl) rfl dX4_event_73 ⟨(by show 0 + 0 ≤ 0; omega), (by show 0 + 0 ≤ 0; omega)⟩ (fun r106 M107 n108 hr109 => ?_)
        obtain ⟨rfl, rfl, rfl⟩ := hr109
        refine j_st (st := [.int ev.2.2]) rfl ?_
        exact j_iret X hlk hr (by omega) (by omega) dX4_event_76 ⟨congrArg (fun z => some (Value.int z)) ((if_neg (by rw [c105]; decide)).trans ((if_neg (by rw [c105]; decide)).trans (if_pos c105))).symm, rfl, rfl⟩
      · skip
        refine j_tableOut X 77 dX4_event_29 (by have q0 := lv_neT (a := 0) c95 (by decide); have q1 := lv_neT (a := 1) c100 (by decide); have q2 := lv_neT (a := 2) c105 (by decide); omega) (by decide) ?_
        refine j_iconst X dX4_event_77 (v := 0) (by decide) ?_
        exact j_iret X hlk hr (by omega) (by omega) dX4_event_78 ⟨congrArg (fun z => some (Value.int z)) ((if_neg c95).trans ((if_neg c100).trans (if_neg c105))).symm, rfl, rfl⟩
  · skip
    exact absurd c93 (by decide)
set_option maxHeartbeats 800000 in
set_option maxRecDepth 100000 in
theorem c_X4_eventAF (l : Launch) (D : va_G) {ty : jT} {cA : ClassId} (hI : ty[0]? = some (cA, .int)) (b0 : Nat) {M : jM} {n x : Nat} {w sl la sp rm ln mA mB lt pr tl tk : Int32} (hx : M x = some (sqO x w sl la sp rm ln mA mB lt pr tl tk)) {le : List Ev} (he : EvAt M (x + 1) le) {i : Int32} (hi : i < 0 ∨ nI le.length ≤ i) (v : Int32) : Ct l D ty vwCl nwSQ b0 yX4_event wsX4_event 2 42 0 0 [.ref x, .int 0, .int i, .int v] M n (j_rd (.int 0) M n) := by
  have hx : M x = some (.inr (4, [.ref (x + 1), .ref (x + 5), .ref (x + 9), .ref (x + 11), .int w, .int sl, .int la, .int sp, .int rm, .int ln, .int mA, .int mB, .int lt, .int pr, .int tl, .int tk])) := hx
  refine j_start (cc := cX4_event) (maxL := 5) (ret := (some .int)) (by decide) rfl [some (.ref x), some (.int 0), some (.int i), some (.int v), none] (Nat.le_of_ble_eq_true rfl) rfl ?_
  intro p e s m below meth c X hlk hr hnm
  refine j_iload_n X 1 dX4_event_0 rfl rfl ?_
  refine j_iconst X dX4_event_1 (v := 0) (by decide) ?_
  refine j_iconst X dX4_event_2 (v := 1) (by decide) ?_
  refine j_callS X nwSQ_ok (As := [.int 0, .int 0, .int 1]) (rest := []) rfl (c_X4_isWithin l D hI b0 0 0 1) rfl gX4_event_X4_isWithin ddX4_isWithin ⟨Nat.le_of_ble_eq_true rfl, Nat.le_of_ble_eq_true rfl⟩ (Nat.le_of_ble_eq_true rfl) rfl dX4_event_3 ⟨(by show 0 + 0 ≤ 0; omega), (by show 0 + 0 ≤ 0; omega)⟩ (fun r110 M111 n112 hr113 => ?_)
  obtain ⟨rfl, rfl, rfl⟩ := hr113
  refine j_st (st := [.int (if 0 ≤ 0 ∧ 0 ≤ 1 then 1 else 0)]) rfl ?_
  refine j_if_ne X 11 dX4_event_6 (by decide) (fun c114 => ?_) (fun c114 => ?_)
  · skip
    refine j_iload_n X 1 dX4_event_11 rfl rfl ?_
    refine j_if_ne X 22 dX4_event_12 (by decide) (fun c115 => ?_) (fun c115 => ?_)
    · skip
      exact absurd rfl c115
    · skip
      refine j_aload_n X 0 dX4_event_15 rfl rfl ?_
      refine j_get X hx rfl iwX4_event_X4 0 (by decide) lkX4_event_10 rfl dX4_event_16 ?_
      refine j_goto X 26 dX4_event_19 (by decide) ?_
      refine j_astore X dX4_event_26 (by decide) rfl (L' := [some (.ref x), some (.int 0), some (.int i), some (.int v), some (.ref (x + 1))]) rfl ?_
      refine j_iload_n X 3 dX4_event_28 rfl rfl ?_
      by_cases c116 : v = 0
      · skip
        refine j_tableIn X 56 dX4_event_29 (by rw [c116]; decide) (by rw [c116]; decide) (off := 27) (by rw [c116]; decide) (by decide) ?_
        refine j_aload X dX4_event_56 rfl ?_
        refine j_iload_n X 2 dX4_event_58 rfl rfl ?_
        refine j_callV X nwSQ_ok (As := [.int i]) (rest := []) he.cell rfl rfl (c_X0_timeF l D hI b0 he hi) rfl gX4_event_X0_time ⟨rfl, ddX0_time⟩ ⟨Nat.le_of_ble_eq_true rfl, Nat.le_of_ble_eq_true rfl⟩ (Nat.le_of_ble_eq_true rfl) rfl dX4_event_59 ⟨(by show 0 + 0 ≤ 0; omega), (by show 0 + 0 ≤ 0; omega)⟩ (fun r117 M118 n119 hr120 => ?_)
        obtain ⟨rfl, rfl, rfl⟩ := hr120
        refine j_st (st := [.int 0]) rfl ?_
        exact j_iret X hlk hr (by omega) (by omega) dX4_event_62 ⟨rfl, rfl, rfl⟩
      by_cases c121 : v = 1
      · skip
        refine j_tableIn X 63 dX4_event_29 (by rw [c121]; decide) (by rw [c121]; decide) (off := 34) (by rw [c121]; decide) (by decide) ?_
        refine j_aload X dX4_event_63 rfl ?_
        refine j_iload_n X 2 dX4_event_65 rfl rfl ?_
        refine j_callV X nwSQ_ok (As := [.int i]) (rest := []) he.cell rfl rfl (c_X0_keyF l D hI b0 he hi) rfl gX4_event_X0_key ⟨rfl, ddX0_key⟩ ⟨Nat.le_of_ble_eq_true rfl, Nat.le_of_ble_eq_true rfl⟩ (Nat.le_of_ble_eq_true rfl) rfl dX4_event_66 ⟨(by show 0 + 0 ≤ 0; omega), (by show 0 + 0 ≤ 0; omega)⟩ (fun r122 M123 n124 hr125 => ?_)
        obtain ⟨rfl, rfl, rfl⟩ := hr125
        refine j_st (st := [.int 0]) rfl ?_
        exact j_iret X hlk hr (by omega) (by omega) dX4_event_69 ⟨rfl, rfl, rfl⟩
      by_cases c126 : v = 2
      · skip
        refine j_tableIn X 70 dX4_event_29 (by rw [c126]; decide) (by rw [c126]; decide) (off := 41) (by rw [c126]; decide) (by decide) ?_
        refine j_aload X dX4_event_70 rfl ?_
        refine j_iload_n X 2 dX4_event_72 rfl rfl ?_
        refine j_callV X nwSQ_ok (As := [.int i]) (rest := []) he.cell rfl rfl (c_X0_valueF l D hI b0 he hi) rfl gX4_event_X0_value ⟨rfl, ddX0_value⟩ ⟨Nat.le_of_ble_eq_true rfl, Nat.le_of_ble_eq_true rfl⟩ (Nat.le_of_ble_eq_true rfl) rfl dX4_event_73 ⟨(by show 0 + 0 ≤ 0; omega), (by show 0 + 0 ≤ 0; omega)⟩ (fun r127 M128 n129 hr130 => ?_)
        obtain ⟨rfl, rfl, rfl⟩ := hr130
        refine j_st (st := [.int 0]) rfl ?_
        exact j_iret X hlk hr (by omega) (by omega) dX4_event_76 ⟨rfl, rfl, rfl⟩
      · skip
        refine j_tableOut X 77 dX4_event_29 (by have q0 := lv_neT (a := 0) c116 (by decide); have q1 := lv_neT (a := 1) c121 (by decide); have q2 := lv_neT (a := 2) c126 (by decide); omega) (by decide) ?_
        refine j_iconst X dX4_event_77 (v := 0) (by decide) ?_
        exact j_iret X hlk hr (by omega) (by omega) dX4_event_78 ⟨rfl, rfl, rfl⟩
  · skip
    exact absurd c114 (by decide)
set_option maxHeartbeats 800000 in
set_option maxRecDepth 100000 in
theorem c_X4_eventBT (l : Launch) (D : va_G) {ty : jT} {cA : ClassId} (hI : ty[0]? = some (cA, .int)) (b0 : Nat) {M : jM} {n x : Nat} {w sl la sp rm ln mA mB lt pr tl tk : Int32} (hx : M x = some (sqO x w sl la sp rm ln mA mB lt pr tl tk)) {le : List Ev} (he : EvAt M (x + 5) le) {j : Nat} {ev : Ev} (hj : j < le.length) (hev : le[j]? = some ev) (v : Int32) : Ct l D ty vwCl nwSQ b0 yX4_event wsX4_event 2 42 0 0 [.ref x, .int 1, .int (nI j), .int v] M n (j_rd (.int (if v = 0 then ev.1 else if v = 1 then ev.2.1 else if v = 2 then ev.2.2 else 0)) M n) := by
  have hx : M x = some (.inr (4, [.ref (x + 1), .ref (x + 5), .ref (x + 9), .ref (x + 11), .int w, .int sl, .int la, .int sp, .int rm, .int ln, .int mA, .int mB, .int lt, .int pr, .int tl, .int tk])) := hx
  refine j_start (cc := cX4_event) (maxL := 5) (ret := (some .int)) (by decide) rfl [some (.ref x), some (.int 1), some (.int (nI j)), some (.int v), none] (Nat.le_of_ble_eq_true rfl) rfl ?_
  intro p e s m below meth c X hlk hr hnm
  refine j_iload_n X 1 dX4_event_0 rfl rfl ?_
  refine j_iconst X dX4_event_1 (v := 0) (by decide) ?_
  refine j_iconst X dX4_event_2 (v := 1) (by decide) ?_
  refine j_callS X nwSQ_ok (As := [.int 1, .int 0, .int 1]) (rest := []) rfl (c_X4_isWithin l D hI b0 1 0 1) rfl gX4_event_X4_isWithin ddX4_isWithin ⟨Nat.le_of_ble_eq_true rfl, Nat.le_of_ble_eq_true rfl⟩ (Nat.le_of_ble_eq_true rfl) rfl dX4_event_3 ⟨(by show 0 + 0 ≤ 0; omega), (by show 0 + 0 ≤ 0; omega)⟩ (fun r131 M132 n133 hr134 => ?_)
  obtain ⟨rfl, rfl, rfl⟩ := hr134
  refine j_st (st := [.int (if 0 ≤ 1 ∧ 1 ≤ 1 then 1 else 0)]) rfl ?_
  refine j_if_ne X 11 dX4_event_6 (by decide) (fun c135 => ?_) (fun c135 => ?_)
  · skip
    refine j_iload_n X 1 dX4_event_11 rfl rfl ?_
    refine j_if_ne X 22 dX4_event_12 (by decide) (fun c136 => ?_) (fun c136 => ?_)
    · skip
      refine j_aload_n X 0 dX4_event_22 rfl rfl ?_
      refine j_get X hx rfl iwX4_event_X4 1 (by decide) lkX4_event_16 rfl dX4_event_23 ?_
      refine j_astore X dX4_event_26 (by decide) rfl (L' := [some (.ref x), some (.int 1), some (.int (nI j)), some (.int v), some (.ref (x + 5))]) rfl ?_
      refine j_iload_n X 3 dX4_event_28 rfl rfl ?_
      by_cases c137 : v = 0
      · skip
        refine j_tableIn X 56 dX4_event_29 (by rw [c137]; decide) (by rw [c137]; decide) (off := 27) (by rw [c137]; decide) (by decide) ?_
        refine j_aload X dX4_event_56 rfl ?_
        refine j_iload_n X 2 dX4_event_58 rfl rfl ?_
        refine j_callV X nwSQ_ok (As := [.int (nI j)]) (rest := []) he.cell rfl rfl (c_X0_timeT l D hI b0 he hj hev) rfl gX4_event_X0_time ⟨rfl, ddX0_time⟩ ⟨Nat.le_of_ble_eq_true rfl, Nat.le_of_ble_eq_true rfl⟩ (Nat.le_of_ble_eq_true rfl) rfl dX4_event_59 ⟨(by show 0 + 0 ≤ 0; omega), (by show 0 + 0 ≤ 0; omega)⟩ (fun r138 M139 n140 hr141 => ?_)
        obtain ⟨rfl, rfl, rfl⟩ := hr141
        refine j_st (st := [.int ev.1]) rfl ?_
        exact j_iret X hlk hr (by omega) (by omega) dX4_event_62 ⟨congrArg (fun z => some (Value.int z)) (if_pos c137).symm, rfl, rfl⟩
      by_cases c142 : v = 1
      · skip
        refine j_tableIn X 63 dX4_event_29 (by rw [c142]; decide) (by rw [c142]; decide) (off := 34) (by rw [c142]; decide) (by decide) ?_
        refine j_aload X dX4_event_63 rfl ?_
        refine j_iload_n X 2 dX4_event_65 rfl rfl ?_
        refine j_callV X nwSQ_ok (As := [.int (nI j)]) (rest := []) he.cell rfl rfl (c_X0_keyT l D hI b0 he hj hev) rfl gX4_event_X0_key ⟨rfl, ddX0_key⟩ ⟨Nat.le_of_ble_eq_true rfl, Nat.le_of_ble_eq_true rfl⟩ (Nat.le_of_ble_eq_true rfl) rfl dX4_event_66 ⟨(by show 0 + 0 ≤ 0; omega), (by show 0 + 0 ≤ 0; omega)⟩ (fun r143 M144 n145 hr146 => ?_)
        obtain ⟨rfl, rfl, rfl⟩ := hr146
        refine j_st (st := [.int ev.2.1]) rfl ?_
        exact j_iret X hlk hr (by omega) (by omega) dX4_event_69 ⟨congrArg (fun z => some (Value.int z)) ((if_neg (by rw [c142]; decide)).trans (if_pos c142)).symm, rfl, rfl⟩
      by_cases c147 : v = 2
      · skip
        refine j_tableIn X 70 dX4_event_29 (by rw [c147]; decide) (by rw [c147]; decide) (off := 41) (by rw [c147]; decide) (by decide) ?_
        refine j_aload X dX4_event_70 rfl ?_
        refine j_iload_n X 2 dX4_event_72 rfl rfl ?_
        refine j_callV X nwSQ_ok (As := [.int (nI j)]) (rest := []) he.cell rfl rfl (c_X0_valueT l D hI b0 he hj hev) rfl gX4_event_X0_value ⟨rfl, ddX0_value⟩ ⟨Nat.le_of_ble_eq_true rfl, Nat.le_of_ble_eq_true rfl⟩ (Nat.le_of_ble_eq_true rfl) rfl dX4_event_73 ⟨(by show 0 + 0 ≤ 0; omega), (by show 0 + 0 ≤ 0; omega)⟩ (fun r148 M149 n150 hr151 => ?_)
        obtain ⟨rfl, rfl, rfl⟩ := hr151
        refine j_st (st := [.int ev.2.2]) rfl ?_
        exact j_iret X hlk hr (by omega) (by omega) dX4_event_76 ⟨congrArg (fun z => some (Value.int z)) ((if_neg (by rw [c147]; decide)).trans ((if_neg (by rw [c147]; decide)).trans (if_pos c147))).symm, rfl, rfl⟩
      · skip
        refine j_tableOut X 77 dX4_event_29 (by have q0 := lv_neT (a := 0) c137 (by decide); have q1 := lv_neT (a := 1) c142 (by decide); have q2 := lv_neT (a := 2) c147 (by decide); omega) (by decide) ?_
        refine j_iconst X dX4_event_77 (v := 0) (by decide) ?_
        exact j_iret X hlk hr (by omega) (by omega) dX4_event_78 ⟨congrArg (fun z => some (Value.int z)) ((if_neg c137).trans ((if_neg c142).trans (if_neg c147))).symm, rfl, rfl⟩
    · skip
      exact absurd c136 (by decide)
  · skip
    exact absurd c135 (by decide)
set_option maxHeartbeats 800000 in
set_option maxRecDepth 100000 in
theorem c_X4_eventBF (l : Launch) (D : va_G) {ty : jT} {cA : ClassId} (hI : ty[0]? = some (cA, .int)) (b0 : Nat) {M : jM} {n x : Nat} {w sl la sp rm ln mA mB lt pr tl tk : Int32} (hx : M x = some (sqO x w sl la sp rm ln mA mB lt pr tl tk)) {le : List Ev} (he : EvAt M (x + 5) le) {i : Int32} (hi : i < 0 ∨ nI le.length ≤ i) (v : Int32) : Ct l D ty vwCl nwSQ b0 yX4_event wsX4_event 2 42 0 0 [.ref x, .int 1, .int i, .int v] M n (j_rd (.int 0) M n) := by
  have hx : M x = some (.inr (4, [.ref (x + 1), .ref (x + 5), .ref (x + 9), .ref (x + 11), .int w, .int sl, .int la, .int sp, .int rm, .int ln, .int mA, .int mB, .int lt, .int pr, .int tl, .int tk])) := hx
  refine j_start (cc := cX4_event) (maxL := 5) (ret := (some .int)) (by decide) rfl [some (.ref x), some (.int 1), some (.int i), some (.int v), none] (Nat.le_of_ble_eq_true rfl) rfl ?_
  intro p e s m below meth c X hlk hr hnm
  refine j_iload_n X 1 dX4_event_0 rfl rfl ?_
  refine j_iconst X dX4_event_1 (v := 0) (by decide) ?_
  refine j_iconst X dX4_event_2 (v := 1) (by decide) ?_
  refine j_callS X nwSQ_ok (As := [.int 1, .int 0, .int 1]) (rest := []) rfl (c_X4_isWithin l D hI b0 1 0 1) rfl gX4_event_X4_isWithin ddX4_isWithin ⟨Nat.le_of_ble_eq_true rfl, Nat.le_of_ble_eq_true rfl⟩ (Nat.le_of_ble_eq_true rfl) rfl dX4_event_3 ⟨(by show 0 + 0 ≤ 0; omega), (by show 0 + 0 ≤ 0; omega)⟩ (fun r152 M153 n154 hr155 => ?_)
  obtain ⟨rfl, rfl, rfl⟩ := hr155
  refine j_st (st := [.int (if 0 ≤ 1 ∧ 1 ≤ 1 then 1 else 0)]) rfl ?_
  refine j_if_ne X 11 dX4_event_6 (by decide) (fun c156 => ?_) (fun c156 => ?_)
  · skip
    refine j_iload_n X 1 dX4_event_11 rfl rfl ?_
    refine j_if_ne X 22 dX4_event_12 (by decide) (fun c157 => ?_) (fun c157 => ?_)
    · skip
      refine j_aload_n X 0 dX4_event_22 rfl rfl ?_
      refine j_get X hx rfl iwX4_event_X4 1 (by decide) lkX4_event_16 rfl dX4_event_23 ?_
      refine j_astore X dX4_event_26 (by decide) rfl (L' := [some (.ref x), some (.int 1), some (.int i), some (.int v), some (.ref (x + 5))]) rfl ?_
      refine j_iload_n X 3 dX4_event_28 rfl rfl ?_
      by_cases c158 : v = 0
      · skip
        refine j_tableIn X 56 dX4_event_29 (by rw [c158]; decide) (by rw [c158]; decide) (off := 27) (by rw [c158]; decide) (by decide) ?_
        refine j_aload X dX4_event_56 rfl ?_
        refine j_iload_n X 2 dX4_event_58 rfl rfl ?_
        refine j_callV X nwSQ_ok (As := [.int i]) (rest := []) he.cell rfl rfl (c_X0_timeF l D hI b0 he hi) rfl gX4_event_X0_time ⟨rfl, ddX0_time⟩ ⟨Nat.le_of_ble_eq_true rfl, Nat.le_of_ble_eq_true rfl⟩ (Nat.le_of_ble_eq_true rfl) rfl dX4_event_59 ⟨(by show 0 + 0 ≤ 0; omega), (by show 0 + 0 ≤ 0; omega)⟩ (fun r159 M160 n161 hr162 => ?_)
        obtain ⟨rfl, rfl, rfl⟩ := hr162
        refine j_st (st := [.int 0]) rfl ?_
        exact j_iret X hlk hr (by omega) (by omega) dX4_event_62 ⟨rfl, rfl, rfl⟩
      by_cases c163 : v = 1
      · skip
        refine j_tableIn X 63 dX4_event_29 (by rw [c163]; decide) (by rw [c163]; decide) (off := 34) (by rw [c163]; decide) (by decide) ?_
        refine j_aload X dX4_event_63 rfl ?_
        refine j_iload_n X 2 dX4_event_65 rfl rfl ?_
        refine j_callV X nwSQ_ok (As := [.int i]) (rest := []) he.cell rfl rfl (c_X0_keyF l D hI b0 he hi) rfl gX4_event_X0_key ⟨rfl, ddX0_key⟩ ⟨Nat.le_of_ble_eq_true rfl, Nat.le_of_ble_eq_true rfl⟩ (Nat.le_of_ble_eq_true rfl) rfl dX4_event_66 ⟨(by show 0 + 0 ≤ 0; omega), (by show 0 + 0 ≤ 0; omega)⟩ (fun r164 M165 n166 hr167 => ?_)
        obtain ⟨rfl, rfl, rfl⟩ := hr167
        refine j_st (st := [.int 0]) rfl ?_
        exact j_iret X hlk hr (by omega) (by omega) dX4_event_69 ⟨rfl, rfl, rfl⟩
      by_cases c168 : v = 2
      · skip
        refine j_tableIn X 70 dX4_event_29 (by rw [c168]; decide) (by rw [c168]; decide) (off := 41) (by rw [c168]; decide) (by decide) ?_
        refine j_aload X dX4_event_70 rfl ?_
        refine j_iload_n X 2 dX4_event_72 rfl rfl ?_
        refine j_callV X nwSQ_ok (As := [.int i]) (rest := []) he.cell rfl rfl (c_X0_valueF l D hI b0 he hi) rfl gX4_event_X0_value ⟨rfl, ddX0_value⟩ ⟨Nat.le_of_ble_eq_true rfl, Nat.le_of_ble_eq_true rfl⟩ (Nat.le_of_ble_eq_true rfl) rfl dX4_event_73 ⟨(by show 0 + 0 ≤ 0; omega), (by show 0 + 0 ≤ 0; omega)⟩ (fun r169 M170 n171 hr172 => ?_)
        obtain ⟨rfl, rfl, rfl⟩ := hr172
        refine j_st (st := [.int 0]) rfl ?_
        exact j_iret X hlk hr (by omega) (by omega) dX4_event_76 ⟨rfl, rfl, rfl⟩
      · skip
        refine j_tableOut X 77 dX4_event_29 (by have q0 := lv_neT (a := 0) c158 (by decide); have q1 := lv_neT (a := 1) c163 (by decide); have q2 := lv_neT (a := 2) c168 (by decide); omega) (by decide) ?_
        refine j_iconst X dX4_event_77 (v := 0) (by decide) ?_
        exact j_iret X hlk hr (by omega) (by omega) dX4_event_78 ⟨rfl, rfl, rfl⟩
    · skip
      exact absurd c157 (by decide)
  · skip
    exact absurd c156 (by decide)
set_option maxHeartbeats 800000 in
set_option maxRecDepth 100000 in
theorem c_X4_eventN (l : Launch) (D : va_G) {ty : jT} {cA : ClassId} (hI : ty[0]? = some (cA, .int)) (b0 : Nat) {M : jM} {n x : Nat} {w sl la sp rm ln mA mB lt pr tl tk : Int32} (hx : M x = some (sqO x w sl la sp rm ln mA mB lt pr tl tk)) {z : Int32} (hz : ¬ (0 ≤ z ∧ z ≤ 1)) (i v : Int32) : Ct l D ty vwCl nwSQ b0 yX4_event wsX4_event 2 42 0 0 [.ref x, .int z, .int i, .int v] M n (j_rd (.int 0) M n) := by
  have hx : M x = some (.inr (4, [.ref (x + 1), .ref (x + 5), .ref (x + 9), .ref (x + 11), .int w, .int sl, .int la, .int sp, .int rm, .int ln, .int mA, .int mB, .int lt, .int pr, .int tl, .int tk])) := hx
  refine j_start (cc := cX4_event) (maxL := 5) (ret := (some .int)) (by decide) rfl [some (.ref x), some (.int z), some (.int i), some (.int v), none] (Nat.le_of_ble_eq_true rfl) rfl ?_
  intro p e s m below meth c X hlk hr hnm
  refine j_iload_n X 1 dX4_event_0 rfl rfl ?_
  refine j_iconst X dX4_event_1 (v := 0) (by decide) ?_
  refine j_iconst X dX4_event_2 (v := 1) (by decide) ?_
  refine j_callS X nwSQ_ok (As := [.int z, .int 0, .int 1]) (rest := []) rfl (c_X4_isWithin l D hI b0 z 0 1) rfl gX4_event_X4_isWithin ddX4_isWithin ⟨Nat.le_of_ble_eq_true rfl, Nat.le_of_ble_eq_true rfl⟩ (Nat.le_of_ble_eq_true rfl) rfl dX4_event_3 ⟨(by show 0 + 0 ≤ 0; omega), (by show 0 + 0 ≤ 0; omega)⟩ (fun r173 M174 n175 hr176 => ?_)
  obtain ⟨rfl, rfl, rfl⟩ := hr176
  refine j_st (st := [.int (if 0 ≤ z ∧ z ≤ 1 then 1 else 0)]) rfl ?_
  refine j_if_ne X 11 dX4_event_6 (by decide) (fun c177 => ?_) (fun c177 => ?_)
  · skip
    exact absurd (zo_ne.mp c177) hz
  · skip
    refine j_iconst X dX4_event_9 (v := 0) (by decide) ?_
    exact j_iret X hlk hr (by omega) (by omega) dX4_event_10 ⟨rfl, rfl, rfl⟩
set_option maxHeartbeats 800000 in
set_option maxRecDepth 100000 in
theorem c_X4_count (l : Launch) (D : va_G) {ty : jT} {cA : ClassId} (hI : ty[0]? = some (cA, .int)) (b0 : Nat) {M : jM} {n x nb : Nat} {w sl la sp rm ln mA mB lt pr tl tk : Int32} {A B : List Ev} {cs : List Nd} {qu : List Rec} (h : SQ M x nb w sl la sp rm ln mA mB lt pr tl tk A B cs qu) (v : Int32) : Ct l D ty vwCl nwSQ b0 yX4_count wsX4_count 1 24 0 0 [.ref x, .int v] M n (j_rd (.int (cntv v (nI A.length) (nI B.length) lt mA mB (nI (wcn 2147483647 (-2147483648) cs)) pr tl tk)) M n) := by
  obtain ⟨hx, hA, hB, hG, hQ, hnd, hnb, hxn⟩ := id h
  have hx : M x = some (.inr (4, [.ref (x + 1), .ref (x + 5), .ref (x + 9), .ref (x + 11), .int w, .int sl, .int la, .int sp, .int rm, .int ln, .int mA, .int mB, .int lt, .int pr, .int tl, .int tk])) := hx
  refine j_start (cc := cX4_count) (maxL := 2) (ret := (some .int)) (by decide) rfl [some (.ref x), some (.int v)] (Nat.le_of_ble_eq_true rfl) rfl ?_
  intro p e s m below meth c X hlk hr hnm
  refine j_iload_n X 1 dX4_count_0 rfl rfl ?_
  by_cases c178 : v = 0
  · skip
    refine j_tableIn X 52 dX4_count_1 (by rw [c178]; decide) (by rw [c178]; decide) (off := 51) (by rw [c178]; decide) (by decide) ?_
    refine j_aload_n X 0 dX4_count_52 rfl rfl ?_
    refine j_get X hx rfl iwX4_count_X4 0 (by decide) lkX4_count_10 rfl dX4_count_53 ?_
    refine j_callV X nwSQ_ok (As := []) (rest := []) hA.cell rfl rfl (c_X0_size l D hI b0 hA) rfl gX4_count_X0_size ⟨rfl, ddX0_size⟩ ⟨Nat.le_of_ble_eq_true rfl, Nat.le_of_ble_eq_true rfl⟩ (Nat.le_of_ble_eq_true rfl) rfl dX4_count_56 ⟨(by show 0 + 0 ≤ 0; omega), (by show 0 + 0 ≤ 0; omega)⟩ (fun r179 M180 n181 hr182 => ?_)
    obtain ⟨rfl, rfl, rfl⟩ := hr182
    refine j_st (st := [.int (nI A.length)]) rfl ?_
    exact j_iret X hlk hr (by omega) (by omega) dX4_count_59 ⟨by unfold cntv; rw [c178]; rfl, rfl, rfl⟩
  by_cases c183 : v = 1
  · skip
    refine j_tableIn X 60 dX4_count_1 (by rw [c183]; decide) (by rw [c183]; decide) (off := 59) (by rw [c183]; decide) (by decide) ?_
    refine j_aload_n X 0 dX4_count_60 rfl rfl ?_
    refine j_get X hx rfl iwX4_count_X4 1 (by decide) lkX4_count_16 rfl dX4_count_61 ?_
    refine j_callV X nwSQ_ok (As := []) (rest := []) hB.cell rfl rfl (c_X0_size l D hI b0 hB) rfl gX4_count_X0_size ⟨rfl, ddX0_size⟩ ⟨Nat.le_of_ble_eq_true rfl, Nat.le_of_ble_eq_true rfl⟩ (Nat.le_of_ble_eq_true rfl) rfl dX4_count_64 ⟨(by show 0 + 0 ≤ 0; omega), (by show 0 + 0 ≤ 0; omega)⟩ (fun r184 M185 n186 hr187 => ?_)
    obtain ⟨rfl, rfl, rfl⟩ := hr187
    refine j_st (st := [.int (nI B.length)]) rfl ?_
    exact j_iret X hlk hr (by omega) (by omega) dX4_count_67 ⟨by unfold cntv; rw [c183]; rfl, rfl, rfl⟩
  by_cases c188 : v = 2
  · skip
    refine j_tableIn X 68 dX4_count_1 (by rw [c188]; decide) (by rw [c188]; decide) (off := 67) (by rw [c188]; decide) (by decide) ?_
    refine j_aload_n X 0 dX4_count_68 rfl rfl ?_
    refine j_get X hx rfl iwX4_count_X4 12 (by decide) lkX4_count_144 rfl dX4_count_69 ?_
    exact j_iret X hlk hr (by omega) (by omega) dX4_count_72 ⟨by unfold cntv; rw [c188]; rfl, rfl, rfl⟩
  by_cases c189 : v = 3
  · skip
    refine j_tableIn X 73 dX4_count_1 (by rw [c189]; decide) (by rw [c189]; decide) (off := 72) (by rw [c189]; decide) (by decide) ?_
    refine j_aload_n X 0 dX4_count_73 rfl rfl ?_
    refine j_get X hx rfl iwX4_count_X4 10 (by decide) lkX4_count_97 rfl dX4_count_74 ?_
    exact j_iret X hlk hr (by omega) (by omega) dX4_count_77 ⟨by unfold cntv; rw [c189]; rfl, rfl, rfl⟩
  by_cases c190 : v = 4
  · skip
    refine j_tableIn X 78 dX4_count_1 (by rw [c190]; decide) (by rw [c190]; decide) (off := 77) (by rw [c190]; decide) (by decide) ?_
    refine j_aload_n X 0 dX4_count_78 rfl rfl ?_
    refine j_get X hx rfl iwX4_count_X4 11 (by decide) lkX4_count_104 rfl dX4_count_79 ?_
    exact j_iret X hlk hr (by omega) (by omega) dX4_count_82 ⟨by unfold cntv; rw [c190]; rfl, rfl, rfl⟩
  by_cases c191 : v = 5
  · skip
    refine j_tableIn X 83 dX4_count_1 (by rw [c191]; decide) (by rw [c191]; decide) (off := 82) (by rw [c191]; decide) (by decide) ?_
    refine j_aload_n X 0 dX4_count_83 rfl rfl ?_
    refine j_get X hx rfl iwX4_count_X4 2 (by decide) lkX4_count_22 rfl dX4_count_84 ?_
    refine j_ldc X dX4_count_87 wdX4_count_c149 ?_
    refine j_callV X nwSQ_ok (As := [.int 2147483647]) (rest := []) hG.1 rfl rfl (c_X2_windowsUpTo l D hI b0 hG 2147483647) rfl gX4_count_X2_windowsUpTo ⟨rfl, ddX2_windowsUpTo⟩ ⟨Nat.le_of_ble_eq_true rfl, Nat.le_of_ble_eq_true rfl⟩ (Nat.le_of_ble_eq_true rfl) rfl dX4_count_89 ⟨(by show 0 + 0 ≤ 0; omega), (by show 0 + 0 ≤ 0; omega)⟩ (fun r192 M193 n194 hr195 => ?_)
    obtain ⟨rfl, rfl, rfl⟩ := hr195
    refine j_st (st := [.int (nI (wcn 2147483647 (-2147483648) cs))]) rfl ?_
    exact j_iret X hlk hr (by omega) (by omega) dX4_count_92 ⟨by unfold cntv; rw [c191]; rfl, rfl, rfl⟩
  by_cases c196 : v = 6
  · skip
    refine j_tableIn X 93 dX4_count_1 (by rw [c196]; decide) (by rw [c196]; decide) (off := 92) (by rw [c196]; decide) (by decide) ?_
    refine j_aload_n X 0 dX4_count_93 rfl rfl ?_
    refine j_get X hx rfl iwX4_count_X4 13 (by decide) lkX4_count_153 rfl dX4_count_94 ?_
    exact j_iret X hlk hr (by omega) (by omega) dX4_count_97 ⟨by unfold cntv; rw [c196]; rfl, rfl, rfl⟩
  by_cases c197 : v = 7
  · skip
    refine j_tableIn X 98 dX4_count_1 (by rw [c197]; decide) (by rw [c197]; decide) (off := 97) (by rw [c197]; decide) (by decide) ?_
    refine j_aload_n X 0 dX4_count_98 rfl rfl ?_
    refine j_get X hx rfl iwX4_count_X4 14 (by decide) lkX4_count_156 rfl dX4_count_99 ?_
    exact j_iret X hlk hr (by omega) (by omega) dX4_count_102 ⟨by unfold cntv; rw [c197]; rfl, rfl, rfl⟩
  by_cases c198 : v = 8
  · skip
    refine j_tableIn X 103 dX4_count_1 (by rw [c198]; decide) (by rw [c198]; decide) (off := 102) (by rw [c198]; decide) (by decide) ?_
    refine j_aload_n X 0 dX4_count_103 rfl rfl ?_
    refine j_get X hx rfl iwX4_count_X4 15 (by decide) lkX4_count_159 rfl dX4_count_104 ?_
    exact j_iret X hlk hr (by omega) (by omega) dX4_count_107 ⟨by unfold cntv; rw [c198]; rfl, rfl, rfl⟩
  · skip
    refine j_tableOut X 108 dX4_count_1 (by have q0 := lv_neT (a := 0) c178 (by decide); have q1 := lv_neT (a := 1) c183 (by decide); have q2 := lv_neT (a := 2) c188 (by decide); have q3 := lv_neT (a := 3) c189 (by decide); have q4 := lv_neT (a := 4) c190 (by decide); have q5 := lv_neT (a := 5) c191 (by decide); have q6 := lv_neT (a := 6) c196 (by decide); have q7 := lv_neT (a := 7) c197 (by decide); have q8 := lv_neT (a := 8) c198 (by decide); omega) (by decide) ?_
    refine j_bipush X dX4_count_108 (v := (-2)) (by decide) ?_
    exact j_iret X hlk hr (by omega) (by omega) dX4_count_110 ⟨by unfold cntv; rw [if_neg c178, if_neg c183, if_neg c188, if_neg c189, if_neg c190, if_neg c191, if_neg c196, if_neg c197, if_neg c198], rfl, rfl⟩
end
section
/-! The chain of groups under placing and gathering, as lists. -/
def g_nw (e k : Int32) : Grp := (e, k, 0, 0, -2147483648)
/-- a value into the group (e, k) of a list that rises -/
def ups (e k v : Int32) : List Grp → List Grp
  | [] => [gth (g_nw e k) v]
  | y :: t => if bef y e k then y :: ups e k v t else if isof y e k then gth y v :: t else gth (g_nw e k) v :: y :: t
theorem ups_bef {e k v : Int32} : ∀ {P T : List Grp}, (∀ y ∈ P, bef y e k = true) → ups e k v (P ++ T) = P ++ ups e k v T := by
  intro P
  induction P with
  | nil => intro T _; rfl
  | cons y P ih =>
    intro T h
    show (if bef y e k then y :: ups e k v (P ++ T) else _) = _
    rw [if_pos (h y List.mem_cons_self), ih (fun z hz => h z (List.mem_cons_of_mem _ hz))]
    rfl
theorem lb_split {e k : Int32} : ∀ (T : List Nd) (c : Nd), ∃ (pre : List Nd) (y : Nd) (rest : List Nd), lb e k c T = (y, rest) ∧ c :: T = pre ++ y :: rest ∧ (∀ z ∈ pre ++ [y], z = c ∨ bef z.2 e k = true) ∧ (∀ z r, rest = z :: r → bef z.2 e k = false) := by
  intro T
  induction T with
  | nil =>
    intro c
    exact ⟨[], c, [], rfl, rfl, fun z hz => Or.inl (by simpa using hz), fun z r h => by cases h⟩
  | cons y t ih =>
    intro c
    rw [lb_cons]
    by_cases hb : bef y.2 e k = true
    · rw [if_pos hb]
      obtain ⟨pre, y2, rest, h1, h2, h3, h4⟩ := ih y
      refine ⟨c :: pre, y2, rest, h1, by rw [h2]; rfl, fun z hz => ?_, h4⟩
      rcases List.mem_cons.mp hz with rfl | hz
      · exact Or.inl rfl
      · rcases h3 z hz with rfl | h
        · exact Or.inr hb
        · exact Or.inr h
    · rw [if_neg hb]
      refine ⟨[], c, y :: t, rfl, rfl, fun z hz => Or.inl (by simpa using hz), fun z r h => ?_⟩
      cases h
      simpa using hb
theorem Seg.upd {M M2 : jM} {z : Nd} {g : Grp} {nx : Option Nat} : ∀ {P R : List Nd} {r r2 : Option Nat}, Seg M r (P ++ z :: R) r2 → ((P ++ z :: R).map Prod.fst).Nodup → M z.1 = some (gnode z.2 nx) → M2 z.1 = some (gnode g nx) → (∀ q, q ≠ z.1 → M2 q = M q) → Seg M2 r (P ++ (z.1, g) :: R) r2 := by
  intro P
  induction P with
  | nil =>
    rintro R r r2 ⟨h1, n2, h2, h3⟩ hnd hz hz2 hf
    rw [hz] at h2
    have hnx : nx = n2 := by
      have h4 : gnode z.2 nx = gnode z.2 n2 := Option.some.inj h2
      unfold gnode at h4
      simp only [Sum.inr.injEq, Prod.mk.injEq, List.cons.injEq, true_and, and_true] at h4
      cases nx <;> cases n2 <;> simp [va_rf] at h4 ⊢
      exact h4
    subst hnx
    refine ⟨h1, nx, hz2, h3.frame (fun x hx => hf x.1 (fun q => ?_))⟩
    have hnd : (z.1 :: R.map Prod.fst).Nodup := hnd
    exact (List.nodup_cons.mp hnd).1 (q ▸ List.mem_map_of_mem hx)
  | cons y P ih =>
    rintro R r r2 ⟨h1, n2, h2, h3⟩ hnd hz hz2 hf
    have hnd : (y.1 :: (P ++ z :: R).map Prod.fst).Nodup := hnd
    have hne : y.1 ≠ z.1 := fun q => (List.nodup_cons.mp hnd).1 (q ▸ List.mem_map_of_mem (List.mem_append_right _ List.mem_cons_self))
    exact ⟨h1, n2, by rw [hf _ hne]; exact h2, ih h3 (List.nodup_cons.mp hnd).2 hz hz2 hf⟩
/-- a new node behind y -/
theorem Seg.ins {M M1 : jM} {n : Nat} {y : Nd} {g : Grp} : ∀ {P R : List Nd} {r : Option Nat}, Seg M r (P ++ y :: R) none → ((P ++ y :: R).map Prod.fst).Nodup → n ∉ (P ++ y :: R).map Prod.fst → M1 n = some (gnode g (R.head?.map Prod.fst)) → M1 y.1 = some (gnode y.2 (some n)) → (∀ q, q ≠ n → q ≠ y.1 → M1 q = M q) → Seg M1 r (P ++ y :: (n, g) :: R) none := by
  intro P
  induction P with
  | nil =>
    rintro R r ⟨h1, n2, h2, h3⟩ hnd hn hn1 hy1 hf
    have hnd : (y.1 :: R.map Prod.fst).Nodup := hnd
    have hn : n ∉ y.1 :: R.map Prod.fst := hn
    have hr : n2 = R.head?.map Prod.fst := by
      cases R with
      | nil => exact h3
      | cons a R => exact h3.1
    refine ⟨h1, some n, hy1, rfl, _, hn1, ?_⟩
    rw [← hr]
    refine h3.frame (fun x hx => hf x.1 (fun q => ?_) (fun q => ?_))
    · exact hn (List.mem_cons_of_mem _ (q ▸ List.mem_map_of_mem hx))
    · exact (List.nodup_cons.mp hnd).1 (q ▸ List.mem_map_of_mem hx)
  | cons a P ih =>
    rintro R r ⟨h1, n2, h2, h3⟩ hnd hn hn1 hy1 hf
    have hnd : (a.1 :: (P ++ y :: R).map Prod.fst).Nodup := hnd
    have hn : n ∉ a.1 :: (P ++ y :: R).map Prod.fst := hn
    have hne : a.1 ≠ y.1 := fun q => (List.nodup_cons.mp hnd).1 (q ▸ List.mem_map_of_mem (List.mem_append_right _ List.mem_cons_self))
    have hnn : a.1 ≠ n := fun q => hn (by rw [q]; exact List.mem_cons_self)
    exact ⟨h1, n2, by rw [hf _ hnn hne]; exact h2, ih h3 (List.nodup_cons.mp hnd).2 (fun q => hn (List.mem_cons_of_mem _ q)) hn1 hy1 hf⟩
/-- behind placeFrom: the chain with the group sought at z -/
theorem chain_place {M M1 : jM} {n n1 : Nat} {P T : List Nd} {c : Nd} {e k : Int32} {r0 : Option Nat} {r : Option Value} (hs : Seg M r0 (P ++ c :: T) none) (hnd : ((P ++ c :: T).map Prod.fst).Nodup) (hlt : ∀ z ∈ P ++ c :: T, z.1 < n) (hpl : placed M n e k (lb e k c T) r M1 n1) (hb : ∀ y ∈ P ++ [c], bef y.2 e k = true) :
    ∃ (P2 : List Nd) (z : Nd) (R : List Nd), r = some (.ref z.1) ∧ Seg M1 r0 (P2 ++ z :: R) none ∧ ((P2 ++ z :: R).map Prod.fst).Nodup ∧ (∀ w ∈ P2 ++ z :: R, w.1 < n1) ∧ n ≤ n1 ∧ n1 ≤ n + 1 ∧ (∀ w ∈ P2 ++ z :: R, w ∈ P ++ c :: T ∨ w.1 = n) ∧ (∀ q, q < n → (∀ w ∈ P ++ c :: T, w.1 ≠ q) → M1 q = M q) ∧ (∀ w ∈ P2, bef w.2 e k = true) ∧ z.2.1 = e ∧ z.2.2.1 = k ∧ (∃ h P3, P2 = h :: P3 ∧ ∃ T3, P ++ c :: T = h :: T3) ∧
      ∀ v, ups e k v ((P ++ c :: T).map Prod.snd) = P2.map Prod.snd ++ gth z.2 v :: R.map Prod.snd := by
  obtain ⟨pre, y, rest, h1, h2, h3, h4⟩ := lb_split (e := e) (k := k) T c
  rw [h1] at hpl
  have hall : ∀ w ∈ P ++ (pre ++ [y]), bef w.2 e k = true := by
    intro w hw
    rcases List.mem_append.mp hw with hw | hw
    · exact hb w (List.mem_append_left _ hw)
    · rcases h3 w hw with rfl | h
      · exact hb _ (List.mem_append_right _ List.mem_cons_self)
      · exact h
  have hwhole : P ++ c :: T = (P ++ pre) ++ y :: rest := by rw [h2, List.append_assoc]
  have hfirst : ∃ h P3, P ++ (pre ++ [y]) = h :: P3 ∧ ∃ T3, P ++ c :: T = h :: T3 := by
    cases P with
    | cons a P => exact ⟨a, P ++ (pre ++ [y]), rfl, P ++ c :: T, rfl⟩
    | nil =>
      cases pre with
      | cons a pre =>
        have : c = a := by simpa using (List.cons.inj h2).1
        exact ⟨a, pre ++ [y], rfl, T, by rw [this]; rfl⟩
      | nil =>
        have : c = y := by simpa using (List.cons.inj h2).1
        exact ⟨y, [], rfl, T, by rw [this]; rfl⟩
  have hups : ∀ v, ups e k v ((P ++ c :: T).map Prod.snd) = (P ++ (pre ++ [y])).map Prod.snd ++ ups e k v (rest.map Prod.snd) := by
    intro v
    have : (P ++ c :: T).map Prod.snd = (P ++ (pre ++ [y])).map Prod.snd ++ rest.map Prod.snd := by rw [hwhole]; simp
    rw [this]
    exact ups_bef (fun g hg => by
      obtain ⟨w, hw, rfl⟩ := List.mem_map.mp hg
      exact hall w hw)
  rcases hpl with ⟨z, t, hz, hof, hr, rfl, rfl⟩ | ⟨hno, hr, rfl, hn1, hy1, hf⟩
  · have hz : rest = z :: t := hz
    subst hz
    have hL : P ++ c :: T = (P ++ (pre ++ [y])) ++ z :: t := by rw [hwhole]; simp
    have hzz : z.2.1 = e ∧ z.2.2.1 = k := by simpa [isof] using hof
    refine ⟨P ++ (pre ++ [y]), z, t, hr, by rw [← hL]; exact hs, by rw [← hL]; exact hnd, by rw [← hL]; exact hlt, Nat.le_refl _, Nat.le_succ _, by rw [← hL]; exact fun w hw => Or.inl hw, fun _ _ _ => rfl, hall, hzz.1, hzz.2, hfirst, fun v => ?_⟩
    rw [hups v]
    show _ ++ (if bef z.2 e k then _ else if isof z.2 e k then _ else _) = _
    rw [if_neg (by rw [h4 z t rfl]; decide), if_pos hof]
  · have hy1 : M1 y.1 = some (gnode y.2 (some n)) := hy1
    have hn1 : M1 n = some (gnode (g_nw e k) (rest.head?.map Prod.fst)) := hn1
    have hf : ∀ q, q ≠ n → q ≠ y.1 → M1 q = M q := hf
    have hnin : n ∉ ((P ++ pre) ++ y :: rest).map Prod.fst := by
      intro h
      obtain ⟨w, hw, hwn⟩ := List.mem_map.mp h
      have := hlt w (by rw [hwhole]; exact hw)
      omega
    have hs1 : Seg M1 r0 ((P ++ pre) ++ y :: (n, g_nw e k) :: rest) none := Seg.ins (by rw [← hwhole]; exact hs) (by rw [← hwhole]; exact hnd) hnin hn1 hy1 hf
    have hL : (P ++ pre) ++ y :: (n, g_nw e k) :: rest = (P ++ (pre ++ [y])) ++ (n, g_nw e k) :: rest := by simp
    have hmem : ∀ w ∈ (P ++ (pre ++ [y])) ++ (n, g_nw e k) :: rest, w ∈ P ++ c :: T ∨ w.1 = n := by
      intro w hw
      rw [hwhole]
      simp only [List.mem_append, List.mem_cons, List.mem_singleton] at hw ⊢
      rcases hw with (h | h | h | h) | h | h
      · exact Or.inl (Or.inl (Or.inl h))
      · exact Or.inl (Or.inl (Or.inr h))
      · exact Or.inl (Or.inr (Or.inl h))
      · cases h
      · exact Or.inr (by rw [h])
      · exact Or.inl (Or.inr (Or.inr h))
    refine ⟨P ++ (pre ++ [y]), (n, g_nw e k), rest, hr, by rw [← hL]; exact hs1, ?_, ?_, Nat.le_succ n, Nat.le_refl _, hmem, fun q hq hne => hf q (by omega) (fun h => hne y (by rw [hwhole]; simp) h.symm), hall, rfl, rfl, hfirst, fun v => ?_⟩
    · have hp : ((P ++ (pre ++ [y])) ++ (n, g_nw e k) :: rest).map Prod.fst = (P ++ pre ++ [y]).map Prod.fst ++ n :: rest.map Prod.fst := by simp
      rw [hp, List.perm_middle.nodup_iff, List.nodup_cons]
      have hq : (P ++ pre ++ [y]).map Prod.fst ++ rest.map Prod.fst = ((P ++ pre) ++ y :: rest).map Prod.fst := by simp
      rw [hq]
      exact ⟨hnin, by rw [← hwhole]; exact hnd⟩
    · intro w hw
      rcases hmem w hw with h | h
      · have := hlt w h
        omega
      · omega
    · rw [hups v]
      cases rest with
      | nil => rfl
      | cons z t =>
        show _ ++ (if bef z.2 e k then _ else if isof z.2 e k then _ else _) = _
        rw [if_neg (by rw [h4 z t rfl]; decide), if_neg (by rw [hno z t rfl]; decide)]
        rfl
end
section
/-! Numbers: Int32 as integers, while they stay small. -/
theorem i_add {a b : Int32} (h1 : -2147483648 ≤ a.toInt + b.toInt) (h2 : a.toInt + b.toInt < 2147483648) : (a + b).toInt = a.toInt + b.toInt := by
  rw [Int32.toInt_add]
  exact Int.bmod_eq_of_le (by omega) (by omega)
theorem i_sub {a b : Int32} (h1 : -2147483648 ≤ a.toInt - b.toInt) (h2 : a.toInt - b.toInt < 2147483648) : (a - b).toInt = a.toInt - b.toInt := by
  rw [Int32.toInt_sub]
  exact Int.bmod_eq_of_le (by omega) (by omega)
theorem i_mul {a b : Int32} (h1 : -2147483648 ≤ a.toInt * b.toInt) (h2 : a.toInt * b.toInt < 2147483648) : (a * b).toInt = a.toInt * b.toInt := by
  rw [Int32.toInt_mul]
  exact Int.bmod_eq_of_le (by omega) (by omega)
theorem i_le {a b : Int32} : a ≤ b ↔ a.toInt ≤ b.toInt := Int32.le_iff_toInt_le
theorem i_lt {a b : Int32} : a < b ↔ a.toInt < b.toInt := Int32.lt_iff_toInt_lt
theorem i_eq {a b : Int32} : a = b ↔ a.toInt = b.toInt := ⟨fun h => by rw [h], fun h => Int32.toInt_inj.mp h⟩
theorem i_rng (a : Int32) : -2147483648 ≤ a.toInt ∧ a.toInt < 2147483648 := by
  have h1 := Int32.le_toInt a
  have h2 := Int32.toInt_lt a
  omega
theorem i_xor {a b : Int32} (hb : 0 < b.toInt) : 0 ≤ a ^^^ b ↔ 0 ≤ a.toInt := by
  rw [Int32.le_iff_toInt_le, Int32.toInt_zero]
  have h1 : (a ^^^ b).toBitVec.msb = decide ((a ^^^ b).toBitVec.toInt < 0) := BitVec.msb_eq_toInt
  have h2 : a.toBitVec.msb = decide (a.toBitVec.toInt < 0) := BitVec.msb_eq_toInt
  have h3 : b.toBitVec.msb = decide (b.toBitVec.toInt < 0) := BitVec.msb_eq_toInt
  have e1 : (a ^^^ b).toBitVec.toInt = (a ^^^ b).toInt := rfl
  have e2 : a.toBitVec.toInt = a.toInt := rfl
  have e3 : b.toBitVec.toInt = b.toInt := rfl
  rw [e1, Int32.toBitVec_xor, BitVec.msb_xor, h2, h3, e2, e3] at h1
  have h4 : decide (b.toInt < 0) = false := by simpa using by omega
  rw [h4, Bool.xor_false] at h1
  have h5 : (a.toInt < 0) ↔ ((a ^^^ b).toInt < 0) := by
    constructor
    · intro h
      rw [decide_eq_true h] at h1
      exact of_decide_eq_true h1.symm
    · intro h
      rw [decide_eq_true h] at h1
      exact of_decide_eq_true h1
  omega
theorem i_div {a b : Int32} (hb : 0 < b.toInt) : (a / b).toInt = a.toInt.tdiv b.toInt := by
  rw [Int32.toInt_div]
  have h := i_rng a
  have h1 : (a.toInt.tdiv b.toInt).natAbs ≤ a.toInt.natAbs := by
    rw [Int.natAbs_tdiv]
    exact Nat.div_le_self _ _
  have h3 : 0 ≤ a.toInt → 0 ≤ a.toInt.tdiv b.toInt := fun h => Int.tdiv_nonneg h (by omega)
  refine Int.bmod_eq_of_le ?_ ?_
  · omega
  · by_cases h0 : 0 ≤ a.toInt
    · omega
    · have : a.toInt.tdiv b.toInt ≤ 0 := by
        have := Int.tdiv_nonneg (show 0 ≤ -a.toInt by omega) (show 0 ≤ b.toInt by omega)
        rw [Int.neg_tdiv] at this
        omega
      omega
/-- floorDiv is division rounded down, by a divisor above 0 -/
theorem fd_int {a b : Int32} (hb : 0 < b.toInt) : (fd a b).toInt = a.toInt / b.toInt := by
  have hd := i_div (a := a) hb
  have hra := i_rng a
  have hrb := i_rng b
  unfold fd
  by_cases h0 : 0 ≤ a.toInt
  · rw [if_pos ((i_xor hb).mpr h0), hd, Int.tdiv_eq_ediv_of_nonneg h0]
  · rw [if_neg (fun h => h0 ((i_xor hb).mp h))]
    have ht := Int.tdiv_eq_ediv (a := a.toInt) (b := b.toInt)
    have hs : b.toInt.sign = 1 := Int.sign_eq_one_of_pos hb
    rw [hs] at ht
    have hem := Int.mul_ediv_add_emod a.toInt b.toInt
    have hm1 := Int.emod_nonneg a.toInt (show b.toInt ≠ 0 by omega)
    have hm2 := Int.emod_lt_of_pos a.toInt hb
    have hdv : a.toInt / b.toInt ≤ -1 := by
      have := Int.ediv_neg_of_neg_of_pos (show a.toInt < 0 by omega) hb
      omega
    by_cases hdvd : b.toInt ∣ a.toInt
    · have hmod : a.toInt % b.toInt = 0 := Int.emod_eq_zero_of_dvd hdvd
      have hq : a.toInt.tdiv b.toInt = a.toInt / b.toInt := by
        rw [ht, if_pos (Or.inr hdvd)]
        omega
      have hmul : (a / b * b).toInt = a.toInt := by
        have hpr : a.toInt / b.toInt * b.toInt = a.toInt := by rw [Int.mul_comm]; omega
        rw [i_mul (by rw [hd, hq, hpr]; omega) (by rw [hd, hq, hpr]; omega), hd, hq, hpr]
      rw [if_pos (i_eq.mpr hmul), hd, hq]
    · have hmod : a.toInt % b.toInt ≠ 0 := fun h => hdvd (Int.dvd_of_emod_eq_zero h)
      have hq : a.toInt.tdiv b.toInt = a.toInt / b.toInt + 1 := by
        rw [ht, if_neg (fun h => h.elim h0 hdvd)]
      have hqr : -2147483648 ≤ a.toInt / b.toInt := by
        have h1 : (a.toInt / b.toInt) * b.toInt ≤ (a.toInt / b.toInt) * 1 := Int.mul_le_mul_of_nonpos_left (by omega) (by omega)
        have h2 := i_rng (a / b)
        rw [hd, hq] at h2
        have h3 : a.toInt ≤ a.toInt / b.toInt := by
          have := Int.le_ediv_of_mul_le (a := a.toInt) (b := a.toInt) (c := b.toInt) hb (by
            have : a.toInt * b.toInt ≤ a.toInt * 1 := Int.mul_le_mul_of_nonpos_left (by omega) (by omega)
            omega)
          exact this
        omega
      have hne : ¬ a / b * b = a := by
        intro h
        have h1 := i_eq.mp h
        have hpr : (a.toInt / b.toInt + 1) * b.toInt = a.toInt - a.toInt % b.toInt + b.toInt := by rw [Int.add_mul, Int.mul_comm, Int.one_mul]; omega
        rw [i_mul (by rw [hd, hq, hpr]; omega) (by rw [hd, hq, hpr]; omega), hd, hq, hpr] at h1
        omega
      rw [if_neg hne, i_sub (by rw [hd, hq]; show _ ≤ _ - (1 : Int); omega) (by rw [hd, hq]; show _ - (1 : Int) < _; omega), hd, hq]
      show _ - (1 : Int) = _
      omega
end
section
/-! The ends of an event's windows, as the class's loop goes over them. -/
def endsF (t w sl : Int32) : Nat → Int32 → List Int32
  | 0, _ => []
  | n + 1, b => if b ≤ t then (b + w) :: endsF t w sl n (b + sl) else []
theorem endsF_T {t w sl b : Int32} {n : Nat} (h : b ≤ t) : endsF t w sl (n + 1) b = (b + w) :: endsF t w sl n (b + sl) := by
  show (if b ≤ t then _ else _) = _
  rw [if_pos h]
theorem endsF_F {t w sl b : Int32} {n : Nat} (h : ¬ b ≤ t) : endsF t w sl n b = [] := by
  cases n with
  | zero => rfl
  | succ n =>
    show (if b ≤ t then _ else _) = _
    rw [if_neg h]
theorem bef_mono {g : Grp} {e f k : Int32} (h : bef g e k = true) (hef : e < f) : bef g f k = true := by
  unfold bef at h ⊢
  simp only [Bool.or_eq_true, Bool.and_eq_true, decide_eq_true_eq] at h ⊢
  rcases h with h | ⟨h, -⟩
  · exact Or.inl (Int32.lt_trans h hef)
  · exact Or.inl (h ▸ hef)
theorem bef_lt {g : Grp} {f k : Int32} (h : g.1 < f) : bef g f k = true := by
  unfold bef
  simp [h]
section JM2
variable {p : Program} {l : Launch} {e : Env} {R : Room} {s : State} {m : MethodId} {args : Array Value} {below : List Frame} {meth : Method} {c : Code} {D : va_G} {ty : jT} {cl : List vw_C} {nw : List Cond} {b0 : Nat} {Q : State → Prop} {nL : Nat} {M : jM} {n cells slots pc : Nat} {L : List (Option Value)} {st : List Value}
/-- all cells of the memory lie below n -/
theorem j_ltA (k : (∀ (a : Nat) (x : jE), M a = some x → b0 ≤ a ∧ a < n) → J p l e R s m args below meth c D ty cl b0 Q nL M n cells slots pc L st) : J p l e R s m args below meth c D ty cl b0 Q nL M n cells slots pc L st := fun H locs ls hH hS hL => k (fun _ _ h => hH.lt h) H locs ls hH hS hL
end JM2
/-- what a step of the class's loop asks of the numbers -/
def okB (w sl b : Int32) : Prop := 1 ≤ w.toInt ∧ w.toInt ≤ 1000000 ∧ 1 ≤ sl.toInt ∧ sl.toInt ≤ 1000000 ∧ -1002000000 ≤ b.toInt
theorem okB.step {t w sl b : Int32} (h : okB w sl b) (ht : t.toInt ≤ 1000000000) (hb : b ≤ t) : okB w sl (b + sl) ∧ b + w < b + sl + w := by
  obtain ⟨h1, h2, h3, h4, h5⟩ := h
  have hb := i_le.mp hb
  have e1 : (b + w).toInt = b.toInt + w.toInt := i_add (by omega) (by omega)
  have e2 : (b + sl).toInt = b.toInt + sl.toInt := i_add (by omega) (by omega)
  have e3 : (b + sl + w).toInt = b.toInt + sl.toInt + w.toInt := by rw [i_add (by omega) (by omega), e2]
  exact ⟨⟨h1, h2, h3, h4, by omega⟩, i_lt.mpr (by omega)⟩
theorem okB.hd {t w sl b k : Int32} (h : okB w sl b) (ht : t.toInt ≤ 1000000000) (hb : b ≤ t) : bef g_hd (b + w) k = true := by
  obtain ⟨h1, h2, h3, h4, h5⟩ := h
  have hb := i_le.mp hb
  have e1 : (b + w).toInt = b.toInt + w.toInt := i_add (by omega) (by omega)
  exact bef_lt (i_lt.mpr (by rw [e1]; show (-2147483648 : Int) < _; omega))
end
section
set_option maxRecDepth 20000 in
theorem iwX4_startAgain_X4 : ∀ w ∈ u_ws RX4 TX4 16, w ∈ wsX4_startAgain := by decide +kernel
set_option maxRecDepth 20000 in
theorem lkX4_startAgain_10 : Cond.fieldLink RX4 10 (TX4 0).1 (TX4 0).2.1 (TX4 0).2.2.1 ∈ wsX4_startAgain := by decide +kernel
set_option maxRecDepth 20000 in
theorem ddX0_clear : yX0_clear.cls ≠ "java/lang/invoke/MethodHandle" ∧ yX0_clear.cls ≠ "java/lang/invoke/VarHandle" ∧ (parseMethodDescriptor yX0_clear.desc).map (fun d => d.parameters.length) = some 0 := by decide +kernel
set_option maxRecDepth 20000 in
theorem lkX4_startAgain_16 : Cond.fieldLink RX4 16 (TX4 1).1 (TX4 1).2.1 (TX4 1).2.2.1 ∈ wsX4_startAgain := by decide +kernel
set_option maxRecDepth 20000 in
theorem lkX4_startAgain_22 : Cond.fieldLink RX4 22 (TX4 2).1 (TX4 2).2.1 (TX4 2).2.2.1 ∈ wsX4_startAgain := by decide +kernel
set_option maxRecDepth 20000 in
theorem ddX2_clear : yX2_clear.cls ≠ "java/lang/invoke/MethodHandle" ∧ yX2_clear.cls ≠ "java/lang/invoke/VarHandle" ∧ (parseMethodDescriptor yX2_clear.desc).map (fun d => d.parameters.length) = some 0 := by decide +kernel
set_option maxRecDepth 20000 in
theorem lkX4_startAgain_29 : Cond.fieldLink RX4 29 (TX4 3).1 (TX4 3).2.1 (TX4 3).2.2.1 ∈ wsX4_startAgain := by decide +kernel
set_option maxRecDepth 20000 in
theorem ddX3_clear : yX3_clear.cls ≠ "java/lang/invoke/MethodHandle" ∧ yX3_clear.cls ≠ "java/lang/invoke/VarHandle" ∧ (parseMethodDescriptor yX3_clear.desc).map (fun d => d.parameters.length) = some 0 := by decide +kernel
set_option maxRecDepth 20000 in
theorem wdX4_startAgain_c167 : Cond.constant RX4 167 (-2000000000) ∈ wsX4_startAgain := by decide +kernel
set_option maxRecDepth 20000 in
theorem lkX4_startAgain_97 : Cond.fieldLink RX4 97 (TX4 10).1 (TX4 10).2.1 (TX4 10).2.2.1 ∈ wsX4_startAgain := by decide +kernel
set_option maxRecDepth 20000 in
theorem lkX4_startAgain_104 : Cond.fieldLink RX4 104 (TX4 11).1 (TX4 11).2.1 (TX4 11).2.2.1 ∈ wsX4_startAgain := by decide +kernel
set_option maxRecDepth 20000 in
theorem lkX4_startAgain_144 : Cond.fieldLink RX4 144 (TX4 12).1 (TX4 12).2.1 (TX4 12).2.2.1 ∈ wsX4_startAgain := by decide +kernel
set_option maxRecDepth 20000 in
theorem lkX4_startAgain_153 : Cond.fieldLink RX4 153 (TX4 13).1 (TX4 13).2.1 (TX4 13).2.2.1 ∈ wsX4_startAgain := by decide +kernel
set_option maxRecDepth 20000 in
theorem lkX4_startAgain_156 : Cond.fieldLink RX4 156 (TX4 14).1 (TX4 14).2.1 (TX4 14).2.2.1 ∈ wsX4_startAgain := by decide +kernel
set_option maxRecDepth 20000 in
theorem lkX4_startAgain_159 : Cond.fieldLink RX4 159 (TX4 15).1 (TX4 15).2.1 (TX4 15).2.2.1 ∈ wsX4_startAgain := by decide +kernel
set_option maxRecDepth 20000 in
theorem ddX4_areWindows : yX4_areWindows.cls ≠ "java/lang/invoke/MethodHandle" ∧ yX4_areWindows.cls ≠ "java/lang/invoke/VarHandle" ∧ (parseMethodDescriptor yX4_areWindows.desc).map (fun d => d.parameters.length) = some 2 := by decide +kernel
set_option maxRecDepth 20000 in
theorem wdX4_set_c59 : Cond.constant RX4 59 (1000000) ∈ wsX4_set := by decide +kernel
set_option maxRecDepth 20000 in
theorem iwX4_set_X4 : ∀ w ∈ u_ws RX4 TX4 16, w ∈ wsX4_set := by decide +kernel
set_option maxRecDepth 20000 in
theorem lkX4_set_33 : Cond.fieldLink RX4 33 (TX4 4).1 (TX4 4).2.1 (TX4 4).2.2.1 ∈ wsX4_set := by decide +kernel
set_option maxRecDepth 20000 in
theorem lkX4_set_37 : Cond.fieldLink RX4 37 (TX4 5).1 (TX4 5).2.1 (TX4 5).2.2.1 ∈ wsX4_set := by decide +kernel
set_option maxRecDepth 20000 in
theorem lkX4_set_40 : Cond.fieldLink RX4 40 (TX4 6).1 (TX4 6).2.1 (TX4 6).2.2.1 ∈ wsX4_set := by decide +kernel
set_option maxRecDepth 20000 in
theorem lkX4_set_43 : Cond.fieldLink RX4 43 (TX4 7).1 (TX4 7).2.1 (TX4 7).2.2.1 ∈ wsX4_set := by decide +kernel
set_option maxRecDepth 20000 in
theorem lkX4_set_46 : Cond.fieldLink RX4 46 (TX4 8).1 (TX4 8).2.1 (TX4 8).2.2.1 ∈ wsX4_set := by decide +kernel
set_option maxRecDepth 20000 in
theorem lkX4_set_49 : Cond.fieldLink RX4 49 (TX4 9).1 (TX4 9).2.1 (TX4 9).2.2.1 ∈ wsX4_set := by decide +kernel
set_option maxRecDepth 20000 in
theorem ddX4_startAgain : yX4_startAgain.cls ≠ "java/lang/invoke/MethodHandle" ∧ yX4_startAgain.cls ≠ "java/lang/invoke/VarHandle" ∧ (parseMethodDescriptor yX4_startAgain.desc).map (fun d => d.parameters.length) = some 0 := by decide +kernel
set_option maxRecDepth 20000 in
theorem ddX4_mark : yX4_mark.cls ≠ "java/lang/invoke/MethodHandle" ∧ yX4_mark.cls ≠ "java/lang/invoke/VarHandle" ∧ (parseMethodDescriptor yX4_mark.desc).map (fun d => d.parameters.length) = some 0 := by decide +kernel
set_option maxRecDepth 20000 in
theorem iwX4_admit_X4 : ∀ w ∈ u_ws RX4 TX4 16, w ∈ wsX4_admit := by decide +kernel
set_option maxRecDepth 20000 in
theorem lkX4_admit_40 : Cond.fieldLink RX4 40 (TX4 6).1 (TX4 6).2.1 (TX4 6).2.2.1 ∈ wsX4_admit := by decide +kernel
set_option maxRecDepth 20000 in
theorem lkX4_admit_144 : Cond.fieldLink RX4 144 (TX4 12).1 (TX4 12).2.1 (TX4 12).2.2.1 ∈ wsX4_admit := by decide +kernel
set_option maxRecDepth 20000 in
theorem lkX4_admit_10 : Cond.fieldLink RX4 10 (TX4 0).1 (TX4 0).2.1 (TX4 0).2.2.1 ∈ wsX4_admit := by decide +kernel
set_option maxRecDepth 20000 in
theorem lkX4_admit_16 : Cond.fieldLink RX4 16 (TX4 1).1 (TX4 1).2.1 (TX4 1).2.2.1 ∈ wsX4_admit := by decide +kernel
set_option maxRecDepth 20000 in
theorem lkX4_admit_46 : Cond.fieldLink RX4 46 (TX4 8).1 (TX4 8).2.1 (TX4 8).2.2.1 ∈ wsX4_admit := by decide +kernel
set_option maxRecDepth 20000 in
theorem lkX4_admit_43 : Cond.fieldLink RX4 43 (TX4 7).1 (TX4 7).2.1 (TX4 7).2.2.1 ∈ wsX4_admit := by decide +kernel
set_option maxRecDepth 20000 in
theorem ddX0_manyNear : yX0_manyNear.cls ≠ "java/lang/invoke/MethodHandle" ∧ yX0_manyNear.cls ≠ "java/lang/invoke/VarHandle" ∧ (parseMethodDescriptor yX0_manyNear.desc).map (fun d => d.parameters.length) = some 3 := by decide +kernel
set_option maxRecDepth 20000 in
theorem lkX4_admit_29 : Cond.fieldLink RX4 29 (TX4 3).1 (TX4 3).2.1 (TX4 3).2.2.1 ∈ wsX4_admit := by decide +kernel
set_option maxRecDepth 20000 in
theorem lkX4_admit_49 : Cond.fieldLink RX4 49 (TX4 9).1 (TX4 9).2.1 (TX4 9).2.2.1 ∈ wsX4_admit := by decide +kernel
end
section
set_option maxHeartbeats 800000 in
set_option maxRecDepth 100000 in
theorem c_X4_startAgain (l : Launch) (D : va_G) {ty : jT} {cA : ClassId} (hI : ty[0]? = some (cA, .int)) (b0 : Nat) {M : jM} {n x nb : Nat} {w sl la sp rm ln mA mB lt pr tl tk : Int32} {A B : List Ev} {cs : List Nd} {qu : List Rec} (h : SQ M x nb w sl la sp rm ln mA mB lt pr tl tk A B cs qu) : Ct l D ty vwCl nwSQ b0 yX4_startAgain wsX4_startAgain 1 20 0 0 [.ref x] M n (fun r M' n' => r = none ∧ n = n' ∧ SQ M' x nb w sl la sp rm ln (-2000000000) (-2000000000) 0 0 0 0 ([]) ([]) ([]) ([]) ∧ ∀ q, (q < x ∨ x + 12 < q ∧ q < nb) → M' q = M q) := by
  obtain ⟨hx, hA, hB, hG, hQ, hnd, hnb, hxn⟩ := id h
  have hx : M x = some (.inr (4, [.ref (x + 1), .ref (x + 5), .ref (x + 9), .ref (x + 11), .int w, .int sl, .int la, .int sp, .int rm, .int ln, .int mA, .int mB, .int lt, .int pr, .int tl, .int tk])) := hx
  refine j_start (cc := cX4_startAgain) (maxL := 1) (ret := none) (by decide) rfl [some (.ref x)] (Nat.le_of_ble_eq_true rfl) rfl ?_
  intro p e s m below meth c X hlk hr hnm
  refine j_aload_n X 0 dX4_startAgain_0 rfl rfl ?_
  refine j_get X hx rfl iwX4_startAgain_X4 0 (by decide) lkX4_startAgain_10 rfl dX4_startAgain_1 ?_
  refine j_callV X nwSQ_ok (As := []) (rest := []) hA.cell rfl rfl (c_X0_clear l D hI b0 hA) rfl gX4_startAgain_X0_clear ⟨rfl, ddX0_clear⟩ ⟨Nat.le_of_ble_eq_true rfl, Nat.le_of_ble_eq_true rfl⟩ (Nat.le_of_ble_eq_true rfl) rfl dX4_startAgain_4 ⟨(by show 0 + 0 ≤ 0; omega), (by show 0 + 0 ≤ 0; omega)⟩ (fun r1 M2 n3 hr4 => ?_)
  obtain ⟨rfl, rfl, hp5, hf6⟩ := hr4
  refine j_st (st := []) rfl ?_
  have hp7 : EvAt M2 (x + 5) B := hB.frame (fun q h1 h2 => hf6 q (by omega))
  have hp8 : LnAt M2 (x + 11) qu := hQ.frame (fun q h1 h2 => hf6 q (by omega))
  have hp9 : GrAt M2 (x + 9) cs := hG.frame (fun q hq => hf6 q (by rcases hq with rfl | rfl | ⟨z, hz, rfl⟩ <;> first | omega | (have := hnb z hz; omega)))
  have h10 : M2 x = some (.inr (4, [.ref (x + 1), .ref (x + 5), .ref (x + 9), .ref (x + 11), .int w, .int sl, .int la, .int sp, .int rm, .int ln, .int mA, .int mB, .int lt, .int pr, .int tl, .int tk])) := by rw [hf6 x (by omega)]; exact hx
  refine j_aload_n X 0 dX4_startAgain_7 rfl rfl ?_
  refine j_get X h10 rfl iwX4_startAgain_X4 1 (by decide) lkX4_startAgain_16 rfl dX4_startAgain_8 ?_
  refine j_callV X nwSQ_ok (As := []) (rest := []) hp7.cell rfl rfl (c_X0_clear l D hI b0 hp7) rfl gX4_startAgain_X0_clear ⟨rfl, ddX0_clear⟩ ⟨Nat.le_of_ble_eq_true rfl, Nat.le_of_ble_eq_true rfl⟩ (Nat.le_of_ble_eq_true rfl) rfl dX4_startAgain_11 ⟨(by show 0 + 0 ≤ 0; omega), (by show 0 + 0 ≤ 0; omega)⟩ (fun r11 M12 n13 hr14 => ?_)
  obtain ⟨rfl, rfl, hp15, hf16⟩ := hr14
  refine j_st (st := []) rfl ?_
  have hp17 : EvAt M12 (x + 1) ([]) := hp5.frame (fun q h1 h2 => hf16 q (by omega))
  have hp18 : LnAt M12 (x + 11) qu := hp8.frame (fun q h1 h2 => hf16 q (by omega))
  have hp19 : GrAt M12 (x + 9) cs := hp9.frame (fun q hq => hf16 q (by rcases hq with rfl | rfl | ⟨z, hz, rfl⟩ <;> first | omega | (have := hnb z hz; omega)))
  have h20 : M12 x = some (.inr (4, [.ref (x + 1), .ref (x + 5), .ref (x + 9), .ref (x + 11), .int w, .int sl, .int la, .int sp, .int rm, .int ln, .int mA, .int mB, .int lt, .int pr, .int tl, .int tk])) := by rw [hf16 x (by omega)]; exact h10
  refine j_aload_n X 0 dX4_startAgain_14 rfl rfl ?_
  refine j_get X h20 rfl iwX4_startAgain_X4 2 (by decide) lkX4_startAgain_22 rfl dX4_startAgain_15 ?_
  refine j_callV X nwSQ_ok (As := []) (rest := []) hp19.1 rfl rfl (c_X2_clear l D hI b0 hp19) rfl gX4_startAgain_X2_clear ⟨rfl, ddX2_clear⟩ ⟨Nat.le_of_ble_eq_true rfl, Nat.le_of_ble_eq_true rfl⟩ (Nat.le_of_ble_eq_true rfl) rfl dX4_startAgain_18 ⟨(by show 0 + 0 ≤ 0; omega), (by show 0 + 0 ≤ 0; omega)⟩ (fun r21 M22 n23 hr24 => ?_)
  obtain ⟨rfl, rfl, hp25, hf26⟩ := hr24
  refine j_st (st := []) rfl ?_
  have hp27 : EvAt M22 (x + 1) ([]) := hp17.frame (fun q h1 h2 => hf26 q (by omega))
  have hp28 : EvAt M22 (x + 5) ([]) := hp15.frame (fun q h1 h2 => hf26 q (by omega))
  have hp29 : LnAt M22 (x + 11) qu := hp18.frame (fun q h1 h2 => hf26 q (by omega))
  have h30 : M22 x = some (.inr (4, [.ref (x + 1), .ref (x + 5), .ref (x + 9), .ref (x + 11), .int w, .int sl, .int la, .int sp, .int rm, .int ln, .int mA, .int mB, .int lt, .int pr, .int tl, .int tk])) := by rw [hf26 x (by omega)]; exact h20
  have hnbE : ∀ z ∈ ([] : List Nd), nb ≤ z.1 := fun z hz => by cases hz
  refine j_aload_n X 0 dX4_startAgain_21 rfl rfl ?_
  refine j_get X h30 rfl iwX4_startAgain_X4 3 (by decide) lkX4_startAgain_29 rfl dX4_startAgain_22 ?_
  obtain ⟨fi, hqc⟩ := hp29.cell
  refine j_callV X nwSQ_ok (As := []) (rest := []) hqc rfl rfl (c_X3_clear l D hI b0 hp29) rfl gX4_startAgain_X3_clear ⟨rfl, ddX3_clear⟩ ⟨Nat.le_of_ble_eq_true rfl, Nat.le_of_ble_eq_true rfl⟩ (Nat.le_of_ble_eq_true rfl) rfl dX4_startAgain_25 ⟨(by show 0 + 0 ≤ 0; omega), (by show 0 + 0 ≤ 0; omega)⟩ (fun r31 M32 n33 hr34 => ?_)
  obtain ⟨rfl, rfl, hp35, hf36⟩ := hr34
  refine j_st (st := []) rfl ?_
  have hp37 : EvAt M32 (x + 1) ([]) := hp27.frame (fun q h1 h2 => hf36 q (by omega))
  have hp38 : EvAt M32 (x + 5) ([]) := hp28.frame (fun q h1 h2 => hf36 q (by omega))
  have hp39 : GrAt M32 (x + 9) ([]) := hp25.frame (fun q hq => hf36 q (by rcases hq with rfl | rfl | ⟨z, hz, rfl⟩ <;> first | omega | (have := hnbE z hz; omega)))
  have h40 : M32 x = some (.inr (4, [.ref (x + 1), .ref (x + 5), .ref (x + 9), .ref (x + 11), .int w, .int sl, .int la, .int sp, .int rm, .int ln, .int mA, .int mB, .int lt, .int pr, .int tl, .int tk])) := by rw [hf36 x (by omega)]; exact h30
  refine j_aload_n X 0 dX4_startAgain_28 rfl rfl ?_
  refine j_ldc X dX4_startAgain_29 wdX4_startAgain_c167 ?_
  refine j_put X h40 rfl iwX4_startAgain_X4 tyX4 tyX4_ok nmX4 10 (by decide) lkX4_startAgain_97 rfl rfl rfl (Nat.le_of_ble_eq_true rfl) (fs' := [.ref (x + 1), .ref (x + 5), .ref (x + 9), .ref (x + 11), .int w, .int sl, .int la, .int sp, .int rm, .int ln, .int (-2000000000), .int mB, .int lt, .int pr, .int tl, .int tk]) rfl dX4_startAgain_31 ?_
  generalize eM41 : j_up M32 x (.inr (4, [.ref (x + 1), .ref (x + 5), .ref (x + 9), .ref (x + 11), .int w, .int sl, .int la, .int sp, .int rm, .int ln, .int (-2000000000), .int mB, .int lt, .int pr, .int tl, .int tk])) = M41
  have h43 : M41 x = some (.inr (4, [.ref (x + 1), .ref (x + 5), .ref (x + 9), .ref (x + 11), .int w, .int sl, .int la, .int sp, .int rm, .int ln, .int (-2000000000), .int mB, .int lt, .int pr, .int tl, .int tk])) := by rw [← eM41]; exact j_up_self _ _ _
  have hp44 : EvAt M41 (x + 1) ([]) := hp37.frame (fun q h1 h2 => by rw [← eM41]; exact j_up_ne _ _ (by omega))
  have hp45 : EvAt M41 (x + 5) ([]) := hp38.frame (fun q h1 h2 => by rw [← eM41]; exact j_up_ne _ _ (by omega))
  have hp46 : LnAt M41 (x + 11) ([]) := hp35.frame (fun q h1 h2 => by rw [← eM41]; exact j_up_ne _ _ (by omega))
  have hp47 : GrAt M41 (x + 9) ([]) := hp39.frame (fun q hq => by rw [← eM41]; exact j_up_ne _ _ (by rcases hq with rfl | rfl | ⟨z, hz, rfl⟩ <;> first | omega | (have := hnbE z hz; omega)))
  refine j_aload_n X 0 dX4_startAgain_34 rfl rfl ?_
  refine j_ldc X dX4_startAgain_35 wdX4_startAgain_c167 ?_
  refine j_put X h43 rfl iwX4_startAgain_X4 tyX4 tyX4_ok nmX4 11 (by decide) lkX4_startAgain_104 rfl rfl rfl (Nat.le_of_ble_eq_true rfl) (fs' := [.ref (x + 1), .ref (x + 5), .ref (x + 9), .ref (x + 11), .int w, .int sl, .int la, .int sp, .int rm, .int ln, .int (-2000000000), .int (-2000000000), .int lt, .int pr, .int tl, .int tk]) rfl dX4_startAgain_37 ?_
  generalize eM48 : j_up M41 x (.inr (4, [.ref (x + 1), .ref (x + 5), .ref (x + 9), .ref (x + 11), .int w, .int sl, .int la, .int sp, .int rm, .int ln, .int (-2000000000), .int (-2000000000), .int lt, .int pr, .int tl, .int tk])) = M48
  have h50 : M48 x = some (.inr (4, [.ref (x + 1), .ref (x + 5), .ref (x + 9), .ref (x + 11), .int w, .int sl, .int la, .int sp, .int rm, .int ln, .int (-2000000000), .int (-2000000000), .int lt, .int pr, .int tl, .int tk])) := by rw [← eM48]; exact j_up_self _ _ _
  have hp51 : EvAt M48 (x + 1) ([]) := hp44.frame (fun q h1 h2 => by rw [← eM48]; exact j_up_ne _ _ (by omega))
  have hp52 : EvAt M48 (x + 5) ([]) := hp45.frame (fun q h1 h2 => by rw [← eM48]; exact j_up_ne _ _ (by omega))
  have hp53 : LnAt M48 (x + 11) ([]) := hp46.frame (fun q h1 h2 => by rw [← eM48]; exact j_up_ne _ _ (by omega))
  have hp54 : GrAt M48 (x + 9) ([]) := hp47.frame (fun q hq => by rw [← eM48]; exact j_up_ne _ _ (by rcases hq with rfl | rfl | ⟨z, hz, rfl⟩ <;> first | omega | (have := hnbE z hz; omega)))
  refine j_aload_n X 0 dX4_startAgain_40 rfl rfl ?_
  refine j_iconst X dX4_startAgain_41 (v := 0) (by decide) ?_
  refine j_put X h50 rfl iwX4_startAgain_X4 tyX4 tyX4_ok nmX4 12 (by decide) lkX4_startAgain_144 rfl rfl rfl (Nat.le_of_ble_eq_true rfl) (fs' := [.ref (x + 1), .ref (x + 5), .ref (x + 9), .ref (x + 11), .int w, .int sl, .int la, .int sp, .int rm, .int ln, .int (-2000000000), .int (-2000000000), .int 0, .int pr, .int tl, .int tk]) rfl dX4_startAgain_42 ?_
  generalize eM55 : j_up M48 x (.inr (4, [.ref (x + 1), .ref (x + 5), .ref (x + 9), .ref (x + 11), .int w, .int sl, .int la, .int sp, .int rm, .int ln, .int (-2000000000), .int (-2000000000), .int 0, .int pr, .int tl, .int tk])) = M55
  have h57 : M55 x = some (.inr (4, [.ref (x + 1), .ref (x + 5), .ref (x + 9), .ref (x + 11), .int w, .int sl, .int la, .int sp, .int rm, .int ln, .int (-2000000000), .int (-2000000000), .int 0, .int pr, .int tl, .int tk])) := by rw [← eM55]; exact j_up_self _ _ _
  have hp58 : EvAt M55 (x + 1) ([]) := hp51.frame (fun q h1 h2 => by rw [← eM55]; exact j_up_ne _ _ (by omega))
  have hp59 : EvAt M55 (x + 5) ([]) := hp52.frame (fun q h1 h2 => by rw [← eM55]; exact j_up_ne _ _ (by omega))
  have hp60 : LnAt M55 (x + 11) ([]) := hp53.frame (fun q h1 h2 => by rw [← eM55]; exact j_up_ne _ _ (by omega))
  have hp61 : GrAt M55 (x + 9) ([]) := hp54.frame (fun q hq => by rw [← eM55]; exact j_up_ne _ _ (by rcases hq with rfl | rfl | ⟨z, hz, rfl⟩ <;> first | omega | (have := hnbE z hz; omega)))
  refine j_aload_n X 0 dX4_startAgain_45 rfl rfl ?_
  refine j_iconst X dX4_startAgain_46 (v := 0) (by decide) ?_
  refine j_put X h57 rfl iwX4_startAgain_X4 tyX4 tyX4_ok nmX4 13 (by decide) lkX4_startAgain_153 rfl rfl rfl (Nat.le_of_ble_eq_true rfl) (fs' := [.ref (x + 1), .ref (x + 5), .ref (x + 9), .ref (x + 11), .int w, .int sl, .int la, .int sp, .int rm, .int ln, .int (-2000000000), .int (-2000000000), .int 0, .int 0, .int tl, .int tk]) rfl dX4_startAgain_47 ?_
  generalize eM62 : j_up M55 x (.inr (4, [.ref (x + 1), .ref (x + 5), .ref (x + 9), .ref (x + 11), .int w, .int sl, .int la, .int sp, .int rm, .int ln, .int (-2000000000), .int (-2000000000), .int 0, .int 0, .int tl, .int tk])) = M62
  have h64 : M62 x = some (.inr (4, [.ref (x + 1), .ref (x + 5), .ref (x + 9), .ref (x + 11), .int w, .int sl, .int la, .int sp, .int rm, .int ln, .int (-2000000000), .int (-2000000000), .int 0, .int 0, .int tl, .int tk])) := by rw [← eM62]; exact j_up_self _ _ _
  have hp65 : EvAt M62 (x + 1) ([]) := hp58.frame (fun q h1 h2 => by rw [← eM62]; exact j_up_ne _ _ (by omega))
  have hp66 : EvAt M62 (x + 5) ([]) := hp59.frame (fun q h1 h2 => by rw [← eM62]; exact j_up_ne _ _ (by omega))
  have hp67 : LnAt M62 (x + 11) ([]) := hp60.frame (fun q h1 h2 => by rw [← eM62]; exact j_up_ne _ _ (by omega))
  have hp68 : GrAt M62 (x + 9) ([]) := hp61.frame (fun q hq => by rw [← eM62]; exact j_up_ne _ _ (by rcases hq with rfl | rfl | ⟨z, hz, rfl⟩ <;> first | omega | (have := hnbE z hz; omega)))
  refine j_aload_n X 0 dX4_startAgain_50 rfl rfl ?_
  refine j_iconst X dX4_startAgain_51 (v := 0) (by decide) ?_
  refine j_put X h64 rfl iwX4_startAgain_X4 tyX4 tyX4_ok nmX4 14 (by decide) lkX4_startAgain_156 rfl rfl rfl (Nat.le_of_ble_eq_true rfl) (fs' := [.ref (x + 1), .ref (x + 5), .ref (x + 9), .ref (x + 11), .int w, .int sl, .int la, .int sp, .int rm, .int ln, .int (-2000000000), .int (-2000000000), .int 0, .int 0, .int 0, .int tk]) rfl dX4_startAgain_52 ?_
  generalize eM69 : j_up M62 x (.inr (4, [.ref (x + 1), .ref (x + 5), .ref (x + 9), .ref (x + 11), .int w, .int sl, .int la, .int sp, .int rm, .int ln, .int (-2000000000), .int (-2000000000), .int 0, .int 0, .int 0, .int tk])) = M69
  have h71 : M69 x = some (.inr (4, [.ref (x + 1), .ref (x + 5), .ref (x + 9), .ref (x + 11), .int w, .int sl, .int la, .int sp, .int rm, .int ln, .int (-2000000000), .int (-2000000000), .int 0, .int 0, .int 0, .int tk])) := by rw [← eM69]; exact j_up_self _ _ _
  have hp72 : EvAt M69 (x + 1) ([]) := hp65.frame (fun q h1 h2 => by rw [← eM69]; exact j_up_ne _ _ (by omega))
  have hp73 : EvAt M69 (x + 5) ([]) := hp66.frame (fun q h1 h2 => by rw [← eM69]; exact j_up_ne _ _ (by omega))
  have hp74 : LnAt M69 (x + 11) ([]) := hp67.frame (fun q h1 h2 => by rw [← eM69]; exact j_up_ne _ _ (by omega))
  have hp75 : GrAt M69 (x + 9) ([]) := hp68.frame (fun q hq => by rw [← eM69]; exact j_up_ne _ _ (by rcases hq with rfl | rfl | ⟨z, hz, rfl⟩ <;> first | omega | (have := hnbE z hz; omega)))
  refine j_aload_n X 0 dX4_startAgain_55 rfl rfl ?_
  refine j_iconst X dX4_startAgain_56 (v := 0) (by decide) ?_
  refine j_put X h71 rfl iwX4_startAgain_X4 tyX4 tyX4_ok nmX4 15 (by decide) lkX4_startAgain_159 rfl rfl rfl (Nat.le_of_ble_eq_true rfl) (fs' := [.ref (x + 1), .ref (x + 5), .ref (x + 9), .ref (x + 11), .int w, .int sl, .int la, .int sp, .int rm, .int ln, .int (-2000000000), .int (-2000000000), .int 0, .int 0, .int 0, .int 0]) rfl dX4_startAgain_57 ?_
  generalize eM76 : j_up M69 x (.inr (4, [.ref (x + 1), .ref (x + 5), .ref (x + 9), .ref (x + 11), .int w, .int sl, .int la, .int sp, .int rm, .int ln, .int (-2000000000), .int (-2000000000), .int 0, .int 0, .int 0, .int 0])) = M76
  have h78 : M76 x = some (.inr (4, [.ref (x + 1), .ref (x + 5), .ref (x + 9), .ref (x + 11), .int w, .int sl, .int la, .int sp, .int rm, .int ln, .int (-2000000000), .int (-2000000000), .int 0, .int 0, .int 0, .int 0])) := by rw [← eM76]; exact j_up_self _ _ _
  have hp79 : EvAt M76 (x + 1) ([]) := hp72.frame (fun q h1 h2 => by rw [← eM76]; exact j_up_ne _ _ (by omega))
  have hp80 : EvAt M76 (x + 5) ([]) := hp73.frame (fun q h1 h2 => by rw [← eM76]; exact j_up_ne _ _ (by omega))
  have hp81 : LnAt M76 (x + 11) ([]) := hp74.frame (fun q h1 h2 => by rw [← eM76]; exact j_up_ne _ _ (by omega))
  have hp82 : GrAt M76 (x + 9) ([]) := hp75.frame (fun q hq => by rw [← eM76]; exact j_up_ne _ _ (by rcases hq with rfl | rfl | ⟨z, hz, rfl⟩ <;> first | omega | (have := hnbE z hz; omega)))
  exact j_vret X hlk hr (by omega) (by omega) dX4_startAgain_60 ⟨rfl, rfl, ⟨h78, hp79, hp80, hp82, hp81, List.nodup_nil, hnbE, hxn⟩, fun q hq => by rw [← eM76, j_up_ne _ _ (by omega), ← eM69, j_up_ne _ _ (by omega), ← eM62, j_up_ne _ _ (by omega), ← eM55, j_up_ne _ _ (by omega), ← eM48, j_up_ne _ _ (by omega), ← eM41, j_up_ne _ _ (by omega), hf36 _ (by omega), hf26 _ (by omega), hf16 _ (by omega), hf6 _ (by omega)]⟩
set_option maxHeartbeats 800000 in
set_option maxRecDepth 100000 in
theorem c_X4_setN (l : Launch) (D : va_G) {ty : jT} {cA : ClassId} (hI : ty[0]? = some (cA, .int)) (b0 : Nat) {M : jM} {n x nb : Nat} {w sl la sp rm ln mA mB lt pr tl tk : Int32} {A B : List Ev} {cs : List Nd} {qu : List Rec} (h : SQ M x nb w sl la sp rm ln mA mB lt pr tl tk A B cs qu) (a0 a1 a2 a3 a4 a5 : Int32) (hno : ¬ okS a0 a1 a2 a3 a4 a5) : Ct l D ty vwCl nwSQ b0 yX4_set wsX4_set 2 43 0 0 [.ref x, .int a0, .int a1, .int a2, .int a3, .int a4, .int a5] M n (j_rd (.int (-2)) M n) := by
  obtain ⟨hx, hA, hB, hG, hQ, hnd, hnb, hxn⟩ := id h
  have hx : M x = some (.inr (4, [.ref (x + 1), .ref (x + 5), .ref (x + 9), .ref (x + 11), .int w, .int sl, .int la, .int sp, .int rm, .int ln, .int mA, .int mB, .int lt, .int pr, .int tl, .int tk])) := hx
  refine j_start (cc := cX4_set) (maxL := 7) (ret := (some .int)) (by decide) rfl [some (.ref x), some (.int a0), some (.int a1), some (.int a2), some (.int a3), some (.int a4), some (.int a5)] (Nat.le_of_ble_eq_true rfl) rfl ?_
  intro p e s m below meth c X hlk hr hnm
  refine j_iload_n X 1 dX4_set_0 rfl rfl ?_
  refine j_iload_n X 2 dX4_set_1 rfl rfl ?_
  refine j_callS X nwSQ_ok (As := [.int a0, .int a1]) (rest := []) rfl (c_X4_areWindows l D hI b0 a0 a1) rfl gX4_set_X4_areWindows ddX4_areWindows ⟨Nat.le_of_ble_eq_true rfl, Nat.le_of_ble_eq_true rfl⟩ (Nat.le_of_ble_eq_true rfl) rfl dX4_set_2 ⟨(by show 0 + 0 ≤ 0; omega), (by show 0 + 0 ≤ 0; omega)⟩ (fun r83 M84 n85 hr86 => ?_)
  obtain ⟨rfl, rfl, rfl⟩ := hr86
  refine j_st (st := [.int (if (1 ≤ a0 ∧ a0 ≤ 1000000) ∧ (1 ≤ a1 ∧ a1 ≤ a0) ∧ a0 ≤ 16 * a1 then 1 else 0)]) rfl ?_
  refine j_if_eq X 53 dX4_set_5 (by decide) (fun c87 => ?_) (fun c87 => ?_)
  · skip
    refine j_bipush X dX4_set_53 (v := (-2)) (by decide) ?_
    exact j_iret X hlk hr (by omega) (by omega) dX4_set_55 ⟨rfl, rfl, rfl⟩
  · skip
    refine j_iload_n X 3 dX4_set_8 rfl rfl ?_
    refine j_iconst X dX4_set_9 (v := 0) (by decide) ?_
    refine j_ldc X dX4_set_10 wdX4_set_c59 ?_
    refine j_callS X nwSQ_ok (As := [.int a2, .int 0, .int 1000000]) (rest := []) rfl (c_X4_isWithin l D hI b0 a2 0 1000000) rfl gX4_set_X4_isWithin ddX4_isWithin ⟨Nat.le_of_ble_eq_true rfl, Nat.le_of_ble_eq_true rfl⟩ (Nat.le_of_ble_eq_true rfl) rfl dX4_set_12 ⟨(by show 0 + 0 ≤ 0; omega), (by show 0 + 0 ≤ 0; omega)⟩ (fun r88 M89 n90 hr91 => ?_)
    obtain ⟨rfl, rfl, rfl⟩ := hr91
    refine j_st (st := [.int (if 0 ≤ a2 ∧ a2 ≤ 1000000 then 1 else 0)]) rfl ?_
    refine j_if_eq X 53 dX4_set_15 (by decide) (fun c92 => ?_) (fun c92 => ?_)
    · skip
      refine j_bipush X dX4_set_53 (v := (-2)) (by decide) ?_
      exact j_iret X hlk hr (by omega) (by omega) dX4_set_55 ⟨rfl, rfl, rfl⟩
    · skip
      refine j_iload X dX4_set_18 rfl ?_
      refine j_iconst X dX4_set_20 (v := 0) (by decide) ?_
      refine j_ldc X dX4_set_21 wdX4_set_c59 ?_
      refine j_callS X nwSQ_ok (As := [.int a3, .int 0, .int 1000000]) (rest := []) rfl (c_X4_isWithin l D hI b0 a3 0 1000000) rfl gX4_set_X4_isWithin ddX4_isWithin ⟨Nat.le_of_ble_eq_true rfl, Nat.le_of_ble_eq_true rfl⟩ (Nat.le_of_ble_eq_true rfl) rfl dX4_set_23 ⟨(by show 0 + 0 ≤ 0; omega), (by show 0 + 0 ≤ 0; omega)⟩ (fun r93 M94 n95 hr96 => ?_)
      obtain ⟨rfl, rfl, rfl⟩ := hr96
      refine j_st (st := [.int (if 0 ≤ a3 ∧ a3 ≤ 1000000 then 1 else 0)]) rfl ?_
      refine j_if_eq X 53 dX4_set_26 (by decide) (fun c97 => ?_) (fun c97 => ?_)
      · skip
        refine j_bipush X dX4_set_53 (v := (-2)) (by decide) ?_
        exact j_iret X hlk hr (by omega) (by omega) dX4_set_55 ⟨rfl, rfl, rfl⟩
      · skip
        refine j_iload X dX4_set_29 rfl ?_
        refine j_iconst X dX4_set_31 (v := 1) (by decide) ?_
        refine j_sipush X dX4_set_32 (v := 200) (by decide) ?_
        refine j_callS X nwSQ_ok (As := [.int a4, .int 1, .int 200]) (rest := []) rfl (c_X4_isWithin l D hI b0 a4 1 200) rfl gX4_set_X4_isWithin ddX4_isWithin ⟨Nat.le_of_ble_eq_true rfl, Nat.le_of_ble_eq_true rfl⟩ (Nat.le_of_ble_eq_true rfl) rfl dX4_set_35 ⟨(by show 0 + 0 ≤ 0; omega), (by show 0 + 0 ≤ 0; omega)⟩ (fun r98 M99 n100 hr101 => ?_)
        obtain ⟨rfl, rfl, rfl⟩ := hr101
        refine j_st (st := [.int (if 1 ≤ a4 ∧ a4 ≤ 200 then 1 else 0)]) rfl ?_
        refine j_if_eq X 53 dX4_set_38 (by decide) (fun c102 => ?_) (fun c102 => ?_)
        · skip
          refine j_bipush X dX4_set_53 (v := (-2)) (by decide) ?_
          exact j_iret X hlk hr (by omega) (by omega) dX4_set_55 ⟨rfl, rfl, rfl⟩
        · skip
          refine j_iload X dX4_set_41 rfl ?_
          refine j_iconst X dX4_set_43 (v := 1) (by decide) ?_
          refine j_sipush X dX4_set_44 (v := 400) (by decide) ?_
          refine j_callS X nwSQ_ok (As := [.int a5, .int 1, .int 400]) (rest := []) rfl (c_X4_isWithin l D hI b0 a5 1 400) rfl gX4_set_X4_isWithin ddX4_isWithin ⟨Nat.le_of_ble_eq_true rfl, Nat.le_of_ble_eq_true rfl⟩ (Nat.le_of_ble_eq_true rfl) rfl dX4_set_47 ⟨(by show 0 + 0 ≤ 0; omega), (by show 0 + 0 ≤ 0; omega)⟩ (fun r103 M104 n105 hr106 => ?_)
          obtain ⟨rfl, rfl, rfl⟩ := hr106
          refine j_st (st := [.int (if 1 ≤ a5 ∧ a5 ≤ 400 then 1 else 0)]) rfl ?_
          refine j_if_ne X 56 dX4_set_50 (by decide) (fun c107 => ?_) (fun c107 => ?_)
          · skip
            exact absurd ⟨(zo_ne (q := (1 ≤ a0 ∧ a0 ≤ 1000000) ∧ (1 ≤ a1 ∧ a1 ≤ a0) ∧ a0 ≤ 16 * a1)).mp c87, zo_ne.mp c92, zo_ne.mp c97, zo_ne.mp c102, zo_ne.mp c107⟩ hno
          · skip
            refine j_bipush X dX4_set_53 (v := (-2)) (by decide) ?_
            exact j_iret X hlk hr (by omega) (by omega) dX4_set_55 ⟨rfl, rfl, rfl⟩
set_option maxHeartbeats 800000 in
set_option maxRecDepth 100000 in
theorem c_X4_setY (l : Launch) (D : va_G) {ty : jT} {cA : ClassId} (hI : ty[0]? = some (cA, .int)) (b0 : Nat) {M : jM} {n x nb : Nat} {w sl la sp rm ln mA mB lt pr tl tk : Int32} {A B : List Ev} {cs : List Nd} {qu : List Rec} (h : SQ M x nb w sl la sp rm ln mA mB lt pr tl tk A B cs qu) (a0 a1 a2 a3 a4 a5 : Int32) (hok : okS a0 a1 a2 a3 a4 a5) : Ct l D ty vwCl nwSQ b0 yX4_set wsX4_set 2 43 0 0 [.ref x, .int a0, .int a1, .int a2, .int a3, .int a4, .int a5] M n (fun r M' n' => r = some (.int 0) ∧ n = n' ∧ SQ M' x nb a0 a1 a2 a3 a4 a5 (-2000000000) (-2000000000) 0 0 0 0 ([]) ([]) ([]) ([]) ∧ ∀ q, (q < x ∨ x + 12 < q ∧ q < nb) → M' q = M q) := by
  obtain ⟨hx, hA, hB, hG, hQ, hnd, hnb, hxn⟩ := id h
  have hx : M x = some (.inr (4, [.ref (x + 1), .ref (x + 5), .ref (x + 9), .ref (x + 11), .int w, .int sl, .int la, .int sp, .int rm, .int ln, .int mA, .int mB, .int lt, .int pr, .int tl, .int tk])) := hx
  refine j_start (cc := cX4_set) (maxL := 7) (ret := (some .int)) (by decide) rfl [some (.ref x), some (.int a0), some (.int a1), some (.int a2), some (.int a3), some (.int a4), some (.int a5)] (Nat.le_of_ble_eq_true rfl) rfl ?_
  intro p e s m below meth c X hlk hr hnm
  refine j_iload_n X 1 dX4_set_0 rfl rfl ?_
  refine j_iload_n X 2 dX4_set_1 rfl rfl ?_
  refine j_callS X nwSQ_ok (As := [.int a0, .int a1]) (rest := []) rfl (c_X4_areWindows l D hI b0 a0 a1) rfl gX4_set_X4_areWindows ddX4_areWindows ⟨Nat.le_of_ble_eq_true rfl, Nat.le_of_ble_eq_true rfl⟩ (Nat.le_of_ble_eq_true rfl) rfl dX4_set_2 ⟨(by show 0 + 0 ≤ 0; omega), (by show 0 + 0 ≤ 0; omega)⟩ (fun r108 M109 n110 hr111 => ?_)
  obtain ⟨rfl, rfl, rfl⟩ := hr111
  refine j_st (st := [.int (if (1 ≤ a0 ∧ a0 ≤ 1000000) ∧ (1 ≤ a1 ∧ a1 ≤ a0) ∧ a0 ≤ 16 * a1 then 1 else 0)]) rfl ?_
  refine j_if_eq X 53 dX4_set_5 (by decide) (fun c112 => ?_) (fun c112 => ?_)
  · skip
    exact absurd (show (1 ≤ a0 ∧ a0 ≤ 1000000) ∧ (1 ≤ a1 ∧ a1 ≤ a0) ∧ a0 ≤ 16 * a1 from hok.1) (zo_eq.mp c112)
  · skip
    refine j_iload_n X 3 dX4_set_8 rfl rfl ?_
    refine j_iconst X dX4_set_9 (v := 0) (by decide) ?_
    refine j_ldc X dX4_set_10 wdX4_set_c59 ?_
    refine j_callS X nwSQ_ok (As := [.int a2, .int 0, .int 1000000]) (rest := []) rfl (c_X4_isWithin l D hI b0 a2 0 1000000) rfl gX4_set_X4_isWithin ddX4_isWithin ⟨Nat.le_of_ble_eq_true rfl, Nat.le_of_ble_eq_true rfl⟩ (Nat.le_of_ble_eq_true rfl) rfl dX4_set_12 ⟨(by show 0 + 0 ≤ 0; omega), (by show 0 + 0 ≤ 0; omega)⟩ (fun r113 M114 n115 hr116 => ?_)
    obtain ⟨rfl, rfl, rfl⟩ := hr116
    refine j_st (st := [.int (if 0 ≤ a2 ∧ a2 ≤ 1000000 then 1 else 0)]) rfl ?_
    refine j_if_eq X 53 dX4_set_15 (by decide) (fun c117 => ?_) (fun c117 => ?_)
    · skip
      exact absurd hok.2.1 (zo_eq.mp c117)
    · skip
      refine j_iload X dX4_set_18 rfl ?_
      refine j_iconst X dX4_set_20 (v := 0) (by decide) ?_
      refine j_ldc X dX4_set_21 wdX4_set_c59 ?_
      refine j_callS X nwSQ_ok (As := [.int a3, .int 0, .int 1000000]) (rest := []) rfl (c_X4_isWithin l D hI b0 a3 0 1000000) rfl gX4_set_X4_isWithin ddX4_isWithin ⟨Nat.le_of_ble_eq_true rfl, Nat.le_of_ble_eq_true rfl⟩ (Nat.le_of_ble_eq_true rfl) rfl dX4_set_23 ⟨(by show 0 + 0 ≤ 0; omega), (by show 0 + 0 ≤ 0; omega)⟩ (fun r118 M119 n120 hr121 => ?_)
      obtain ⟨rfl, rfl, rfl⟩ := hr121
      refine j_st (st := [.int (if 0 ≤ a3 ∧ a3 ≤ 1000000 then 1 else 0)]) rfl ?_
      refine j_if_eq X 53 dX4_set_26 (by decide) (fun c122 => ?_) (fun c122 => ?_)
      · skip
        exact absurd hok.2.2.1 (zo_eq.mp c122)
      · skip
        refine j_iload X dX4_set_29 rfl ?_
        refine j_iconst X dX4_set_31 (v := 1) (by decide) ?_
        refine j_sipush X dX4_set_32 (v := 200) (by decide) ?_
        refine j_callS X nwSQ_ok (As := [.int a4, .int 1, .int 200]) (rest := []) rfl (c_X4_isWithin l D hI b0 a4 1 200) rfl gX4_set_X4_isWithin ddX4_isWithin ⟨Nat.le_of_ble_eq_true rfl, Nat.le_of_ble_eq_true rfl⟩ (Nat.le_of_ble_eq_true rfl) rfl dX4_set_35 ⟨(by show 0 + 0 ≤ 0; omega), (by show 0 + 0 ≤ 0; omega)⟩ (fun r123 M124 n125 hr126 => ?_)
        obtain ⟨rfl, rfl, rfl⟩ := hr126
        refine j_st (st := [.int (if 1 ≤ a4 ∧ a4 ≤ 200 then 1 else 0)]) rfl ?_
        refine j_if_eq X 53 dX4_set_38 (by decide) (fun c127 => ?_) (fun c127 => ?_)
        · skip
          exact absurd hok.2.2.2.1 (zo_eq.mp c127)
        · skip
          refine j_iload X dX4_set_41 rfl ?_
          refine j_iconst X dX4_set_43 (v := 1) (by decide) ?_
          refine j_sipush X dX4_set_44 (v := 400) (by decide) ?_
          refine j_callS X nwSQ_ok (As := [.int a5, .int 1, .int 400]) (rest := []) rfl (c_X4_isWithin l D hI b0 a5 1 400) rfl gX4_set_X4_isWithin ddX4_isWithin ⟨Nat.le_of_ble_eq_true rfl, Nat.le_of_ble_eq_true rfl⟩ (Nat.le_of_ble_eq_true rfl) rfl dX4_set_47 ⟨(by show 0 + 0 ≤ 0; omega), (by show 0 + 0 ≤ 0; omega)⟩ (fun r128 M129 n130 hr131 => ?_)
          obtain ⟨rfl, rfl, rfl⟩ := hr131
          refine j_st (st := [.int (if 1 ≤ a5 ∧ a5 ≤ 400 then 1 else 0)]) rfl ?_
          refine j_if_ne X 56 dX4_set_50 (by decide) (fun c132 => ?_) (fun c132 => ?_)
          · skip
            refine j_aload_n X 0 dX4_set_56 rfl rfl ?_
            refine j_iload_n X 1 dX4_set_57 rfl rfl ?_
            refine j_put X hx rfl iwX4_set_X4 tyX4 tyX4_ok nmX4 4 (by decide) lkX4_set_33 rfl rfl rfl (Nat.le_of_ble_eq_true rfl) (fs' := [.ref (x + 1), .ref (x + 5), .ref (x + 9), .ref (x + 11), .int a0, .int sl, .int la, .int sp, .int rm, .int ln, .int mA, .int mB, .int lt, .int pr, .int tl, .int tk]) rfl dX4_set_58 ?_
            generalize eM133 : j_up M x (.inr (4, [.ref (x + 1), .ref (x + 5), .ref (x + 9), .ref (x + 11), .int a0, .int sl, .int la, .int sp, .int rm, .int ln, .int mA, .int mB, .int lt, .int pr, .int tl, .int tk])) = M133
            have h135 : M133 x = some (.inr (4, [.ref (x + 1), .ref (x + 5), .ref (x + 9), .ref (x + 11), .int a0, .int sl, .int la, .int sp, .int rm, .int ln, .int mA, .int mB, .int lt, .int pr, .int tl, .int tk])) := by rw [← eM133]; exact j_up_self _ _ _
            have hp136 : EvAt M133 (x + 1) A := hA.frame (fun q h1 h2 => by rw [← eM133]; exact j_up_ne _ _ (by omega))
            have hp137 : EvAt M133 (x + 5) B := hB.frame (fun q h1 h2 => by rw [← eM133]; exact j_up_ne _ _ (by omega))
            have hp138 : LnAt M133 (x + 11) qu := hQ.frame (fun q h1 h2 => by rw [← eM133]; exact j_up_ne _ _ (by omega))
            have hp139 : GrAt M133 (x + 9) cs := hG.frame (fun q hq => by rw [← eM133]; exact j_up_ne _ _ (by rcases hq with rfl | rfl | ⟨z, hz, rfl⟩ <;> first | omega | (have := hnb z hz; omega)))
            refine j_aload_n X 0 dX4_set_61 rfl rfl ?_
            refine j_iload_n X 2 dX4_set_62 rfl rfl ?_
            refine j_put X h135 rfl iwX4_set_X4 tyX4 tyX4_ok nmX4 5 (by decide) lkX4_set_37 rfl rfl rfl (Nat.le_of_ble_eq_true rfl) (fs' := [.ref (x + 1), .ref (x + 5), .ref (x + 9), .ref (x + 11), .int a0, .int a1, .int la, .int sp, .int rm, .int ln, .int mA, .int mB, .int lt, .int pr, .int tl, .int tk]) rfl dX4_set_63 ?_
            generalize eM140 : j_up M133 x (.inr (4, [.ref (x + 1), .ref (x + 5), .ref (x + 9), .ref (x + 11), .int a0, .int a1, .int la, .int sp, .int rm, .int ln, .int mA, .int mB, .int lt, .int pr, .int tl, .int tk])) = M140
            have h142 : M140 x = some (.inr (4, [.ref (x + 1), .ref (x + 5), .ref (x + 9), .ref (x + 11), .int a0, .int a1, .int la, .int sp, .int rm, .int ln, .int mA, .int mB, .int lt, .int pr, .int tl, .int tk])) := by rw [← eM140]; exact j_up_self _ _ _
            have hp143 : EvAt M140 (x + 1) A := hp136.frame (fun q h1 h2 => by rw [← eM140]; exact j_up_ne _ _ (by omega))
            have hp144 : EvAt M140 (x + 5) B := hp137.frame (fun q h1 h2 => by rw [← eM140]; exact j_up_ne _ _ (by omega))
            have hp145 : LnAt M140 (x + 11) qu := hp138.frame (fun q h1 h2 => by rw [← eM140]; exact j_up_ne _ _ (by omega))
            have hp146 : GrAt M140 (x + 9) cs := hp139.frame (fun q hq => by rw [← eM140]; exact j_up_ne _ _ (by rcases hq with rfl | rfl | ⟨z, hz, rfl⟩ <;> first | omega | (have := hnb z hz; omega)))
            refine j_aload_n X 0 dX4_set_66 rfl rfl ?_
            refine j_iload_n X 3 dX4_set_67 rfl rfl ?_
            refine j_put X h142 rfl iwX4_set_X4 tyX4 tyX4_ok nmX4 6 (by decide) lkX4_set_40 rfl rfl rfl (Nat.le_of_ble_eq_true rfl) (fs' := [.ref (x + 1), .ref (x + 5), .ref (x + 9), .ref (x + 11), .int a0, .int a1, .int a2, .int sp, .int rm, .int ln, .int mA, .int mB, .int lt, .int pr, .int tl, .int tk]) rfl dX4_set_68 ?_
            generalize eM147 : j_up M140 x (.inr (4, [.ref (x + 1), .ref (x + 5), .ref (x + 9), .ref (x + 11), .int a0, .int a1, .int a2, .int sp, .int rm, .int ln, .int mA, .int mB, .int lt, .int pr, .int tl, .int tk])) = M147
            have h149 : M147 x = some (.inr (4, [.ref (x + 1), .ref (x + 5), .ref (x + 9), .ref (x + 11), .int a0, .int a1, .int a2, .int sp, .int rm, .int ln, .int mA, .int mB, .int lt, .int pr, .int tl, .int tk])) := by rw [← eM147]; exact j_up_self _ _ _
            have hp150 : EvAt M147 (x + 1) A := hp143.frame (fun q h1 h2 => by rw [← eM147]; exact j_up_ne _ _ (by omega))
            have hp151 : EvAt M147 (x + 5) B := hp144.frame (fun q h1 h2 => by rw [← eM147]; exact j_up_ne _ _ (by omega))
            have hp152 : LnAt M147 (x + 11) qu := hp145.frame (fun q h1 h2 => by rw [← eM147]; exact j_up_ne _ _ (by omega))
            have hp153 : GrAt M147 (x + 9) cs := hp146.frame (fun q hq => by rw [← eM147]; exact j_up_ne _ _ (by rcases hq with rfl | rfl | ⟨z, hz, rfl⟩ <;> first | omega | (have := hnb z hz; omega)))
            refine j_aload_n X 0 dX4_set_71 rfl rfl ?_
            refine j_iload X dX4_set_72 rfl ?_
            refine j_put X h149 rfl iwX4_set_X4 tyX4 tyX4_ok nmX4 7 (by decide) lkX4_set_43 rfl rfl rfl (Nat.le_of_ble_eq_true rfl) (fs' := [.ref (x + 1), .ref (x + 5), .ref (x + 9), .ref (x + 11), .int a0, .int a1, .int a2, .int a3, .int rm, .int ln, .int mA, .int mB, .int lt, .int pr, .int tl, .int tk]) rfl dX4_set_74 ?_
            generalize eM154 : j_up M147 x (.inr (4, [.ref (x + 1), .ref (x + 5), .ref (x + 9), .ref (x + 11), .int a0, .int a1, .int a2, .int a3, .int rm, .int ln, .int mA, .int mB, .int lt, .int pr, .int tl, .int tk])) = M154
            have h156 : M154 x = some (.inr (4, [.ref (x + 1), .ref (x + 5), .ref (x + 9), .ref (x + 11), .int a0, .int a1, .int a2, .int a3, .int rm, .int ln, .int mA, .int mB, .int lt, .int pr, .int tl, .int tk])) := by rw [← eM154]; exact j_up_self _ _ _
            have hp157 : EvAt M154 (x + 1) A := hp150.frame (fun q h1 h2 => by rw [← eM154]; exact j_up_ne _ _ (by omega))
            have hp158 : EvAt M154 (x + 5) B := hp151.frame (fun q h1 h2 => by rw [← eM154]; exact j_up_ne _ _ (by omega))
            have hp159 : LnAt M154 (x + 11) qu := hp152.frame (fun q h1 h2 => by rw [← eM154]; exact j_up_ne _ _ (by omega))
            have hp160 : GrAt M154 (x + 9) cs := hp153.frame (fun q hq => by rw [← eM154]; exact j_up_ne _ _ (by rcases hq with rfl | rfl | ⟨z, hz, rfl⟩ <;> first | omega | (have := hnb z hz; omega)))
            refine j_aload_n X 0 dX4_set_77 rfl rfl ?_
            refine j_iload X dX4_set_78 rfl ?_
            refine j_put X h156 rfl iwX4_set_X4 tyX4 tyX4_ok nmX4 8 (by decide) lkX4_set_46 rfl rfl rfl (Nat.le_of_ble_eq_true rfl) (fs' := [.ref (x + 1), .ref (x + 5), .ref (x + 9), .ref (x + 11), .int a0, .int a1, .int a2, .int a3, .int a4, .int ln, .int mA, .int mB, .int lt, .int pr, .int tl, .int tk]) rfl dX4_set_80 ?_
            generalize eM161 : j_up M154 x (.inr (4, [.ref (x + 1), .ref (x + 5), .ref (x + 9), .ref (x + 11), .int a0, .int a1, .int a2, .int a3, .int a4, .int ln, .int mA, .int mB, .int lt, .int pr, .int tl, .int tk])) = M161
            have h163 : M161 x = some (.inr (4, [.ref (x + 1), .ref (x + 5), .ref (x + 9), .ref (x + 11), .int a0, .int a1, .int a2, .int a3, .int a4, .int ln, .int mA, .int mB, .int lt, .int pr, .int tl, .int tk])) := by rw [← eM161]; exact j_up_self _ _ _
            have hp164 : EvAt M161 (x + 1) A := hp157.frame (fun q h1 h2 => by rw [← eM161]; exact j_up_ne _ _ (by omega))
            have hp165 : EvAt M161 (x + 5) B := hp158.frame (fun q h1 h2 => by rw [← eM161]; exact j_up_ne _ _ (by omega))
            have hp166 : LnAt M161 (x + 11) qu := hp159.frame (fun q h1 h2 => by rw [← eM161]; exact j_up_ne _ _ (by omega))
            have hp167 : GrAt M161 (x + 9) cs := hp160.frame (fun q hq => by rw [← eM161]; exact j_up_ne _ _ (by rcases hq with rfl | rfl | ⟨z, hz, rfl⟩ <;> first | omega | (have := hnb z hz; omega)))
            refine j_aload_n X 0 dX4_set_83 rfl rfl ?_
            refine j_iload X dX4_set_84 rfl ?_
            refine j_put X h163 rfl iwX4_set_X4 tyX4 tyX4_ok nmX4 9 (by decide) lkX4_set_49 rfl rfl rfl (Nat.le_of_ble_eq_true rfl) (fs' := [.ref (x + 1), .ref (x + 5), .ref (x + 9), .ref (x + 11), .int a0, .int a1, .int a2, .int a3, .int a4, .int a5, .int mA, .int mB, .int lt, .int pr, .int tl, .int tk]) rfl dX4_set_86 ?_
            generalize eM168 : j_up M161 x (.inr (4, [.ref (x + 1), .ref (x + 5), .ref (x + 9), .ref (x + 11), .int a0, .int a1, .int a2, .int a3, .int a4, .int a5, .int mA, .int mB, .int lt, .int pr, .int tl, .int tk])) = M168
            have h170 : M168 x = some (.inr (4, [.ref (x + 1), .ref (x + 5), .ref (x + 9), .ref (x + 11), .int a0, .int a1, .int a2, .int a3, .int a4, .int a5, .int mA, .int mB, .int lt, .int pr, .int tl, .int tk])) := by rw [← eM168]; exact j_up_self _ _ _
            have hp171 : EvAt M168 (x + 1) A := hp164.frame (fun q h1 h2 => by rw [← eM168]; exact j_up_ne _ _ (by omega))
            have hp172 : EvAt M168 (x + 5) B := hp165.frame (fun q h1 h2 => by rw [← eM168]; exact j_up_ne _ _ (by omega))
            have hp173 : LnAt M168 (x + 11) qu := hp166.frame (fun q h1 h2 => by rw [← eM168]; exact j_up_ne _ _ (by omega))
            have hp174 : GrAt M168 (x + 9) cs := hp167.frame (fun q hq => by rw [← eM168]; exact j_up_ne _ _ (by rcases hq with rfl | rfl | ⟨z, hz, rfl⟩ <;> first | omega | (have := hnb z hz; omega)))
            refine j_aload_n X 0 dX4_set_89 rfl rfl ?_
            refine j_callV X nwSQ_ok (As := []) (rest := []) h170 rfl rfl (c_X4_startAgain l D hI b0 (nb := nb) ⟨h170, hp171, hp172, hp174, hp173, hnd, hnb, hxn⟩) rfl gX4_set_X4_startAgain ⟨rfl, ddX4_startAgain⟩ ⟨Nat.le_of_ble_eq_true rfl, Nat.le_of_ble_eq_true rfl⟩ (Nat.le_of_ble_eq_true rfl) rfl dX4_set_90 ⟨(by show 0 + 0 ≤ 0; omega), (by show 0 + 0 ≤ 0; omega)⟩ (fun r175 M176 n177 hr178 => ?_)
            obtain ⟨rfl, rfl, hs2, hf2⟩ := hr178
            refine j_st (st := []) rfl ?_
            refine j_iconst X dX4_set_93 (v := 0) (by decide) ?_
            exact j_iret X hlk hr (by omega) (by omega) dX4_set_94 ⟨rfl, rfl, hs2, fun q hq => by rw [hf2 _ (by omega), ← eM168, j_up_ne _ _ (by omega), ← eM161, j_up_ne _ _ (by omega), ← eM154, j_up_ne _ _ (by omega), ← eM147, j_up_ne _ _ (by omega), ← eM140, j_up_ne _ _ (by omega), ← eM133, j_up_ne _ _ (by omega)]⟩
          · skip
            exact absurd hok.2.2.2.2 (zo_eq.mp c132)
set_option maxHeartbeats 800000 in
set_option maxRecDepth 100000 in
theorem c_X4_admB (l : Launch) (D : va_G) {ty : jT} {cA : ClassId} (hI : ty[0]? = some (cA, .int)) (b0 : Nat) {M : jM} {n x nb : Nat} {w sl la sp rm ln mA mB lt pr tl tk : Int32} {A B : List Ev} {cs : List Nd} {qu : List Rec} (h : SQ M x nb w sl la sp rm ln mA mB lt pr tl tk A B cs qu) {oo : Nat} {O : List Ev} (hO : EvAt M oo O) (t k : Int32) (hT : ¬ (-1000000000 ≤ t ∧ t ≤ 1000000000)) : Ct l D ty vwCl nwSQ b0 yX4_admit wsX4_admit 3 70 0 0 [.ref x, .ref oo, .int t, .int k] M n (j_rd (.int (-2)) M n) := by
  obtain ⟨hx, hA, hB, hG, hQ, hnd, hnb, hxn⟩ := id h
  have hx : M x = some (.inr (4, [.ref (x + 1), .ref (x + 5), .ref (x + 9), .ref (x + 11), .int w, .int sl, .int la, .int sp, .int rm, .int ln, .int mA, .int mB, .int lt, .int pr, .int tl, .int tk])) := hx
  refine j_start (cc := cX4_admit) (maxL := 5) (ret := (some .int)) (by decide) rfl [some (.ref x), some (.ref oo), some (.int t), some (.int k), none] (Nat.le_of_ble_eq_true rfl) rfl ?_
  intro p e s m below meth c X hlk hr hnm
  refine j_iload_n X 2 dX4_admit_0 rfl rfl ?_
  refine j_callS X nwSQ_ok (As := [.int t]) (rest := []) rfl (c_X4_isTime l D hI b0 t) rfl gX4_admit_X4_isTime ddX4_isTime ⟨Nat.le_of_ble_eq_true rfl, Nat.le_of_ble_eq_true rfl⟩ (Nat.le_of_ble_eq_true rfl) rfl dX4_admit_1 ⟨(by show 0 + 0 ≤ 0; omega), (by show 0 + 0 ≤ 0; omega)⟩ (fun r179 M180 n181 hr182 => ?_)
  obtain ⟨rfl, rfl, rfl⟩ := hr182
  refine j_st (st := [.int (if -1000000000 ≤ t ∧ t ≤ 1000000000 then 1 else 0)]) rfl ?_
  refine j_if_ne X 10 dX4_admit_4 (by decide) (fun c183 => ?_) (fun c183 => ?_)
  · skip
    exact absurd (zo_ne.mp c183) hT
  · skip
    refine j_bipush X dX4_admit_7 (v := (-2)) (by decide) ?_
    exact j_iret X hlk hr (by omega) (by omega) dX4_admit_9 ⟨rfl, rfl, rfl⟩
set_option maxHeartbeats 800000 in
set_option maxRecDepth 100000 in
theorem c_X4_admL (l : Launch) (D : va_G) {ty : jT} {cA : ClassId} (hI : ty[0]? = some (cA, .int)) (b0 : Nat) {M : jM} {n x nb : Nat} {w sl la sp rm ln mA mB lt pr tl tk : Int32} {A B : List Ev} {cs : List Nd} {qu : List Rec} (h : SQ M x nb w sl la sp rm ln mA mB lt pr tl tk A B cs qu) {oo : Nat} {O : List Ev} (hO : EvAt M oo O) (t k : Int32) (hT : (-1000000000 ≤ t ∧ t ≤ 1000000000)) (hL : ¬ mn mA mB - la ≤ t) : Ct l D ty vwCl nwSQ b0 yX4_admit wsX4_admit 3 70 0 0 [.ref x, .ref oo, .int t, .int k] M n (fun r M' n' => r = some (.int (-4)) ∧ n = n' ∧ M' x = some (sqO x w sl la sp rm ln mA mB (lt + 1) pr tl tk) ∧ ∀ q, q ≠ x → M' q = M q) := by
  obtain ⟨hx, hA, hB, hG, hQ, hnd, hnb, hxn⟩ := id h
  have hx : M x = some (.inr (4, [.ref (x + 1), .ref (x + 5), .ref (x + 9), .ref (x + 11), .int w, .int sl, .int la, .int sp, .int rm, .int ln, .int mA, .int mB, .int lt, .int pr, .int tl, .int tk])) := hx
  refine j_start (cc := cX4_admit) (maxL := 5) (ret := (some .int)) (by decide) rfl [some (.ref x), some (.ref oo), some (.int t), some (.int k), none] (Nat.le_of_ble_eq_true rfl) rfl ?_
  intro p e s m below meth c X hlk hr hnm
  refine j_iload_n X 2 dX4_admit_0 rfl rfl ?_
  refine j_callS X nwSQ_ok (As := [.int t]) (rest := []) rfl (c_X4_isTime l D hI b0 t) rfl gX4_admit_X4_isTime ddX4_isTime ⟨Nat.le_of_ble_eq_true rfl, Nat.le_of_ble_eq_true rfl⟩ (Nat.le_of_ble_eq_true rfl) rfl dX4_admit_1 ⟨(by show 0 + 0 ≤ 0; omega), (by show 0 + 0 ≤ 0; omega)⟩ (fun r184 M185 n186 hr187 => ?_)
  obtain ⟨rfl, rfl, rfl⟩ := hr187
  refine j_st (st := [.int (if -1000000000 ≤ t ∧ t ≤ 1000000000 then 1 else 0)]) rfl ?_
  refine j_if_ne X 10 dX4_admit_4 (by decide) (fun c188 => ?_) (fun c188 => ?_)
  · skip
    refine j_iload_n X 2 dX4_admit_10 rfl rfl ?_
    refine j_aload_n X 0 dX4_admit_11 rfl rfl ?_
    refine j_callV X nwSQ_ok (As := []) (rest := [.int t]) hx rfl rfl (c_X4_mark l D hI b0 hx) rfl gX4_admit_X4_mark ⟨rfl, ddX4_mark⟩ ⟨Nat.le_of_ble_eq_true rfl, Nat.le_of_ble_eq_true rfl⟩ (Nat.le_of_ble_eq_true rfl) rfl dX4_admit_12 ⟨(by show 0 + 0 ≤ 0; omega), (by show 0 + 0 ≤ 0; omega)⟩ (fun r189 M190 n191 hr192 => ?_)
    obtain ⟨rfl, rfl, rfl⟩ := hr192
    refine j_st (st := [.int (mn mA mB), .int t]) rfl ?_
    refine j_aload_n X 0 dX4_admit_15 rfl rfl ?_
    refine j_get X hx rfl iwX4_admit_X4 6 (by decide) lkX4_admit_40 rfl dX4_admit_16 ?_
    refine j_isub X dX4_admit_19 ?_
    refine j_icmp_ge X 36 dX4_admit_20 (by decide) (fun c193 => ?_) (fun c193 => ?_)
    · skip
      exact absurd c193 hL
    · skip
      refine j_aload_n X 0 dX4_admit_23 rfl rfl ?_
      refine j_dup X dX4_admit_24 rfl ?_
      refine j_get X hx rfl iwX4_admit_X4 12 (by decide) lkX4_admit_144 rfl dX4_admit_25 ?_
      refine j_iconst X dX4_admit_28 (v := 1) (by decide) ?_
      refine j_iadd X dX4_admit_29 ?_
      refine j_put X hx rfl iwX4_admit_X4 tyX4 tyX4_ok nmX4 12 (by decide) lkX4_admit_144 rfl rfl rfl (Nat.le_of_ble_eq_true rfl) (fs' := [.ref (x + 1), .ref (x + 5), .ref (x + 9), .ref (x + 11), .int w, .int sl, .int la, .int sp, .int rm, .int ln, .int mA, .int mB, .int (lt + 1), .int pr, .int tl, .int tk]) rfl dX4_admit_30 ?_
      generalize eM194 : j_up M x (.inr (4, [.ref (x + 1), .ref (x + 5), .ref (x + 9), .ref (x + 11), .int w, .int sl, .int la, .int sp, .int rm, .int ln, .int mA, .int mB, .int (lt + 1), .int pr, .int tl, .int tk])) = M194
      have h196 : M194 x = some (.inr (4, [.ref (x + 1), .ref (x + 5), .ref (x + 9), .ref (x + 11), .int w, .int sl, .int la, .int sp, .int rm, .int ln, .int mA, .int mB, .int (lt + 1), .int pr, .int tl, .int tk])) := by rw [← eM194]; exact j_up_self _ _ _
      refine j_bipush X dX4_admit_33 (v := (-4)) (by decide) ?_
      exact j_iret X hlk hr (by omega) (by omega) dX4_admit_35 ⟨rfl, rfl, h196, fun q hq => by rw [← eM194, j_up_ne _ _ (hq)]⟩
  · skip
    exact absurd hT (zo_eq.mp c188)
set_option maxHeartbeats 800000 in
set_option maxRecDepth 100000 in
theorem c_X4_admF (l : Launch) (D : va_G) {ty : jT} {cA : ClassId} (hI : ty[0]? = some (cA, .int)) (b0 : Nat) {M : jM} {n x nb : Nat} {w sl la sp rm ln mA mB lt pr tl tk : Int32} {A B : List Ev} {cs : List Nd} {qu : List Rec} (h : SQ M x nb w sl la sp rm ln mA mB lt pr tl tk A B cs qu) {oo : Nat} {O : List Ev} (hO : EvAt M oo O) (t k : Int32) (hT : (-1000000000 ≤ t ∧ t ≤ 1000000000)) (hL : mn mA mB - la ≤ t) (hR : ¬ nI (A.length + B.length) < rm) : Ct l D ty vwCl nwSQ b0 yX4_admit wsX4_admit 3 70 0 0 [.ref x, .ref oo, .int t, .int k] M n (j_rd (.int (-3)) M n) := by
  obtain ⟨hx, hA, hB, hG, hQ, hnd, hnb, hxn⟩ := id h
  have hx : M x = some (.inr (4, [.ref (x + 1), .ref (x + 5), .ref (x + 9), .ref (x + 11), .int w, .int sl, .int la, .int sp, .int rm, .int ln, .int mA, .int mB, .int lt, .int pr, .int tl, .int tk])) := hx
  refine j_start (cc := cX4_admit) (maxL := 5) (ret := (some .int)) (by decide) rfl [some (.ref x), some (.ref oo), some (.int t), some (.int k), none] (Nat.le_of_ble_eq_true rfl) rfl ?_
  intro p e s m below meth c X hlk hr hnm
  refine j_iload_n X 2 dX4_admit_0 rfl rfl ?_
  refine j_callS X nwSQ_ok (As := [.int t]) (rest := []) rfl (c_X4_isTime l D hI b0 t) rfl gX4_admit_X4_isTime ddX4_isTime ⟨Nat.le_of_ble_eq_true rfl, Nat.le_of_ble_eq_true rfl⟩ (Nat.le_of_ble_eq_true rfl) rfl dX4_admit_1 ⟨(by show 0 + 0 ≤ 0; omega), (by show 0 + 0 ≤ 0; omega)⟩ (fun r197 M198 n199 hr200 => ?_)
  obtain ⟨rfl, rfl, rfl⟩ := hr200
  refine j_st (st := [.int (if -1000000000 ≤ t ∧ t ≤ 1000000000 then 1 else 0)]) rfl ?_
  refine j_if_ne X 10 dX4_admit_4 (by decide) (fun c201 => ?_) (fun c201 => ?_)
  · skip
    refine j_iload_n X 2 dX4_admit_10 rfl rfl ?_
    refine j_aload_n X 0 dX4_admit_11 rfl rfl ?_
    refine j_callV X nwSQ_ok (As := []) (rest := [.int t]) hx rfl rfl (c_X4_mark l D hI b0 hx) rfl gX4_admit_X4_mark ⟨rfl, ddX4_mark⟩ ⟨Nat.le_of_ble_eq_true rfl, Nat.le_of_ble_eq_true rfl⟩ (Nat.le_of_ble_eq_true rfl) rfl dX4_admit_12 ⟨(by show 0 + 0 ≤ 0; omega), (by show 0 + 0 ≤ 0; omega)⟩ (fun r202 M203 n204 hr205 => ?_)
    obtain ⟨rfl, rfl, rfl⟩ := hr205
    refine j_st (st := [.int (mn mA mB), .int t]) rfl ?_
    refine j_aload_n X 0 dX4_admit_15 rfl rfl ?_
    refine j_get X hx rfl iwX4_admit_X4 6 (by decide) lkX4_admit_40 rfl dX4_admit_16 ?_
    refine j_isub X dX4_admit_19 ?_
    refine j_icmp_ge X 36 dX4_admit_20 (by decide) (fun c206 => ?_) (fun c206 => ?_)
    · skip
      refine j_aload_n X 0 dX4_admit_36 rfl rfl ?_
      refine j_get X hx rfl iwX4_admit_X4 0 (by decide) lkX4_admit_10 rfl dX4_admit_37 ?_
      refine j_callV X nwSQ_ok (As := []) (rest := []) hA.cell rfl rfl (c_X0_size l D hI b0 hA) rfl gX4_admit_X0_size ⟨rfl, ddX0_size⟩ ⟨Nat.le_of_ble_eq_true rfl, Nat.le_of_ble_eq_true rfl⟩ (Nat.le_of_ble_eq_true rfl) rfl dX4_admit_40 ⟨(by show 0 + 0 ≤ 0; omega), (by show 0 + 0 ≤ 0; omega)⟩ (fun r207 M208 n209 hr210 => ?_)
      obtain ⟨rfl, rfl, rfl⟩ := hr210
      refine j_st (st := [.int (nI A.length)]) rfl ?_
      refine j_aload_n X 0 dX4_admit_43 rfl rfl ?_
      refine j_get X hx rfl iwX4_admit_X4 1 (by decide) lkX4_admit_16 rfl dX4_admit_44 ?_
      refine j_callV X nwSQ_ok (As := []) (rest := [.int (nI A.length)]) hB.cell rfl rfl (c_X0_size l D hI b0 hB) rfl gX4_admit_X0_size ⟨rfl, ddX0_size⟩ ⟨Nat.le_of_ble_eq_true rfl, Nat.le_of_ble_eq_true rfl⟩ (Nat.le_of_ble_eq_true rfl) rfl dX4_admit_47 ⟨(by show 0 + 0 ≤ 0; omega), (by show 0 + 0 ≤ 0; omega)⟩ (fun r211 M212 n213 hr214 => ?_)
      obtain ⟨rfl, rfl, rfl⟩ := hr214
      refine j_st (st := [.int (nI B.length), .int (nI A.length)]) rfl ?_
      refine j_iadd X dX4_admit_50 ?_
      refine j_st (st := [.int (nI (A.length + B.length))]) (by rw [show (nI A.length) + (nI B.length) = nI (A.length + B.length) from nI_add _ _]) ?_
      refine j_aload_n X 0 dX4_admit_51 rfl rfl ?_
      refine j_get X hx rfl iwX4_admit_X4 8 (by decide) lkX4_admit_46 rfl dX4_admit_52 ?_
      refine j_icmp_lt X 61 dX4_admit_55 (by decide) (fun c215 => ?_) (fun c215 => ?_)
      · skip
        exact absurd c215 hR
      · skip
        refine j_bipush X dX4_admit_58 (v := (-3)) (by decide) ?_
        exact j_iret X hlk hr (by omega) (by omega) dX4_admit_60 ⟨rfl, rfl, rfl⟩
    · skip
      exact absurd hL c206
  · skip
    exact absurd hT (zo_eq.mp c201)
set_option maxHeartbeats 800000 in
set_option maxRecDepth 100000 in
theorem c_X4_admQ (l : Launch) (D : va_G) {ty : jT} {cA : ClassId} (hI : ty[0]? = some (cA, .int)) (b0 : Nat) {M : jM} {n x nb : Nat} {w sl la sp rm ln mA mB lt pr tl tk : Int32} {A B : List Ev} {cs : List Nd} {qu : List Rec} (h : SQ M x nb w sl la sp rm ln mA mB lt pr tl tk A B cs qu) {oo : Nat} {O : List Ev} (hO : EvAt M oo O) (t k : Int32) (hT : (-1000000000 ≤ t ∧ t ≤ 1000000000)) (hL : mn mA mB - la ≤ t) (hR : nI (A.length + B.length) < rm) (hN : ¬ nI (qu.length + O.countP (nr t k sp)) ≤ ln) : Ct l D ty vwCl nwSQ b0 yX4_admit wsX4_admit 3 70 0 0 [.ref x, .ref oo, .int t, .int k] M n (j_rd (.int (-3)) M n) := by
  obtain ⟨hx, hA, hB, hG, hQ, hnd, hnb, hxn⟩ := id h
  have hx : M x = some (.inr (4, [.ref (x + 1), .ref (x + 5), .ref (x + 9), .ref (x + 11), .int w, .int sl, .int la, .int sp, .int rm, .int ln, .int mA, .int mB, .int lt, .int pr, .int tl, .int tk])) := hx
  refine j_start (cc := cX4_admit) (maxL := 5) (ret := (some .int)) (by decide) rfl [some (.ref x), some (.ref oo), some (.int t), some (.int k), none] (Nat.le_of_ble_eq_true rfl) rfl ?_
  intro p e s m below meth c X hlk hr hnm
  refine j_iload_n X 2 dX4_admit_0 rfl rfl ?_
  refine j_callS X nwSQ_ok (As := [.int t]) (rest := []) rfl (c_X4_isTime l D hI b0 t) rfl gX4_admit_X4_isTime ddX4_isTime ⟨Nat.le_of_ble_eq_true rfl, Nat.le_of_ble_eq_true rfl⟩ (Nat.le_of_ble_eq_true rfl) rfl dX4_admit_1 ⟨(by show 0 + 0 ≤ 0; omega), (by show 0 + 0 ≤ 0; omega)⟩ (fun r216 M217 n218 hr219 => ?_)
  obtain ⟨rfl, rfl, rfl⟩ := hr219
  refine j_st (st := [.int (if -1000000000 ≤ t ∧ t ≤ 1000000000 then 1 else 0)]) rfl ?_
  refine j_if_ne X 10 dX4_admit_4 (by decide) (fun c220 => ?_) (fun c220 => ?_)
  · skip
    refine j_iload_n X 2 dX4_admit_10 rfl rfl ?_
    refine j_aload_n X 0 dX4_admit_11 rfl rfl ?_
    refine j_callV X nwSQ_ok (As := []) (rest := [.int t]) hx rfl rfl (c_X4_mark l D hI b0 hx) rfl gX4_admit_X4_mark ⟨rfl, ddX4_mark⟩ ⟨Nat.le_of_ble_eq_true rfl, Nat.le_of_ble_eq_true rfl⟩ (Nat.le_of_ble_eq_true rfl) rfl dX4_admit_12 ⟨(by show 0 + 0 ≤ 0; omega), (by show 0 + 0 ≤ 0; omega)⟩ (fun r221 M222 n223 hr224 => ?_)
    obtain ⟨rfl, rfl, rfl⟩ := hr224
    refine j_st (st := [.int (mn mA mB), .int t]) rfl ?_
    refine j_aload_n X 0 dX4_admit_15 rfl rfl ?_
    refine j_get X hx rfl iwX4_admit_X4 6 (by decide) lkX4_admit_40 rfl dX4_admit_16 ?_
    refine j_isub X dX4_admit_19 ?_
    refine j_icmp_ge X 36 dX4_admit_20 (by decide) (fun c225 => ?_) (fun c225 => ?_)
    · skip
      refine j_aload_n X 0 dX4_admit_36 rfl rfl ?_
      refine j_get X hx rfl iwX4_admit_X4 0 (by decide) lkX4_admit_10 rfl dX4_admit_37 ?_
      refine j_callV X nwSQ_ok (As := []) (rest := []) hA.cell rfl rfl (c_X0_size l D hI b0 hA) rfl gX4_admit_X0_size ⟨rfl, ddX0_size⟩ ⟨Nat.le_of_ble_eq_true rfl, Nat.le_of_ble_eq_true rfl⟩ (Nat.le_of_ble_eq_true rfl) rfl dX4_admit_40 ⟨(by show 0 + 0 ≤ 0; omega), (by show 0 + 0 ≤ 0; omega)⟩ (fun r226 M227 n228 hr229 => ?_)
      obtain ⟨rfl, rfl, rfl⟩ := hr229
      refine j_st (st := [.int (nI A.length)]) rfl ?_
      refine j_aload_n X 0 dX4_admit_43 rfl rfl ?_
      refine j_get X hx rfl iwX4_admit_X4 1 (by decide) lkX4_admit_16 rfl dX4_admit_44 ?_
      refine j_callV X nwSQ_ok (As := []) (rest := [.int (nI A.length)]) hB.cell rfl rfl (c_X0_size l D hI b0 hB) rfl gX4_admit_X0_size ⟨rfl, ddX0_size⟩ ⟨Nat.le_of_ble_eq_true rfl, Nat.le_of_ble_eq_true rfl⟩ (Nat.le_of_ble_eq_true rfl) rfl dX4_admit_47 ⟨(by show 0 + 0 ≤ 0; omega), (by show 0 + 0 ≤ 0; omega)⟩ (fun r230 M231 n232 hr233 => ?_)
      obtain ⟨rfl, rfl, rfl⟩ := hr233
      refine j_st (st := [.int (nI B.length), .int (nI A.length)]) rfl ?_
      refine j_iadd X dX4_admit_50 ?_
      refine j_st (st := [.int (nI (A.length + B.length))]) (by rw [show (nI A.length) + (nI B.length) = nI (A.length + B.length) from nI_add _ _]) ?_
      refine j_aload_n X 0 dX4_admit_51 rfl rfl ?_
      refine j_get X hx rfl iwX4_admit_X4 8 (by decide) lkX4_admit_46 rfl dX4_admit_52 ?_
      refine j_icmp_lt X 61 dX4_admit_55 (by decide) (fun c234 => ?_) (fun c234 => ?_)
      · skip
        refine j_aload_n X 1 dX4_admit_61 rfl rfl ?_
        refine j_iload_n X 2 dX4_admit_62 rfl rfl ?_
        refine j_iload_n X 3 dX4_admit_63 rfl rfl ?_
        refine j_aload_n X 0 dX4_admit_64 rfl rfl ?_
        refine j_get X hx rfl iwX4_admit_X4 7 (by decide) lkX4_admit_43 rfl dX4_admit_65 ?_
        refine j_callV X nwSQ_ok (As := [.int t, .int k, .int sp]) (rest := []) hO.cell rfl rfl (c_X0_manyNear l D hI b0 hO t k sp) rfl gX4_admit_X0_manyNear ⟨rfl, ddX0_manyNear⟩ ⟨Nat.le_of_ble_eq_true rfl, Nat.le_of_ble_eq_true rfl⟩ (Nat.le_of_ble_eq_true rfl) rfl dX4_admit_68 ⟨(by show 0 + 0 ≤ 0; omega), (by show 0 + 0 ≤ 0; omega)⟩ (fun r235 M236 n237 hr238 => ?_)
        obtain ⟨rfl, rfl, rfl⟩ := hr238
        refine j_st (st := [.int (nI (O.countP (nr t k sp)))]) rfl ?_
        refine j_istore X dX4_admit_71 (by decide) rfl (L' := [some (.ref x), some (.ref oo), some (.int t), some (.int k), some (.int (nI (O.countP (nr t k sp))))]) rfl ?_
        refine j_aload_n X 0 dX4_admit_73 rfl rfl ?_
        refine j_get X hx rfl iwX4_admit_X4 3 (by decide) lkX4_admit_29 rfl dX4_admit_74 ?_
        obtain ⟨fi, hqc239⟩ := hQ.cell
        refine j_callV X nwSQ_ok (As := []) (rest := []) hqc239 rfl rfl (c_X3_size l D hI b0 hQ) rfl gX4_admit_X3_size ⟨rfl, ddX3_size⟩ ⟨Nat.le_of_ble_eq_true rfl, Nat.le_of_ble_eq_true rfl⟩ (Nat.le_of_ble_eq_true rfl) rfl dX4_admit_77 ⟨(by show 0 + 0 ≤ 0; omega), (by show 0 + 0 ≤ 0; omega)⟩ (fun r240 M241 n242 hr243 => ?_)
        obtain ⟨rfl, rfl, rfl⟩ := hr243
        refine j_st (st := [.int (nI qu.length)]) rfl ?_
        refine j_iload X dX4_admit_80 rfl ?_
        refine j_iadd X dX4_admit_82 ?_
        refine j_st (st := [.int (nI (qu.length + (O.countP (nr t k sp))))]) (by rw [show (nI qu.length) + (nI (O.countP (nr t k sp))) = nI (qu.length + (O.countP (nr t k sp))) from nI_add _ _]) ?_
        refine j_aload_n X 0 dX4_admit_83 rfl rfl ?_
        refine j_get X hx rfl iwX4_admit_X4 9 (by decide) lkX4_admit_49 rfl dX4_admit_84 ?_
        refine j_icmp_le X 95 dX4_admit_87 (by decide) (fun c244 => ?_) (fun c244 => ?_)
        · skip
          exact absurd c244 hN
        · skip
          refine j_bipush X dX4_admit_90 (v := (-3)) (by decide) ?_
          refine j_goto X 97 dX4_admit_92 (by decide) ?_
          exact j_iret X hlk hr (by omega) (by omega) dX4_admit_97 ⟨rfl, rfl, rfl⟩
      · skip
        exact absurd hR c234
    · skip
      exact absurd hL c225
  · skip
    exact absurd hT (zo_eq.mp c220)
set_option maxHeartbeats 800000 in
set_option maxRecDepth 100000 in
theorem c_X4_admP (l : Launch) (D : va_G) {ty : jT} {cA : ClassId} (hI : ty[0]? = some (cA, .int)) (b0 : Nat) {M : jM} {n x nb : Nat} {w sl la sp rm ln mA mB lt pr tl tk : Int32} {A B : List Ev} {cs : List Nd} {qu : List Rec} (h : SQ M x nb w sl la sp rm ln mA mB lt pr tl tk A B cs qu) {oo : Nat} {O : List Ev} (hO : EvAt M oo O) (t k : Int32) (hT : (-1000000000 ≤ t ∧ t ≤ 1000000000)) (hL : mn mA mB - la ≤ t) (hR : nI (A.length + B.length) < rm) (hN : nI (qu.length + O.countP (nr t k sp)) ≤ ln) : Ct l D ty vwCl nwSQ b0 yX4_admit wsX4_admit 3 70 0 0 [.ref x, .ref oo, .int t, .int k] M n (j_rd (.int (nI (O.countP (nr t k sp)))) M n) := by
  obtain ⟨hx, hA, hB, hG, hQ, hnd, hnb, hxn⟩ := id h
  have hx : M x = some (.inr (4, [.ref (x + 1), .ref (x + 5), .ref (x + 9), .ref (x + 11), .int w, .int sl, .int la, .int sp, .int rm, .int ln, .int mA, .int mB, .int lt, .int pr, .int tl, .int tk])) := hx
  refine j_start (cc := cX4_admit) (maxL := 5) (ret := (some .int)) (by decide) rfl [some (.ref x), some (.ref oo), some (.int t), some (.int k), none] (Nat.le_of_ble_eq_true rfl) rfl ?_
  intro p e s m below meth c X hlk hr hnm
  refine j_iload_n X 2 dX4_admit_0 rfl rfl ?_
  refine j_callS X nwSQ_ok (As := [.int t]) (rest := []) rfl (c_X4_isTime l D hI b0 t) rfl gX4_admit_X4_isTime ddX4_isTime ⟨Nat.le_of_ble_eq_true rfl, Nat.le_of_ble_eq_true rfl⟩ (Nat.le_of_ble_eq_true rfl) rfl dX4_admit_1 ⟨(by show 0 + 0 ≤ 0; omega), (by show 0 + 0 ≤ 0; omega)⟩ (fun r245 M246 n247 hr248 => ?_)
  obtain ⟨rfl, rfl, rfl⟩ := hr248
  refine j_st (st := [.int (if -1000000000 ≤ t ∧ t ≤ 1000000000 then 1 else 0)]) rfl ?_
  refine j_if_ne X 10 dX4_admit_4 (by decide) (fun c249 => ?_) (fun c249 => ?_)
  · skip
    refine j_iload_n X 2 dX4_admit_10 rfl rfl ?_
    refine j_aload_n X 0 dX4_admit_11 rfl rfl ?_
    refine j_callV X nwSQ_ok (As := []) (rest := [.int t]) hx rfl rfl (c_X4_mark l D hI b0 hx) rfl gX4_admit_X4_mark ⟨rfl, ddX4_mark⟩ ⟨Nat.le_of_ble_eq_true rfl, Nat.le_of_ble_eq_true rfl⟩ (Nat.le_of_ble_eq_true rfl) rfl dX4_admit_12 ⟨(by show 0 + 0 ≤ 0; omega), (by show 0 + 0 ≤ 0; omega)⟩ (fun r250 M251 n252 hr253 => ?_)
    obtain ⟨rfl, rfl, rfl⟩ := hr253
    refine j_st (st := [.int (mn mA mB), .int t]) rfl ?_
    refine j_aload_n X 0 dX4_admit_15 rfl rfl ?_
    refine j_get X hx rfl iwX4_admit_X4 6 (by decide) lkX4_admit_40 rfl dX4_admit_16 ?_
    refine j_isub X dX4_admit_19 ?_
    refine j_icmp_ge X 36 dX4_admit_20 (by decide) (fun c254 => ?_) (fun c254 => ?_)
    · skip
      refine j_aload_n X 0 dX4_admit_36 rfl rfl ?_
      refine j_get X hx rfl iwX4_admit_X4 0 (by decide) lkX4_admit_10 rfl dX4_admit_37 ?_
      refine j_callV X nwSQ_ok (As := []) (rest := []) hA.cell rfl rfl (c_X0_size l D hI b0 hA) rfl gX4_admit_X0_size ⟨rfl, ddX0_size⟩ ⟨Nat.le_of_ble_eq_true rfl, Nat.le_of_ble_eq_true rfl⟩ (Nat.le_of_ble_eq_true rfl) rfl dX4_admit_40 ⟨(by show 0 + 0 ≤ 0; omega), (by show 0 + 0 ≤ 0; omega)⟩ (fun r255 M256 n257 hr258 => ?_)
      obtain ⟨rfl, rfl, rfl⟩ := hr258
      refine j_st (st := [.int (nI A.length)]) rfl ?_
      refine j_aload_n X 0 dX4_admit_43 rfl rfl ?_
      refine j_get X hx rfl iwX4_admit_X4 1 (by decide) lkX4_admit_16 rfl dX4_admit_44 ?_
      refine j_callV X nwSQ_ok (As := []) (rest := [.int (nI A.length)]) hB.cell rfl rfl (c_X0_size l D hI b0 hB) rfl gX4_admit_X0_size ⟨rfl, ddX0_size⟩ ⟨Nat.le_of_ble_eq_true rfl, Nat.le_of_ble_eq_true rfl⟩ (Nat.le_of_ble_eq_true rfl) rfl dX4_admit_47 ⟨(by show 0 + 0 ≤ 0; omega), (by show 0 + 0 ≤ 0; omega)⟩ (fun r259 M260 n261 hr262 => ?_)
      obtain ⟨rfl, rfl, rfl⟩ := hr262
      refine j_st (st := [.int (nI B.length), .int (nI A.length)]) rfl ?_
      refine j_iadd X dX4_admit_50 ?_
      refine j_st (st := [.int (nI (A.length + B.length))]) (by rw [show (nI A.length) + (nI B.length) = nI (A.length + B.length) from nI_add _ _]) ?_
      refine j_aload_n X 0 dX4_admit_51 rfl rfl ?_
      refine j_get X hx rfl iwX4_admit_X4 8 (by decide) lkX4_admit_46 rfl dX4_admit_52 ?_
      refine j_icmp_lt X 61 dX4_admit_55 (by decide) (fun c263 => ?_) (fun c263 => ?_)
      · skip
        refine j_aload_n X 1 dX4_admit_61 rfl rfl ?_
        refine j_iload_n X 2 dX4_admit_62 rfl rfl ?_
        refine j_iload_n X 3 dX4_admit_63 rfl rfl ?_
        refine j_aload_n X 0 dX4_admit_64 rfl rfl ?_
        refine j_get X hx rfl iwX4_admit_X4 7 (by decide) lkX4_admit_43 rfl dX4_admit_65 ?_
        refine j_callV X nwSQ_ok (As := [.int t, .int k, .int sp]) (rest := []) hO.cell rfl rfl (c_X0_manyNear l D hI b0 hO t k sp) rfl gX4_admit_X0_manyNear ⟨rfl, ddX0_manyNear⟩ ⟨Nat.le_of_ble_eq_true rfl, Nat.le_of_ble_eq_true rfl⟩ (Nat.le_of_ble_eq_true rfl) rfl dX4_admit_68 ⟨(by show 0 + 0 ≤ 0; omega), (by show 0 + 0 ≤ 0; omega)⟩ (fun r264 M265 n266 hr267 => ?_)
        obtain ⟨rfl, rfl, rfl⟩ := hr267
        refine j_st (st := [.int (nI (O.countP (nr t k sp)))]) rfl ?_
        refine j_istore X dX4_admit_71 (by decide) rfl (L' := [some (.ref x), some (.ref oo), some (.int t), some (.int k), some (.int (nI (O.countP (nr t k sp))))]) rfl ?_
        refine j_aload_n X 0 dX4_admit_73 rfl rfl ?_
        refine j_get X hx rfl iwX4_admit_X4 3 (by decide) lkX4_admit_29 rfl dX4_admit_74 ?_
        obtain ⟨fi, hqc268⟩ := hQ.cell
        refine j_callV X nwSQ_ok (As := []) (rest := []) hqc268 rfl rfl (c_X3_size l D hI b0 hQ) rfl gX4_admit_X3_size ⟨rfl, ddX3_size⟩ ⟨Nat.le_of_ble_eq_true rfl, Nat.le_of_ble_eq_true rfl⟩ (Nat.le_of_ble_eq_true rfl) rfl dX4_admit_77 ⟨(by show 0 + 0 ≤ 0; omega), (by show 0 + 0 ≤ 0; omega)⟩ (fun r269 M270 n271 hr272 => ?_)
        obtain ⟨rfl, rfl, rfl⟩ := hr272
        refine j_st (st := [.int (nI qu.length)]) rfl ?_
        refine j_iload X dX4_admit_80 rfl ?_
        refine j_iadd X dX4_admit_82 ?_
        refine j_st (st := [.int (nI (qu.length + (O.countP (nr t k sp))))]) (by rw [show (nI qu.length) + (nI (O.countP (nr t k sp))) = nI (qu.length + (O.countP (nr t k sp))) from nI_add _ _]) ?_
        refine j_aload_n X 0 dX4_admit_83 rfl rfl ?_
        refine j_get X hx rfl iwX4_admit_X4 9 (by decide) lkX4_admit_49 rfl dX4_admit_84 ?_
        refine j_icmp_le X 95 dX4_admit_87 (by decide) (fun c273 => ?_) (fun c273 => ?_)
        · skip
          refine j_iload X dX4_admit_95 rfl ?_
          exact j_iret X hlk hr (by omega) (by omega) dX4_admit_97 ⟨rfl, rfl, rfl⟩
        · skip
          exact absurd hN c273
      · skip
        exact absurd hR c263
    · skip
      exact absurd hL c254
  · skip
    exact absurd hT (zo_eq.mp c249)
end
section
/-- behind gather: the chain holds these groups; below nb nothing changed but the head -/
def gathd (M : jM) (n x nb : Nat) (gs : List Grp) : Option Value → jM → Nat → Prop := fun r M' n' =>
  r = none ∧ n ≤ n' ∧ ∃ cs' : List Nd, GrAt M' (x + 9) cs' ∧ cs'.map Prod.snd = gs ∧ (cs'.map Prod.fst).Nodup ∧ (∀ z ∈ cs', nb ≤ z.1) ∧ ∀ q, q < nb → q ≠ x + 9 + 1 → M' q = M q
theorem fold_hd {k v : Int32} : ∀ {es : List Int32} {gs : List Grp}, (∀ e ∈ es, bef g_hd e k = true) → es.foldl (fun gs e => ups e k v gs) (g_hd :: gs) = g_hd :: es.foldl (fun gs e => ups e k v gs) gs := by
  intro es
  induction es with
  | nil => intro gs _; rfl
  | cons e es ih =>
    intro gs h
    rw [List.foldl_cons, List.foldl_cons]
    show es.foldl _ (if bef g_hd e k then g_hd :: ups e k v gs else _) = _
    rw [if_pos (h e List.mem_cons_self)]
    exact ih (fun f hf => h f (List.mem_cons_of_mem _ hf))
theorem endsF_hd {t w sl k : Int32} (ht : t.toInt ≤ 1000000000) : ∀ {n : Nat} {b : Int32}, okB w sl b → ∀ e ∈ endsF t w sl n b, bef g_hd e k = true := by
  intro n
  induction n with
  | zero => intro b _ e he; cases he
  | succ n ih =>
    intro b hb e he
    by_cases hbt : b ≤ t
    · rw [endsF_T hbt] at he
      rcases List.mem_cons.mp he with rfl | he
      · exact hb.hd ht hbt
      · exact ih (hb.step ht hbt).1 e he
    · rw [endsF_F hbt] at he
      cases he
theorem gathd_end {M Mi : jM} {n ni x nb : Nat} {P T cs1 cs : List Nd} {c1 : Nd} {k v : Int32} {es : List Int32} (hg : M (x + 9) = some (.inr (2, [.ref (x + 9 + 1)]))) (hxn : x + 13 ≤ nb) (hnn : nb ≤ n) (hs : Seg Mi (some (x + 9 + 1)) (P ++ c1 :: T) none) (hcs : P ++ c1 :: T = (x + 9 + 1, g_hd) :: cs1) (hnodup : ((P ++ c1 :: T).map Prod.fst).Nodup) (hnb1 : ∀ y ∈ cs1, nb ≤ y.1)
    (hfold : (P ++ c1 :: T).map Prod.snd = es.foldl (fun gs e => ups e k v gs) (((x + 9 + 1, g_hd) :: cs).map Prod.snd)) (hes : ∀ e ∈ es, bef g_hd e k = true) (hfr : ∀ q, q < nb → q ≠ x + 9 + 1 → Mi q = M q) (hni : n ≤ ni) : gathd M n x nb (es.foldl (fun gs e => ups e k v gs) (cs.map Prod.snd)) none Mi ni := by
  rw [hcs] at hs hnodup hfold
  refine ⟨rfl, hni, cs1, ⟨by rw [hfr (x + 9) (by omega) (by omega)]; exact hg, hs⟩, ?_, (List.nodup_cons.mp hnodup).2, hnb1, hfr⟩
  have h1 : g_hd :: cs1.map Prod.snd = es.foldl (fun gs e => ups e k v gs) (g_hd :: cs.map Prod.snd) := hfold
  rw [fold_hd hes] at h1
  exact (List.cons.inj h1).2
end
section
set_option maxRecDepth 20000 in
theorem iwX4_gather_X4 : ∀ w ∈ u_ws RX4 TX4 16, w ∈ wsX4_gather := by decide +kernel
set_option maxRecDepth 20000 in
theorem lkX4_gather_22 : Cond.fieldLink RX4 22 (TX4 2).1 (TX4 2).2.1 (TX4 2).2.2.1 ∈ wsX4_gather := by decide +kernel
set_option maxRecDepth 20000 in
theorem lkX4_gather_33 : Cond.fieldLink RX4 33 (TX4 4).1 (TX4 4).2.1 (TX4 4).2.2.1 ∈ wsX4_gather := by decide +kernel
set_option maxRecDepth 20000 in
theorem ddX2_placeFrom : yX2_placeFrom.cls ≠ "java/lang/invoke/MethodHandle" ∧ yX2_placeFrom.cls ≠ "java/lang/invoke/VarHandle" ∧ (parseMethodDescriptor yX2_placeFrom.desc).map (fun d => d.parameters.length) = some 3 := by decide +kernel
set_option maxRecDepth 20000 in
theorem ddX1_gather : yX1_gather.cls ≠ "java/lang/invoke/MethodHandle" ∧ yX1_gather.cls ≠ "java/lang/invoke/VarHandle" ∧ (parseMethodDescriptor yX1_gather.desc).map (fun d => d.parameters.length) = some 1 := by decide +kernel
set_option maxRecDepth 20000 in
theorem lkX4_gather_37 : Cond.fieldLink RX4 37 (TX4 5).1 (TX4 5).2.1 (TX4 5).2.2.1 ∈ wsX4_gather := by decide +kernel
set_option maxRecDepth 20000 in
theorem ddX2_head : yX2_head.cls ≠ "java/lang/invoke/MethodHandle" ∧ yX2_head.cls ≠ "java/lang/invoke/VarHandle" ∧ (parseMethodDescriptor yX2_head.desc).map (fun d => d.parameters.length) = some 0 := by decide +kernel
set_option maxRecDepth 20000 in
theorem ddX4_beginningAbove : yX4_beginningAbove.cls ≠ "java/lang/invoke/MethodHandle" ∧ yX4_beginningAbove.cls ≠ "java/lang/invoke/VarHandle" ∧ (parseMethodDescriptor yX4_beginningAbove.desc).map (fun d => d.parameters.length) = some 1 := by decide +kernel
end
section
set_option maxHeartbeats 800000 in
set_option maxRecDepth 100000 in
theorem c_X4_gather (l : Launch) (D : va_G) {ty : jT} {cA : ClassId} (hI : ty[0]? = some (cA, .int)) (b0 : Nat) {M : jM} {n x : Nat} {w sl la sp rm ln mA mB lt pr tl tk : Int32} (hx : M x = some (sqO x w sl la sp rm ln mA mB lt pr tl tk)) {nb : Nat} {cs : List Nd} (hG : GrAt M (x + 9) cs) (hnd : (cs.map Prod.fst).Nodup) (hnb : ∀ z ∈ cs, nb ≤ z.1) (hxn : x + 13 ≤ nb) (hnn : nb ≤ n) (t k v : Int32) (ht : t.toInt ≤ 1000000000) (hB : okB w sl ((fd (t - w) sl + 1) * sl)) : Ct l D ty vwCl nwSQ b0 yX4_gather wsX4_gather 3 70 16 96 [.ref x, .int t, .int k, .int v] M n (gathd M n x nb ((endsF t w sl 16 ((fd (t - w) sl + 1) * sl)).foldl (fun gs e => ups e k v gs) (cs.map Prod.snd))) := by
  have hx : M x = some (.inr (4, [.ref (x + 1), .ref (x + 5), .ref (x + 9), .ref (x + 11), .int w, .int sl, .int la, .int sp, .int rm, .int ln, .int mA, .int mB, .int lt, .int pr, .int tl, .int tk])) := hx
  refine j_start (cc := cX4_gather) (maxL := 7) (ret := none) (by decide) rfl [some (.ref x), some (.int t), some (.int k), some (.int v), none, none, none] (Nat.le_of_ble_eq_true rfl) rfl ?_
  intro p e s m below meth c X hlk hr hnm
  refine j_ltA (fun hltA => ?_)
  have loop : ∀ (z i : Nat) (b : Int32) (Mi : jM) (ni : Nat) (P : List Nd) (c1 : Nd) (T cs1 : List Nd), i + z = 16 → okB w sl b → Seg Mi (some (x + 9 + 1)) (P ++ c1 :: T) none → ((P ++ c1 :: T).map Prod.fst).Nodup → (∀ y ∈ P ++ c1 :: T, y.1 < ni) → P ++ c1 :: T = (x + 9 + 1, g_hd) :: cs1 → (∀ y ∈ cs1, nb ≤ y.1) → (b ≤ t → ∀ y ∈ P ++ [c1], bef y.2 (b + w) k = true) → (endsF t w sl z (b)).foldl (fun gs e => ups e k v gs) ((P ++ c1 :: T).map Prod.snd) = (endsF t w sl 16 ((fd (t - w) sl + 1) * sl)).foldl (fun gs e => ups e k v gs) (((x + 9 + 1, g_hd) :: cs).map Prod.snd) → n ≤ ni → (∀ q, q < nb → q ≠ x + 9 + 1 → Mi q = M q) → J p l e { frames := 3, cells := 16, slots := 96, locals := 70 } s m ([.ref x, .int t, .int k, .int v] : List Value).toArray below meth c D ty vwCl b0 (MQ below (j_Q D ty vwCl b0 (gathd M n x nb ((endsF t w sl 16 ((fd (t - w) sl + 1) * sl)).foldl (fun gs e => ups e k v gs) (cs.map Prod.snd)))) ([.ref x, .int t, .int k, .int v] : List Value).toArray s 16 96 (fun q => b0 ≤ q)) 7 Mi ni i (6 * i) 24 [some (.ref x), some (.int t), some (.int k), some (.int v), some (.ref c1.1), some (.int b), some (.int (nI i))] [] := by
    intro z
    induction z with
    | zero =>
      intro i b Mi ni P c1 T cs1 hz hb hs hnodup hlt hcs hnb1 hbef hfold hni hfr
      refine j_iload X dX4_gather_24 rfl ?_
      refine j_bipush X dX4_gather_26 (v := 16) (by decide) ?_
      refine j_icmp_ge X 77 dX4_gather_28 (by decide) (fun c1 => ?_) (fun c1 => ?_)
      · skip
        exact j_vret X hlk hr (by omega) (by omega) dX4_gather_77 (gathd_end hG.1 hxn hnn hs hcs hnodup hnb1 hfold (fun e he => endsF_hd ht hB e he) hfr hni)
      · skip
        exact absurd (show (16 : Int32) ≤ nI i from nI_le (a := 16) (by omega) (by omega)) c1
    | succ z ih =>
      intro i b Mi ni P c1 T cs1 hz hb hs hnodup hlt hcs hnb1 hbef hfold hni hfr
      have hxi : Mi x = some (.inr (4, [.ref (x + 1), .ref (x + 5), .ref (x + 9), .ref (x + 11), .int w, .int sl, .int la, .int sp, .int rm, .int ln, .int mA, .int mB, .int lt, .int pr, .int tl, .int tk])) := by rw [hfr x (by omega) (by omega)]; exact hx
      have hgi : Mi (x + 9) = some (.inr (2, [.ref (x + 9 + 1)])) := by rw [hfr (x + 9) (by omega) (by omega)]; exact hG.1
      obtain ⟨_, hsc⟩ := Seg.app.mp hs
      have hsc := hsc.2
      have hc1 := hsc.1
      subst hc1
      refine j_iload X dX4_gather_24 rfl ?_
      refine j_bipush X dX4_gather_26 (v := 16) (by decide) ?_
      refine j_icmp_ge X 77 dX4_gather_28 (by decide) (fun c2 => ?_) (fun c2 => ?_)
      · skip
        exact absurd c2 (show ¬ (16 : Int32) ≤ nI i from nI_ge (b := 16) (by omega) (by decide))
      · skip
        refine j_iload X dX4_gather_31 rfl ?_
        refine j_iload_n X 1 dX4_gather_33 rfl rfl ?_
        refine j_icmp_gt X 77 dX4_gather_34 (by decide) (fun c3 => ?_) (fun c3 => ?_)
        · skip
          exact j_vret X hlk hr (by omega) (by omega) dX4_gather_77 (gathd_end hG.1 hxn hnn hs hcs hnodup hnb1 (by rw [← hfold, endsF_F (Int32.not_le.mpr c3)]; rfl) (fun e he => endsF_hd ht hB e he) hfr hni)
        · skip
          have hbt : b ≤ t := Int32.not_lt.mp c3
          refine j_aload_n X 0 dX4_gather_37 rfl rfl ?_
          refine j_get X hxi rfl iwX4_gather_X4 2 (by decide) lkX4_gather_22 rfl dX4_gather_38 ?_
          refine j_aload X dX4_gather_41 rfl ?_
          refine j_iload X dX4_gather_43 rfl ?_
          refine j_aload_n X 0 dX4_gather_45 rfl rfl ?_
          refine j_get X hxi rfl iwX4_gather_X4 4 (by decide) lkX4_gather_33 rfl dX4_gather_46 ?_
          refine j_iadd X dX4_gather_49 ?_
          refine j_iload_n X 2 dX4_gather_50 rfl rfl ?_
          refine j_callV X nwSQ_ok (As := [.ref c1.1, .int (b + w), .int k]) (rest := []) hgi rfl rfl (c_X2_placeFrom l D hI b0 hgi (x0 := c1) (t0 := T) hsc (b + w) k) rfl gX4_gather_X2_placeFrom ⟨rfl, ddX2_placeFrom⟩ ⟨Nat.le_of_ble_eq_true rfl, Nat.le_of_ble_eq_true rfl⟩ (Nat.le_of_ble_eq_true rfl) rfl dX4_gather_51 ⟨(by show i + 1 ≤ 16; omega), (by show 6 * i + 6 ≤ 96; omega)⟩ (fun r4 M5 n6 hr7 => ?_)
          obtain ⟨P2, z1, R1, rfl, hs1, hnd1, hlt1, hn1, hn1b, hmem1, hf1, hbef1, hz1, hz2, ⟨h0, P3, hP3, T3, hT3⟩, hups⟩ := chain_place hs hnodup hlt hr7 (hbef hbt)
          have hin1 : ∀ q, q < nb → q ≠ x + 9 + 1 → M5 q = M q := fun q h1 h2 => (hf1 q (by omega) (fun y hy => (List.mem_cons.mp (hcs ▸ hy)).elim (fun h => by rw [h]; exact fun h3 => h2 h3.symm) (fun h => by have := hnb1 y h; omega))).trans (hfr q h1 h2)
          refine j_st (st := [.ref z1.1]) rfl ?_
          have hxj : M5 x = some (.inr (4, [.ref (x + 1), .ref (x + 5), .ref (x + 9), .ref (x + 11), .int w, .int sl, .int la, .int sp, .int rm, .int ln, .int mA, .int mB, .int lt, .int pr, .int tl, .int tk])) := by rw [hin1 x (by omega) (by omega)]; exact hx
          obtain ⟨nz, hz0⟩ := hs1.mem z1 (List.mem_append_right _ List.mem_cons_self)
          refine j_astore X dX4_gather_54 (by decide) rfl (L' := [some (.ref x), some (.int t), some (.int k), some (.int v), some (.ref z1.1), some (.int b), some (.int (nI i))]) rfl ?_
          refine j_aload X dX4_gather_56 rfl ?_
          refine j_iload_n X 3 dX4_gather_58 rfl rfl ?_
          refine j_callV X nwSQ_ok (As := [.int v]) (rest := []) hz0 rfl rfl (c_X1_gather l D hI b0 hz0 v) rfl gX4_gather_X1_gather ⟨rfl, ddX1_gather⟩ ⟨Nat.le_of_ble_eq_true rfl, Nat.le_of_ble_eq_true rfl⟩ (Nat.le_of_ble_eq_true rfl) rfl dX4_gather_59 ⟨(by show i + 1 + 0 ≤ 16; omega), (by show 6 * i + 6 + 0 ≤ 96; omega)⟩ (fun r8 M9 n10 hr11 => ?_)
          obtain ⟨rfl, rfl, hz3, hf3⟩ := hr11
          refine j_st (st := []) rfl ?_
          have hs2 := Seg.upd hs1 hnd1 hz0 hz3 hf3
          have hzne : z1.1 ≠ x := fun h => by rw [h] at hz0; rw [hxj] at hz0; simp [gnode] at hz0
          have hxk : M9 x = some (.inr (4, [.ref (x + 1), .ref (x + 5), .ref (x + 9), .ref (x + 11), .int w, .int sl, .int la, .int sp, .int rm, .int ln, .int mA, .int mB, .int lt, .int pr, .int tl, .int tk])) := by rw [hf3 x (fun h => hzne h.symm)]; exact hxj
          refine j_iload X dX4_gather_62 rfl ?_
          refine j_aload_n X 0 dX4_gather_64 rfl rfl ?_
          refine j_get X hxk rfl iwX4_gather_X4 5 (by decide) lkX4_gather_37 rfl dX4_gather_65 ?_
          refine j_iadd X dX4_gather_68 ?_
          refine j_istore X dX4_gather_69 (by decide) rfl (L' := [some (.ref x), some (.int t), some (.int k), some (.int v), some (.ref z1.1), some (.int (b + sl)), some (.int (nI i))]) rfl ?_
          refine j_iinc X dX4_gather_71 rfl (v := nI (i + 1)) (nI_1 _) (by decide) rfl (L' := [some (.ref x), some (.int t), some (.int k), some (.int v), some (.ref z1.1), some (.int (b + sl)), some (.int (nI (i + 1)))]) rfl ?_
          refine j_goto X 24 dX4_gather_74 (by decide) ?_
          obtain ⟨hb2, hee⟩ := okB.step hb ht hbt
          have hmap : (P2 ++ (z1.1, gth z1.2 v) :: R1).map Prod.fst = (P2 ++ z1 :: R1).map Prod.fst := by simp
          rw [endsF_T hbt] at hfold
          have hh0 : h0 = (x + 9 + 1, g_hd) := by rw [hcs] at hT3; exact (List.cons.inj hT3).1.symm
          subst hP3; subst hh0
          have hz1b : ∀ y ∈ P3 ++ z1 :: R1, nb ≤ y.1 := fun y hy => by
              rcases hmem1 y (List.mem_cons_of_mem _ hy) with h | h
              · rw [hcs] at h
                rcases List.mem_cons.mp h with h | h
                · have hq : (((x + 9 + 1) :: (P3 ++ z1 :: R1).map Prod.fst)).Nodup := hnd1
                  exact absurd (List.mem_map_of_mem (f := Prod.fst) hy) (by rw [h]; exact (List.nodup_cons.mp hq).1)
                · exact hnb1 y h
              · omega
          refine ih (i + 1) (b + sl) M9 n6 ((x + 9 + 1, g_hd) :: P3) (z1.1, gth z1.2 v) R1 (P3 ++ (z1.1, gth z1.2 v) :: R1) (by omega) hb2 hs2 (by rw [hmap]; exact hnd1) (fun y hy => ?_) rfl (fun y hy => ?_) (fun _ y hy => ?_) ?_ (by omega) (fun q h1 h2 => ?_)
          · rcases List.mem_append.mp hy with h | h
            · exact hlt1 y (List.mem_append_left _ h)
            · rcases List.mem_cons.mp h with rfl | h
              · exact hlt1 z1 (List.mem_append_right _ List.mem_cons_self)
              · exact hlt1 y (List.mem_append_right _ (List.mem_cons_of_mem _ h))
          · rcases List.mem_append.mp hy with h | h
            · exact hz1b y (List.mem_append_left _ h)
            · rcases List.mem_cons.mp h with rfl | h
              · exact hz1b z1 (List.mem_append_right _ List.mem_cons_self)
              · exact hz1b y (List.mem_append_right _ (List.mem_cons_of_mem _ h))
          · rcases List.mem_append.mp hy with h | h
            · exact bef_mono (hbef1 y h) hee
            · have hy2 : y = (z1.1, gth z1.2 v) := by simpa using h
              rw [hy2]
              exact bef_lt (show z1.2.1 < _ by rw [hz1]; exact hee)
          · rw [← hfold, List.foldl_cons, hups v]
            simp
          · rw [hf3 q (fun h => ?_)]
            · exact hin1 q h1 h2
            · have := hz1b z1 (List.mem_append_right _ List.mem_cons_self)
              omega
  refine j_aload_n X 0 dX4_gather_0 rfl rfl ?_
  refine j_get X hx rfl iwX4_gather_X4 2 (by decide) lkX4_gather_22 rfl dX4_gather_1 ?_
  refine j_callV X nwSQ_ok (As := []) (rest := []) hG.1 rfl rfl (c_X2_head l D hI b0 hG) rfl gX4_gather_X2_head ⟨rfl, ddX2_head⟩ ⟨Nat.le_of_ble_eq_true rfl, Nat.le_of_ble_eq_true rfl⟩ (Nat.le_of_ble_eq_true rfl) rfl dX4_gather_4 ⟨(by show 0 + 0 ≤ 16; omega), (by show 0 + 0 ≤ 96; omega)⟩ (fun r12 M13 n14 hr15 => ?_)
  obtain ⟨rfl, rfl, rfl⟩ := hr15
  refine j_st (st := [.ref (x + 9 + 1)]) rfl ?_
  refine j_astore X dX4_gather_7 (by decide) rfl (L' := [some (.ref x), some (.int t), some (.int k), some (.int v), some (.ref (x + 9 + 1)), none, none]) rfl ?_
  refine j_aload_n X 0 dX4_gather_9 rfl rfl ?_
  refine j_iload_n X 1 dX4_gather_10 rfl rfl ?_
  refine j_aload_n X 0 dX4_gather_11 rfl rfl ?_
  refine j_get X hx rfl iwX4_gather_X4 4 (by decide) lkX4_gather_33 rfl dX4_gather_12 ?_
  refine j_isub X dX4_gather_15 ?_
  refine j_callV X nwSQ_ok (As := [.int (t - w)]) (rest := []) hx rfl rfl (c_X4_beginningAbove l D hI b0 hx (i_le.mpr (show (1 : Int) ≤ _ from hB.2.2.1)) (t - w)) rfl gX4_gather_X4_beginningAbove ⟨rfl, ddX4_beginningAbove⟩ ⟨Nat.le_of_ble_eq_true rfl, Nat.le_of_ble_eq_true rfl⟩ (Nat.le_of_ble_eq_true rfl) rfl dX4_gather_16 ⟨(by show 0 + 0 ≤ 16; omega), (by show 0 + 0 ≤ 96; omega)⟩ (fun r16 M17 n18 hr19 => ?_)
  obtain ⟨rfl, rfl, rfl⟩ := hr19
  refine j_st (st := [.int ((fd (t - w) sl + 1) * sl)]) rfl ?_
  refine j_istore X dX4_gather_19 (by decide) rfl (L' := [some (.ref x), some (.int t), some (.int k), some (.int v), some (.ref (x + 9 + 1)), some (.int ((fd (t - w) sl + 1) * sl)), none]) rfl ?_
  refine j_iconst X dX4_gather_21 (v := 0) (by decide) ?_
  refine j_istore X dX4_gather_22 (by decide) rfl (L' := [some (.ref x), some (.int t), some (.int k), some (.int v), some (.ref (x + 9 + 1)), some (.int ((fd (t - w) sl + 1) * sl)), some (.int 0)]) rfl ?_
  exact loop 16 0 _ M n [] (x + 9 + 1, g_hd) cs cs (by omega) hB hG.2 (List.nodup_cons.mpr ⟨fun h => by obtain ⟨y, hy, he⟩ := List.mem_map.mp h; have := hnb y hy; omega, hnd⟩) (fun y hy => by obtain ⟨nx, hq⟩ := hG.2.mem y hy; exact (hltA _ _ hq).2) rfl hnb (fun hbt y hy => by rw [show y = (x + 9 + 1, g_hd) from List.mem_singleton.mp hy]; exact okB.hd hB ht hbt) rfl (Nat.le_refl _) (fun _ _ _ => rfl)
end
section
/-! Lists. -/
theorem takeWhile_len {α : Type} (p : α → Bool) : ∀ l : List α, (l.takeWhile p).length ≤ l.length := by
  intro l
  induction l with
  | nil => exact Nat.le_refl _
  | cons a l ih =>
    rw [List.takeWhile_cons]
    by_cases h : p a = true
    · rw [if_pos h]; exact Nat.succ_le_succ ih
    · rw [if_neg h]; exact Nat.zero_le _
theorem drop_cons {α : Type} {l : List α} {i : Nat} {y : α} (h : l[i]? = some y) : l.drop i = y :: l.drop (i + 1) := by
  obtain ⟨h1, h2⟩ := List.getElem?_eq_some_iff.mp h
  rw [List.drop_eq_getElem_cons h1, h2]
theorem take_snoc {α : Type} {l : List α} {i : Nat} {y : α} (h : l[i]? = some y) : l.take (i + 1) = l.take i ++ [y] := by
  rw [List.take_add_one, h]
  rfl
theorem nodup_drop {cs : List Nd} {i : Nat} (h : (cs.map Prod.fst).Nodup) : ((cs.drop i).map Prod.fst).Nodup := by
  rw [List.map_drop]
  exact h.sublist (List.drop_sublist _ _)
end
section
set_option maxRecDepth 20000 in
theorem iwX4_dropEvents_X4 : ∀ w ∈ u_ws RX4 TX4 16, w ∈ wsX4_dropEvents := by decide +kernel
set_option maxRecDepth 20000 in
theorem lkX4_dropEvents_40 : Cond.fieldLink RX4 40 (TX4 6).1 (TX4 6).2.1 (TX4 6).2.2.1 ∈ wsX4_dropEvents := by decide +kernel
set_option maxRecDepth 20000 in
theorem lkX4_dropEvents_10 : Cond.fieldLink RX4 10 (TX4 0).1 (TX4 0).2.1 (TX4 0).2.2.1 ∈ wsX4_dropEvents := by decide +kernel
set_option maxRecDepth 20000 in
theorem lkX4_dropEvents_43 : Cond.fieldLink RX4 43 (TX4 7).1 (TX4 7).2.1 (TX4 7).2.2.1 ∈ wsX4_dropEvents := by decide +kernel
set_option maxRecDepth 20000 in
theorem lkX4_dropEvents_33 : Cond.fieldLink RX4 33 (TX4 4).1 (TX4 4).2.1 (TX4 4).2.2.1 ∈ wsX4_dropEvents := by decide +kernel
set_option maxRecDepth 20000 in
theorem wdX4_dropEvents_mmin0 : Cond.methodLink RX4 107 Lib.Math.min.name ∈ wsX4_dropEvents := by decide +kernel
set_option maxRecDepth 20000 in
theorem wdX4_dropEvents_mmin1 : Cond.static Lib.Math.min.name ∈ wsX4_dropEvents := by decide +kernel
set_option maxRecDepth 20000 in
theorem wdX4_dropEvents_mmin2 : Cond.initialized "java/lang/Math" ∈ wsX4_dropEvents := by decide +kernel
set_option maxRecDepth 20000 in
theorem wdX4_dropEvents_mmin3 : Cond.code Lib.Math.min.name Lib.Math.min.code 2 (some .int) ∈ wsX4_dropEvents := by decide +kernel
set_option maxRecDepth 20000 in
theorem ddX0_dropBelow : yX0_dropBelow.cls ≠ "java/lang/invoke/MethodHandle" ∧ yX0_dropBelow.cls ≠ "java/lang/invoke/VarHandle" ∧ (parseMethodDescriptor yX0_dropBelow.desc).map (fun d => d.parameters.length) = some 1 := by decide +kernel
set_option maxRecDepth 20000 in
theorem lkX4_dropEvents_16 : Cond.fieldLink RX4 16 (TX4 1).1 (TX4 1).2.1 (TX4 1).2.2.1 ∈ wsX4_dropEvents := by decide +kernel
set_option maxRecDepth 20000 in
theorem iwX4_tellWindows_X4 : ∀ w ∈ u_ws RX4 TX4 16, w ∈ wsX4_tellWindows := by decide +kernel
set_option maxRecDepth 20000 in
theorem lkX4_tellWindows_40 : Cond.fieldLink RX4 40 (TX4 6).1 (TX4 6).2.1 (TX4 6).2.2.1 ∈ wsX4_tellWindows := by decide +kernel
set_option maxRecDepth 20000 in
theorem lkX4_tellWindows_22 : Cond.fieldLink RX4 22 (TX4 2).1 (TX4 2).2.1 (TX4 2).2.2.1 ∈ wsX4_tellWindows := by decide +kernel
set_option maxRecDepth 20000 in
theorem ddX2_manyUpTo : yX2_manyUpTo.cls ≠ "java/lang/invoke/MethodHandle" ∧ yX2_manyUpTo.cls ≠ "java/lang/invoke/VarHandle" ∧ (parseMethodDescriptor yX2_manyUpTo.desc).map (fun d => d.parameters.length) = some 1 := by decide +kernel
set_option maxRecDepth 20000 in
theorem lkX4_tellWindows_29 : Cond.fieldLink RX4 29 (TX4 3).1 (TX4 3).2.1 (TX4 3).2.2.1 ∈ wsX4_tellWindows := by decide +kernel
set_option maxRecDepth 20000 in
theorem lkX4_tellWindows_49 : Cond.fieldLink RX4 49 (TX4 9).1 (TX4 9).2.1 (TX4 9).2.2.1 ∈ wsX4_tellWindows := by decide +kernel
set_option maxRecDepth 20000 in
theorem lkX4_tellWindows_156 : Cond.fieldLink RX4 156 (TX4 14).1 (TX4 14).2.1 (TX4 14).2.2.1 ∈ wsX4_tellWindows := by decide +kernel
set_option maxRecDepth 20000 in
theorem ddX2_takeFirst : yX2_takeFirst.cls ≠ "java/lang/invoke/MethodHandle" ∧ yX2_takeFirst.cls ≠ "java/lang/invoke/VarHandle" ∧ (parseMethodDescriptor yX2_takeFirst.desc).map (fun d => d.parameters.length) = some 0 := by decide +kernel
set_option maxRecDepth 20000 in
theorem iwX4_tellWindows_X1 : ∀ w ∈ u_ws RX1 TX1 6, w ∈ wsX4_tellWindows := by decide +kernel
set_option maxRecDepth 20000 in
theorem lkX4_tellWindows_203 : Cond.fieldLinkNest RX4 203 (TX1 0).1 (TX1 0).2.1 (TX1 0).2.2.1 "StreamQuery" ∈ nwSQ := by decide +kernel
set_option maxRecDepth 20000 in
theorem lkX4_tellWindows_206 : Cond.fieldLinkNest RX4 206 (TX1 1).1 (TX1 1).2.1 (TX1 1).2.2.1 "StreamQuery" ∈ nwSQ := by decide +kernel
set_option maxRecDepth 20000 in
theorem lkX4_tellWindows_130 : Cond.fieldLinkNest RX4 130 (TX1 2).1 (TX1 2).2.1 (TX1 2).2.2.1 "StreamQuery" ∈ nwSQ := by decide +kernel
set_option maxRecDepth 20000 in
theorem lkX4_tellWindows_135 : Cond.fieldLinkNest RX4 135 (TX1 3).1 (TX1 3).2.1 (TX1 3).2.2.1 "StreamQuery" ∈ nwSQ := by decide +kernel
set_option maxRecDepth 20000 in
theorem lkX4_tellWindows_138 : Cond.fieldLinkNest RX4 138 (TX1 4).1 (TX1 4).2.1 (TX1 4).2.2.1 "StreamQuery" ∈ nwSQ := by decide +kernel
set_option maxRecDepth 20000 in
theorem ddX3_add : yX3_add.cls ≠ "java/lang/invoke/MethodHandle" ∧ yX3_add.cls ≠ "java/lang/invoke/VarHandle" ∧ (parseMethodDescriptor yX3_add.desc).map (fun d => d.parameters.length) = some 6 := by decide +kernel
end
section
set_option maxHeartbeats 800000 in
set_option maxRecDepth 100000 in
theorem c_X4_dropEvents (l : Launch) (D : va_G) {ty : jT} {cA : ClassId} (hI : ty[0]? = some (cA, .int)) (b0 : Nat) {M : jM} {n x nb : Nat} {w sl la sp rm ln mA mB lt pr tl tk : Int32} {A B : List Ev} {cs : List Nd} {qu : List Rec} (h : SQ M x nb w sl la sp rm ln mA mB lt pr tl tk A B cs qu) (hsl : 1 ≤ sl) : Ct l D ty vwCl nwSQ b0 yX4_dropEvents wsX4_dropEvents 2 46 0 0 [.ref x] M n (fun r M' n' => r = none ∧ n = n' ∧ SQ M' x nb w sl la sp rm ln mA mB lt pr tl tk (A.filter (fun e : Ev => decide (mn (mn mA mB - la - sp) ((fd (mn mA mB - la - w) sl + 1) * sl) ≤ e.1))) (B.filter (fun e : Ev => decide (mn mA mB - la - sp ≤ e.1))) cs qu ∧ ∀ q, (q < x ∨ x + 12 < q ∧ q < nb) → M' q = M q) := by
  obtain ⟨hx, hA, hB, hG, hQ, hnd, hnb, hxn⟩ := id h
  have hx : M x = some (.inr (4, [.ref (x + 1), .ref (x + 5), .ref (x + 9), .ref (x + 11), .int w, .int sl, .int la, .int sp, .int rm, .int ln, .int mA, .int mB, .int lt, .int pr, .int tl, .int tk])) := hx
  refine j_start (cc := cX4_dropEvents) (maxL := 2) (ret := none) (by decide) rfl [some (.ref x), none] (Nat.le_of_ble_eq_true rfl) rfl ?_
  intro p e s m below meth c X hlk hr hnm
  refine j_aload_n X 0 dX4_dropEvents_0 rfl rfl ?_
  refine j_callV X nwSQ_ok (As := []) (rest := []) hx rfl rfl (c_X4_mark l D hI b0 hx) rfl gX4_dropEvents_X4_mark ⟨rfl, ddX4_mark⟩ ⟨Nat.le_of_ble_eq_true rfl, Nat.le_of_ble_eq_true rfl⟩ (Nat.le_of_ble_eq_true rfl) rfl dX4_dropEvents_1 ⟨(by show 0 + 0 ≤ 0; omega), (by show 0 + 0 ≤ 0; omega)⟩ (fun r1 M2 n3 hr4 => ?_)
  obtain ⟨rfl, rfl, rfl⟩ := hr4
  refine j_st (st := [.int (mn mA mB)]) rfl ?_
  refine j_aload_n X 0 dX4_dropEvents_4 rfl rfl ?_
  refine j_get X hx rfl iwX4_dropEvents_X4 6 (by decide) lkX4_dropEvents_40 rfl dX4_dropEvents_5 ?_
  refine j_isub X dX4_dropEvents_8 ?_
  refine j_istore_n X 1 dX4_dropEvents_9 rfl (by decide) rfl (L' := [some (.ref x), some (.int ((mn mA mB) - la))]) rfl ?_
  refine j_aload_n X 0 dX4_dropEvents_10 rfl rfl ?_
  refine j_get X hx rfl iwX4_dropEvents_X4 0 (by decide) lkX4_dropEvents_10 rfl dX4_dropEvents_11 ?_
  refine j_iload_n X 1 dX4_dropEvents_14 rfl rfl ?_
  refine j_aload_n X 0 dX4_dropEvents_15 rfl rfl ?_
  refine j_get X hx rfl iwX4_dropEvents_X4 7 (by decide) lkX4_dropEvents_43 rfl dX4_dropEvents_16 ?_
  refine j_isub X dX4_dropEvents_19 ?_
  refine j_aload_n X 0 dX4_dropEvents_20 rfl rfl ?_
  refine j_iload_n X 1 dX4_dropEvents_21 rfl rfl ?_
  refine j_aload_n X 0 dX4_dropEvents_22 rfl rfl ?_
  refine j_get X hx rfl iwX4_dropEvents_X4 4 (by decide) lkX4_dropEvents_33 rfl dX4_dropEvents_23 ?_
  refine j_isub X dX4_dropEvents_26 ?_
  refine j_callV X nwSQ_ok (As := [.int (((mn mA mB) - la) - w)]) (rest := [.int (((mn mA mB) - la) - sp), .ref (x + 1)]) hx rfl rfl (c_X4_beginningAbove l D hI b0 hx hsl (((mn mA mB) - la) - w)) rfl gX4_dropEvents_X4_beginningAbove ⟨rfl, ddX4_beginningAbove⟩ ⟨Nat.le_of_ble_eq_true rfl, Nat.le_of_ble_eq_true rfl⟩ (Nat.le_of_ble_eq_true rfl) rfl dX4_dropEvents_27 ⟨(by show 0 + 0 ≤ 0; omega), (by show 0 + 0 ≤ 0; omega)⟩ (fun r5 M6 n7 hr8 => ?_)
  obtain ⟨rfl, rfl, rfl⟩ := hr8
  refine j_st (st := [.int ((fd (((mn mA mB) - la) - w) sl + 1) * sl), .int (((mn mA mB) - la) - sp), .ref (x + 1)]) rfl ?_
  refine j_min X wdX4_dropEvents_mmin0 wdX4_dropEvents_mmin1 wdX4_dropEvents_mmin2 wdX4_dropEvents_mmin3 (Nat.le_of_ble_eq_true rfl) (Nat.le_of_ble_eq_true rfl) (by omega) (by omega) dX4_dropEvents_30 ?_
  refine j_st (st := [.int (mn (((mn mA mB) - la) - sp) ((fd (((mn mA mB) - la) - w) sl + 1) * sl)), .ref (x + 1)]) rfl ?_
  refine j_callV X nwSQ_ok (As := [.int (mn (((mn mA mB) - la) - sp) ((fd (((mn mA mB) - la) - w) sl + 1) * sl))]) (rest := []) hA.cell rfl rfl (c_X0_dropBelow l D hI b0 hA (mn (((mn mA mB) - la) - sp) ((fd (((mn mA mB) - la) - w) sl + 1) * sl))) rfl gX4_dropEvents_X0_dropBelow ⟨rfl, ddX0_dropBelow⟩ ⟨Nat.le_of_ble_eq_true rfl, Nat.le_of_ble_eq_true rfl⟩ (Nat.le_of_ble_eq_true rfl) rfl dX4_dropEvents_33 ⟨(by show 0 + 0 ≤ 0; omega), (by show 0 + 0 ≤ 0; omega)⟩ (fun r9 M10 n11 hr12 => ?_)
  obtain ⟨rfl, rfl, hp13, hf14⟩ := hr12
  refine j_st (st := []) rfl ?_
  have hp15 : EvAt M10 (x + 5) B := hB.frame (fun q h1 h2 => hf14 q (by omega))
  have hp16 : LnAt M10 (x + 11) qu := hQ.frame (fun q h1 h2 => hf14 q (by omega))
  have hp17 : GrAt M10 (x + 9) cs := hG.frame (fun q hq => hf14 q (by rcases hq with rfl | rfl | ⟨z, hz, rfl⟩ <;> first | omega | (have := hnb z hz; omega)))
  have h18 : M10 x = some (.inr (4, [.ref (x + 1), .ref (x + 5), .ref (x + 9), .ref (x + 11), .int w, .int sl, .int la, .int sp, .int rm, .int ln, .int mA, .int mB, .int lt, .int pr, .int tl, .int tk])) := by rw [hf14 x (by omega)]; exact hx
  refine j_aload_n X 0 dX4_dropEvents_36 rfl rfl ?_
  refine j_get X h18 rfl iwX4_dropEvents_X4 1 (by decide) lkX4_dropEvents_16 rfl dX4_dropEvents_37 ?_
  refine j_iload_n X 1 dX4_dropEvents_40 rfl rfl ?_
  refine j_aload_n X 0 dX4_dropEvents_41 rfl rfl ?_
  refine j_get X h18 rfl iwX4_dropEvents_X4 7 (by decide) lkX4_dropEvents_43 rfl dX4_dropEvents_42 ?_
  refine j_isub X dX4_dropEvents_45 ?_
  refine j_callV X nwSQ_ok (As := [.int (((mn mA mB) - la) - sp)]) (rest := []) hp15.cell rfl rfl (c_X0_dropBelow l D hI b0 hp15 (((mn mA mB) - la) - sp)) rfl gX4_dropEvents_X0_dropBelow ⟨rfl, ddX0_dropBelow⟩ ⟨Nat.le_of_ble_eq_true rfl, Nat.le_of_ble_eq_true rfl⟩ (Nat.le_of_ble_eq_true rfl) rfl dX4_dropEvents_46 ⟨(by show 0 + 0 ≤ 0; omega), (by show 0 + 0 ≤ 0; omega)⟩ (fun r19 M20 n21 hr22 => ?_)
  obtain ⟨rfl, rfl, hp23, hf24⟩ := hr22
  refine j_st (st := []) rfl ?_
  have hp25 : EvAt M20 (x + 1) (A.filter (fun e : Ev => decide ((mn (((mn mA mB) - la) - sp) ((fd (((mn mA mB) - la) - w) sl + 1) * sl)) ≤ e.1))) := hp13.frame (fun q h1 h2 => hf24 q (by omega))
  have hp26 : LnAt M20 (x + 11) qu := hp16.frame (fun q h1 h2 => hf24 q (by omega))
  have hp27 : GrAt M20 (x + 9) cs := hp17.frame (fun q hq => hf24 q (by rcases hq with rfl | rfl | ⟨z, hz, rfl⟩ <;> first | omega | (have := hnb z hz; omega)))
  have h28 : M20 x = some (.inr (4, [.ref (x + 1), .ref (x + 5), .ref (x + 9), .ref (x + 11), .int w, .int sl, .int la, .int sp, .int rm, .int ln, .int mA, .int mB, .int lt, .int pr, .int tl, .int tk])) := by rw [hf24 x (by omega)]; exact h18
  exact j_vret X hlk hr (by omega) (by omega) dX4_dropEvents_49 ⟨rfl, rfl, ⟨h28, hp25, hp23, hp27, hp26, hnd, hnb, hxn⟩, fun q hq => by rw [hf24 _ (by omega), hf14 _ (by omega)]⟩
set_option maxHeartbeats 800000 in
set_option maxRecDepth 100000 in
theorem c_X4_tellF (l : Launch) (D : va_G) {ty : jT} {cA : ClassId} (hI : ty[0]? = some (cA, .int)) (b0 : Nat) {M : jM} {n x nb : Nat} {w sl la sp rm ln mA mB lt pr tl tk : Int32} {A B : List Ev} {cs : List Nd} {qu : List Rec} (h : SQ M x nb w sl la sp rm ln mA mB lt pr tl tk A B cs qu) (m1 : Int32) (hN : ¬ nI (qu.length + (cs.takeWhile (fun x : Nd => decide (x.2.1 ≤ m1 - la))).length) ≤ ln) : Ct l D ty vwCl nwSQ b0 yX4_tellWindows wsX4_tellWindows 2 48 0 0 [.ref x, .int m1] M n (j_rd (.int (-3)) M n) := by
  obtain ⟨hx, hA, hB, hG, hQ, hnd, hnb, hxn⟩ := id h
  have hx : M x = some (.inr (4, [.ref (x + 1), .ref (x + 5), .ref (x + 9), .ref (x + 11), .int w, .int sl, .int la, .int sp, .int rm, .int ln, .int mA, .int mB, .int lt, .int pr, .int tl, .int tk])) := hx
  refine j_start (cc := cX4_tellWindows) (maxL := 7) (ret := (some .int)) (by decide) rfl [some (.ref x), some (.int m1), none, none, none, none, none] (Nat.le_of_ble_eq_true rfl) rfl ?_
  intro p e s m below meth c X hlk hr hnm
  refine j_iload_n X 1 dX4_tellWindows_0 rfl rfl ?_
  refine j_aload_n X 0 dX4_tellWindows_1 rfl rfl ?_
  refine j_get X hx rfl iwX4_tellWindows_X4 6 (by decide) lkX4_tellWindows_40 rfl dX4_tellWindows_2 ?_
  refine j_isub X dX4_tellWindows_5 ?_
  refine j_istore_n X 2 dX4_tellWindows_6 rfl (by decide) rfl (L' := [some (.ref x), some (.int m1), some (.int (m1 - la)), none, none, none, none]) rfl ?_
  refine j_aload_n X 0 dX4_tellWindows_7 rfl rfl ?_
  refine j_get X hx rfl iwX4_tellWindows_X4 2 (by decide) lkX4_tellWindows_22 rfl dX4_tellWindows_8 ?_
  refine j_iload_n X 2 dX4_tellWindows_11 rfl rfl ?_
  refine j_callV X nwSQ_ok (As := [.int (m1 - la)]) (rest := []) hG.1 rfl rfl (c_X2_manyUpTo l D hI b0 hG (m1 - la)) rfl gX4_tellWindows_X2_manyUpTo ⟨rfl, ddX2_manyUpTo⟩ ⟨Nat.le_of_ble_eq_true rfl, Nat.le_of_ble_eq_true rfl⟩ (Nat.le_of_ble_eq_true rfl) rfl dX4_tellWindows_12 ⟨(by show 0 + 0 ≤ 0; omega), (by show 0 + 0 ≤ 0; omega)⟩ (fun r29 M30 n31 hr32 => ?_)
  obtain ⟨rfl, rfl, rfl⟩ := hr32
  refine j_st (st := [.int (nI (cs.takeWhile (fun x : Nd => decide (x.2.1 ≤ m1 - la))).length)]) rfl ?_
  refine j_istore_n X 3 dX4_tellWindows_15 rfl (by decide) rfl (L' := [some (.ref x), some (.int m1), some (.int (m1 - la)), some (.int (nI (cs.takeWhile (fun x : Nd => decide (x.2.1 ≤ m1 - la))).length)), none, none, none]) rfl ?_
  refine j_aload_n X 0 dX4_tellWindows_16 rfl rfl ?_
  refine j_get X hx rfl iwX4_tellWindows_X4 3 (by decide) lkX4_tellWindows_29 rfl dX4_tellWindows_17 ?_
  obtain ⟨fi, hqc33⟩ := hQ.cell
  refine j_callV X nwSQ_ok (As := []) (rest := []) hqc33 rfl rfl (c_X3_size l D hI b0 hQ) rfl gX4_tellWindows_X3_size ⟨rfl, ddX3_size⟩ ⟨Nat.le_of_ble_eq_true rfl, Nat.le_of_ble_eq_true rfl⟩ (Nat.le_of_ble_eq_true rfl) rfl dX4_tellWindows_20 ⟨(by show 0 + 0 ≤ 0; omega), (by show 0 + 0 ≤ 0; omega)⟩ (fun r34 M35 n36 hr37 => ?_)
  obtain ⟨rfl, rfl, rfl⟩ := hr37
  refine j_st (st := [.int (nI qu.length)]) rfl ?_
  refine j_iload_n X 3 dX4_tellWindows_23 rfl rfl ?_
  refine j_iadd X dX4_tellWindows_24 ?_
  refine j_st (st := [.int (nI (qu.length + ((cs.takeWhile (fun x : Nd => decide (x.2.1 ≤ m1 - la))).length)))]) (by rw [show (nI qu.length) + (nI (cs.takeWhile (fun x : Nd => decide (x.2.1 ≤ m1 - la))).length) = nI (qu.length + ((cs.takeWhile (fun x : Nd => decide (x.2.1 ≤ m1 - la))).length)) from nI_add _ _]) ?_
  refine j_aload_n X 0 dX4_tellWindows_25 rfl rfl ?_
  refine j_get X hx rfl iwX4_tellWindows_X4 9 (by decide) lkX4_tellWindows_49 rfl dX4_tellWindows_26 ?_
  refine j_icmp_le X 35 dX4_tellWindows_29 (by decide) (fun c38 => ?_) (fun c38 => ?_)
  · skip
    exact absurd c38 hN
  · skip
    refine j_bipush X dX4_tellWindows_32 (v := (-3)) (by decide) ?_
    exact j_iret X hlk hr (by omega) (by omega) dX4_tellWindows_34 ⟨rfl, rfl, rfl⟩
set_option maxHeartbeats 800000 in
set_option maxRecDepth 100000 in
theorem c_X4_tellT (l : Launch) (D : va_G) {ty : jT} {cA : ClassId} (hI : ty[0]? = some (cA, .int)) (b0 : Nat) {M : jM} {n x nb : Nat} {w sl la sp rm ln mA mB lt pr tl tk : Int32} {A B : List Ev} {cs : List Nd} {qu : List Rec} (h : SQ M x nb w sl la sp rm ln mA mB lt pr tl tk A B cs qu) (m1 : Int32) (hN : nI (qu.length + (cs.takeWhile (fun x : Nd => decide (x.2.1 ≤ m1 - la))).length) ≤ ln) (hln : qu.length + (cs.takeWhile (fun x : Nd => decide (x.2.1 ≤ m1 - la))).length ≤ 400) : Ct l D ty vwCl nwSQ b0 yX4_tellWindows wsX4_tellWindows 2 48 0 0 [.ref x, .int m1] M n (fun r M' n' => r = some (.int (nI (wcn (m1 - la) (-2147483648) cs))) ∧ n = n' ∧ SQ M' x nb w sl la sp rm ln mA mB lt pr (tl + nI (cs.takeWhile (fun x : Nd => decide (x.2.1 ≤ m1 - la))).length) tk A B (cs.drop (cs.takeWhile (fun x : Nd => decide (x.2.1 ≤ m1 - la))).length) (qu ++ (cs.take (cs.takeWhile (fun x : Nd => decide (x.2.1 ≤ m1 - la))).length).map (fun y : Nd => ((1, y.2) : Rec))) ∧ ∀ q, (q < x ∨ x + 12 < q ∧ q < nb) → M' q = M q) := by
  obtain ⟨hx, hA, hB, hG, hQ, hnd, hnb, hxn⟩ := id h
  have hx : M x = some (.inr (4, [.ref (x + 1), .ref (x + 5), .ref (x + 9), .ref (x + 11), .int w, .int sl, .int la, .int sp, .int rm, .int ln, .int mA, .int mB, .int lt, .int pr, .int tl, .int tk])) := hx
  have hrl : (cs.takeWhile (fun x : Nd => decide (x.2.1 ≤ m1 - la))).length ≤ cs.length := takeWhile_len _ cs
  generalize hrr : (cs.takeWhile (fun x : Nd => decide (x.2.1 ≤ m1 - la))).length = rr at hN hln hrl ⊢
  refine j_start (cc := cX4_tellWindows) (maxL := 7) (ret := (some .int)) (by decide) rfl [some (.ref x), some (.int m1), none, none, none, none, none] (Nat.le_of_ble_eq_true rfl) rfl ?_
  intro p e s m below meth c X hlk hr hnm
  have loop : ∀ (z i : Nat) (Mi : jM) (v6 : Option Value), i + z = rr → GrAt Mi (x + 9) (cs.drop i) → LnAt Mi (x + 11) (qu ++ (cs.take i).map (fun y : Nd => ((1, y.2) : Rec))) → (∀ q, (q < x + 10 ∨ x + 12 < q) → Mi q = M q) → J p l e { frames := 2, cells := 0, slots := 0, locals := 48 } s m ([.ref x, .int m1] : List Value).toArray below meth c D ty vwCl b0 (MQ below (j_Q D ty vwCl b0 (fun r M' n' => r = some (.int (nI (wcn (m1 - la) (-2147483648) cs))) ∧ n = n' ∧ SQ M' x nb w sl la sp rm ln mA mB lt pr (tl + nI rr) tk A B (cs.drop rr) (qu ++ (cs.take rr).map (fun y : Nd => ((1, y.2) : Rec))) ∧ ∀ q, (q < x ∨ x + 12 < q ∧ q < nb) → M' q = M q)) ([.ref x, .int m1] : List Value).toArray s 0 0 (fun q => b0 ≤ q)) 7 Mi n 0 0 48 [some (.ref x), some (.int m1), some (.int (m1 - la)), some (.int (nI rr)), some (.int (nI (wcn (m1 - la) (-2147483648) cs))), some (.int (nI i)), v6] [] := by
    intro z
    induction z with
    | zero =>
      intro i Mi v6 hz hGi hQi hfr
      have hir : i = rr := by omega
      subst hir
      have hxi : Mi x = some (.inr (4, [.ref (x + 1), .ref (x + 5), .ref (x + 9), .ref (x + 11), .int w, .int sl, .int la, .int sp, .int rm, .int ln, .int mA, .int mB, .int lt, .int pr, .int tl, .int tk])) := by rw [hfr x (by omega)]; exact hx
      refine j_iload X dX4_tellWindows_48 rfl ?_
      refine j_iload_n X 3 dX4_tellWindows_50 rfl rfl ?_
      refine j_icmp_ge X 107 dX4_tellWindows_51 (by decide) (fun c39 => ?_) (fun c39 => ?_)
      · skip
        refine j_aload_n X 0 dX4_tellWindows_107 rfl rfl ?_
        refine j_dup X dX4_tellWindows_108 rfl ?_
        refine j_get X hxi rfl iwX4_tellWindows_X4 14 (by decide) lkX4_tellWindows_156 rfl dX4_tellWindows_109 ?_
        refine j_iload_n X 3 dX4_tellWindows_112 rfl rfl ?_
        refine j_iadd X dX4_tellWindows_113 ?_
        refine j_put X hxi rfl iwX4_tellWindows_X4 tyX4 tyX4_ok nmX4 14 (by decide) lkX4_tellWindows_156 rfl rfl rfl (Nat.le_of_ble_eq_true rfl) (fs' := [.ref (x + 1), .ref (x + 5), .ref (x + 9), .ref (x + 11), .int w, .int sl, .int la, .int sp, .int rm, .int ln, .int mA, .int mB, .int lt, .int pr, .int (tl + (nI i)), .int tk]) rfl dX4_tellWindows_114 ?_
        generalize eM40 : j_up Mi x (.inr (4, [.ref (x + 1), .ref (x + 5), .ref (x + 9), .ref (x + 11), .int w, .int sl, .int la, .int sp, .int rm, .int ln, .int mA, .int mB, .int lt, .int pr, .int (tl + (nI i)), .int tk])) = M40
        have h42 : M40 x = some (.inr (4, [.ref (x + 1), .ref (x + 5), .ref (x + 9), .ref (x + 11), .int w, .int sl, .int la, .int sp, .int rm, .int ln, .int mA, .int mB, .int lt, .int pr, .int (tl + (nI i)), .int tk])) := by rw [← eM40]; exact j_up_self _ _ _
        have hp43 : EvAt M40 (x + 1) A := (hA.frame (fun q h1 h2 => hfr q (by omega))).frame (fun q h1 h2 => by rw [← eM40]; exact j_up_ne _ _ (by omega))
        have hp44 : EvAt M40 (x + 5) B := (hB.frame (fun q h1 h2 => hfr q (by omega))).frame (fun q h1 h2 => by rw [← eM40]; exact j_up_ne _ _ (by omega))
        have hp45 : GrAt M40 (x + 9) (cs.drop i) := hGi.frame (fun q hq => by rw [← eM40]; exact j_up_ne _ _ (by rcases hq with rfl | rfl | ⟨z, hz, rfl⟩ <;> first | omega | (have := (fun (z : Nd) hz => hnb z (List.mem_of_mem_drop hz)) z hz; omega)))
        have hp46 : LnAt M40 (x + 11) (qu ++ (cs.take i).map (fun y : Nd => ((1, y.2) : Rec))) := hQi.frame (fun q h1 h2 => by rw [← eM40]; exact j_up_ne _ _ (by omega))
        refine j_iload X dX4_tellWindows_117 rfl ?_
        exact j_iret X hlk hr (by omega) (by omega) dX4_tellWindows_119 ⟨rfl, rfl, ⟨h42, hp43, hp44, hp45, hp46, nodup_drop hnd, fun z hz => hnb z (List.mem_of_mem_drop hz), hxn⟩, fun q hq => by rw [← eM40, j_up_ne _ _ (by omega), hfr _ (by omega)]⟩
      · skip
        exact absurd (nI_le (Nat.le_refl i) (by omega)) c39
    | succ z ih =>
      intro i Mi v6 hz hGi hQi hfr
      have hxi : Mi x = some (.inr (4, [.ref (x + 1), .ref (x + 5), .ref (x + 9), .ref (x + 11), .int w, .int sl, .int la, .int sp, .int rm, .int ln, .int mA, .int mB, .int lt, .int pr, .int tl, .int tk])) := by rw [hfr x (by omega)]; exact hx
      obtain ⟨y, hy⟩ : ∃ y, cs[i]? = some y := ⟨_, List.getElem?_eq_getElem (show i < cs.length by omega)⟩
      have hdr : cs.drop i = y :: cs.drop (i + 1) := drop_cons hy
      have hym : y ∈ cs := List.mem_of_getElem? hy
      have hyb := hnb y hym
      rw [hdr] at hGi
      obtain ⟨ny, hyn⟩ := hGi.2.mem y (List.mem_cons_of_mem _ List.mem_cons_self)
      refine j_iload X dX4_tellWindows_48 rfl ?_
      refine j_iload_n X 3 dX4_tellWindows_50 rfl rfl ?_
      refine j_icmp_ge X 107 dX4_tellWindows_51 (by decide) (fun c47 => ?_) (fun c47 => ?_)
      · skip
        exact absurd c47 (nI_ge (show i < rr by omega) (by omega))
      · skip
        refine j_aload_n X 0 dX4_tellWindows_54 rfl rfl ?_
        refine j_get X hxi rfl iwX4_tellWindows_X4 2 (by decide) lkX4_tellWindows_22 rfl dX4_tellWindows_55 ?_
        refine j_callV X nwSQ_ok (As := []) (rest := []) hGi.1 rfl rfl (c_X2_takeC l D hI b0 hGi (by omega) (fun z hz => by have := hnb z (List.mem_of_mem_drop hz); omega) (by omega)) rfl gX4_tellWindows_X2_takeFirst ⟨rfl, ddX2_takeFirst⟩ ⟨Nat.le_of_ble_eq_true rfl, Nat.le_of_ble_eq_true rfl⟩ (Nat.le_of_ble_eq_true rfl) rfl dX4_tellWindows_58 ⟨(by show 0 + 0 ≤ 0; omega), (by show 0 + 0 ≤ 0; omega)⟩ (fun r48 M49 n50 hr51 => ?_)
        obtain ⟨rfl, rfl, hg2, hf2⟩ := hr51
        refine j_st (st := [.ref y.1]) rfl ?_
        have hyn2 : M49 y.1 = some (.inr (1, [.int y.2.1, .int y.2.2.1, .int y.2.2.2.1, .int y.2.2.2.2.1, .int y.2.2.2.2.2, va_rf ny])) := by rw [hf2 y.1 (by omega)]; exact hyn
        have hx2 : M49 x = some (.inr (4, [.ref (x + 1), .ref (x + 5), .ref (x + 9), .ref (x + 11), .int w, .int sl, .int la, .int sp, .int rm, .int ln, .int mA, .int mB, .int lt, .int pr, .int tl, .int tk])) := by rw [hf2 x (by omega)]; exact hxi
        have hq2 := hQi.frame (M' := M49) (fun q h1 h2 => hf2 q (by omega))
        refine j_astore X dX4_tellWindows_61 (by decide) rfl (L' := [some (.ref x), some (.int m1), some (.int (m1 - la)), some (.int (nI rr)), some (.int (nI (wcn (m1 - la) (-2147483648) cs))), some (.int (nI i)), some (.ref y.1)]) rfl ?_
        refine j_aload X dX4_tellWindows_63 rfl ?_
        refine j_ifnullR X dX4_tellWindows_65 ?_
        refine j_aload_n X 0 dX4_tellWindows_68 rfl rfl ?_
        refine j_get X hx2 rfl iwX4_tellWindows_X4 3 (by decide) lkX4_tellWindows_29 rfl dX4_tellWindows_69 ?_
        refine j_iconst X dX4_tellWindows_72 (v := 1) (by decide) ?_
        refine j_aload X dX4_tellWindows_73 rfl ?_
        refine j_getN X hyn2 rfl iwX4_tellWindows_X1 0 (by decide) lkX4_tellWindows_203 rfl dX4_tellWindows_75 ?_
        refine j_aload X dX4_tellWindows_78 rfl ?_
        refine j_getN X hyn2 rfl iwX4_tellWindows_X1 1 (by decide) lkX4_tellWindows_206 rfl dX4_tellWindows_80 ?_
        refine j_aload X dX4_tellWindows_83 rfl ?_
        refine j_getN X hyn2 rfl iwX4_tellWindows_X1 2 (by decide) lkX4_tellWindows_130 rfl dX4_tellWindows_85 ?_
        refine j_aload X dX4_tellWindows_88 rfl ?_
        refine j_getN X hyn2 rfl iwX4_tellWindows_X1 3 (by decide) lkX4_tellWindows_135 rfl dX4_tellWindows_90 ?_
        refine j_aload X dX4_tellWindows_93 rfl ?_
        refine j_getN X hyn2 rfl iwX4_tellWindows_X1 4 (by decide) lkX4_tellWindows_138 rfl dX4_tellWindows_95 ?_
        obtain ⟨fi, hqc⟩ := hq2.cell
        refine j_callV X nwSQ_ok (As := [.int 1, .int y.2.1, .int y.2.2.1, .int y.2.2.2.1, .int y.2.2.2.2.1, .int y.2.2.2.2.2]) (rest := []) hqc rfl rfl (c_X3_add l D hI b0 hq2 (by rw [List.length_append, List.length_map, List.length_take]; omega) 1 y.2.1 y.2.2.1 y.2.2.2.1 y.2.2.2.2.1 y.2.2.2.2.2) rfl gX4_tellWindows_X3_add ⟨rfl, ddX3_add⟩ ⟨Nat.le_of_ble_eq_true rfl, Nat.le_of_ble_eq_true rfl⟩ (Nat.le_of_ble_eq_true rfl) rfl dX4_tellWindows_98 ⟨(by show 0 + 0 ≤ 0; omega), (by show 0 + 0 ≤ 0; omega)⟩ (fun r52 M53 n54 hr55 => ?_)
        obtain ⟨rfl, rfl, hq3, hf3⟩ := hr55
        refine j_st (st := []) rfl ?_
        have hg3 := hg2.frame (M' := M53) (fun q hq => hf3 q (by rcases hq with rfl | rfl | ⟨z, hz, rfl⟩ <;> first | omega | (have := hnb z (List.mem_of_mem_drop hz); omega)))
        refine j_iinc X dX4_tellWindows_101 rfl (v := nI (i + 1)) (nI_1 _) (by decide) rfl (L' := [some (.ref x), some (.int m1), some (.int (m1 - la)), some (.int (nI rr)), some (.int (nI (wcn (m1 - la) (-2147483648) cs))), some (.int (nI (i + 1))), some (.ref y.1)]) rfl ?_
        refine j_goto X 48 dX4_tellWindows_104 (by decide) ?_
        exact ih (i + 1) M53 _ (by omega) hg3 (by rw [take_snoc hy, List.map_append, ← List.append_assoc]; exact hq3) (fun q hq => by rw [hf3 q (by omega), hf2 q (by omega)]; exact hfr q hq)
  refine j_iload_n X 1 dX4_tellWindows_0 rfl rfl ?_
  refine j_aload_n X 0 dX4_tellWindows_1 rfl rfl ?_
  refine j_get X hx rfl iwX4_tellWindows_X4 6 (by decide) lkX4_tellWindows_40 rfl dX4_tellWindows_2 ?_
  refine j_isub X dX4_tellWindows_5 ?_
  refine j_istore_n X 2 dX4_tellWindows_6 rfl (by decide) rfl (L' := [some (.ref x), some (.int m1), some (.int (m1 - la)), none, none, none, none]) rfl ?_
  refine j_aload_n X 0 dX4_tellWindows_7 rfl rfl ?_
  refine j_get X hx rfl iwX4_tellWindows_X4 2 (by decide) lkX4_tellWindows_22 rfl dX4_tellWindows_8 ?_
  refine j_iload_n X 2 dX4_tellWindows_11 rfl rfl ?_
  refine j_callV X nwSQ_ok (As := [.int (m1 - la)]) (rest := []) hG.1 rfl rfl (c_X2_manyUpTo l D hI b0 hG (m1 - la)) rfl gX4_tellWindows_X2_manyUpTo ⟨rfl, ddX2_manyUpTo⟩ ⟨Nat.le_of_ble_eq_true rfl, Nat.le_of_ble_eq_true rfl⟩ (Nat.le_of_ble_eq_true rfl) rfl dX4_tellWindows_12 ⟨(by show 0 + 0 ≤ 0; omega), (by show 0 + 0 ≤ 0; omega)⟩ (fun r56 M57 n58 hr59 => ?_)
  obtain ⟨rfl, rfl, rfl⟩ := hr59
  refine j_st (st := [.int (nI rr)]) (by rw [hrr]; rfl) ?_
  refine j_istore_n X 3 dX4_tellWindows_15 rfl (by decide) rfl (L' := [some (.ref x), some (.int m1), some (.int (m1 - la)), some (.int (nI rr)), none, none, none]) rfl ?_
  refine j_aload_n X 0 dX4_tellWindows_16 rfl rfl ?_
  refine j_get X hx rfl iwX4_tellWindows_X4 3 (by decide) lkX4_tellWindows_29 rfl dX4_tellWindows_17 ?_
  obtain ⟨fi, hqc60⟩ := hQ.cell
  refine j_callV X nwSQ_ok (As := []) (rest := []) hqc60 rfl rfl (c_X3_size l D hI b0 hQ) rfl gX4_tellWindows_X3_size ⟨rfl, ddX3_size⟩ ⟨Nat.le_of_ble_eq_true rfl, Nat.le_of_ble_eq_true rfl⟩ (Nat.le_of_ble_eq_true rfl) rfl dX4_tellWindows_20 ⟨(by show 0 + 0 ≤ 0; omega), (by show 0 + 0 ≤ 0; omega)⟩ (fun r61 M62 n63 hr64 => ?_)
  obtain ⟨rfl, rfl, rfl⟩ := hr64
  refine j_st (st := [.int (nI qu.length)]) rfl ?_
  refine j_iload_n X 3 dX4_tellWindows_23 rfl rfl ?_
  refine j_iadd X dX4_tellWindows_24 ?_
  refine j_st (st := [.int (nI (qu.length + rr))]) (by rw [show (nI qu.length) + (nI rr) = nI (qu.length + rr) from nI_add _ _]) ?_
  refine j_aload_n X 0 dX4_tellWindows_25 rfl rfl ?_
  refine j_get X hx rfl iwX4_tellWindows_X4 9 (by decide) lkX4_tellWindows_49 rfl dX4_tellWindows_26 ?_
  refine j_icmp_le X 35 dX4_tellWindows_29 (by decide) (fun c65 => ?_) (fun c65 => ?_)
  · skip
    refine j_aload_n X 0 dX4_tellWindows_35 rfl rfl ?_
    refine j_get X hx rfl iwX4_tellWindows_X4 2 (by decide) lkX4_tellWindows_22 rfl dX4_tellWindows_36 ?_
    refine j_iload_n X 2 dX4_tellWindows_39 rfl rfl ?_
    refine j_callV X nwSQ_ok (As := [.int (m1 - la)]) (rest := []) hG.1 rfl rfl (c_X2_windowsUpTo l D hI b0 hG (m1 - la)) rfl gX4_tellWindows_X2_windowsUpTo ⟨rfl, ddX2_windowsUpTo⟩ ⟨Nat.le_of_ble_eq_true rfl, Nat.le_of_ble_eq_true rfl⟩ (Nat.le_of_ble_eq_true rfl) rfl dX4_tellWindows_40 ⟨(by show 0 + 0 ≤ 0; omega), (by show 0 + 0 ≤ 0; omega)⟩ (fun r66 M67 n68 hr69 => ?_)
    obtain ⟨rfl, rfl, rfl⟩ := hr69
    refine j_st (st := [.int (nI (wcn (m1 - la) (-2147483648) cs))]) rfl ?_
    refine j_istore X dX4_tellWindows_43 (by decide) rfl (L' := [some (.ref x), some (.int m1), some (.int (m1 - la)), some (.int (nI rr)), some (.int (nI (wcn (m1 - la) (-2147483648) cs))), none, none]) rfl ?_
    refine j_iconst X dX4_tellWindows_45 (v := 0) (by decide) ?_
    refine j_istore X dX4_tellWindows_46 (by decide) rfl (L' := [some (.ref x), some (.int m1), some (.int (m1 - la)), some (.int (nI rr)), some (.int (nI (wcn (m1 - la) (-2147483648) cs))), some (.int 0), none]) rfl ?_
    exact loop rr 0 M none (by omega) hG (by rw [List.take_zero, List.map_nil, List.append_nil]; exact hQ) (fun _ _ => rfl)
  · skip
    exact absurd hN c65
end
