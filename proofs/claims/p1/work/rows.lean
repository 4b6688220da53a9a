section
-- ===== PART A: goes FIRST, ahead of the names: the tables' words, and 'selects' of the private methods out of them =====
/-- a private method of a class that the tables say can be made, by its rows of tables_1 -/
def lw_okq (q : MethodName × Nat) : Prop := (q.1.cls ≠ "java/lang/invoke/MethodHandle" ∧ q.1.cls ≠ "java/lang/invoke/VarHandle") ∧ Cond.instantiable q.1.cls q.2 ∈ tables_1 ∧ Cond.privateMethod q.1 ∈ tables_1 ∧ Cond.instanceMethod q.1 ∈ tables_1
theorem lw_p0 : lw_okq (⟨"OilPush", "sheetAt", "(I)LOilPush$Sheet;"⟩, 15) := ⟨⟨by decide +kernel, by decide +kernel⟩, List.mem_of_getElem? (i := 18) (by decide +kernel), List.mem_of_getElem? (i := 407) (by decide +kernel), List.mem_of_getElem? (i := 408) (by decide +kernel)⟩
theorem lw_p1 : lw_okq (⟨"OilPush", "faulted", "(I)I"⟩, 15) := ⟨⟨by decide +kernel, by decide +kernel⟩, List.mem_of_getElem? (i := 18) (by decide +kernel), List.mem_of_getElem? (i := 418) (by decide +kernel), List.mem_of_getElem? (i := 419) (by decide +kernel)⟩
theorem lw_p2 : lw_okq (⟨"OilPush$Engine", "drain", "(LOilPush$Cylinder;LOilPush$State;[I)I"⟩, 13) := ⟨⟨by decide +kernel, by decide +kernel⟩, List.mem_of_getElem? (i := 118) (by decide +kernel), List.mem_of_getElem? (i := 534) (by decide +kernel), List.mem_of_getElem? (i := 535) (by decide +kernel)⟩
theorem lw_p3 : lw_okq (⟨"OilPush$Engine", "mostLost", "(LOilPush$Cylinder;LOilPush$State;I)I"⟩, 13) := ⟨⟨by decide +kernel, by decide +kernel⟩, List.mem_of_getElem? (i := 118) (by decide +kernel), List.mem_of_getElem? (i := 539) (by decide +kernel), List.mem_of_getElem? (i := 540) (by decide +kernel)⟩
theorem lw_p4 : lw_okq (⟨"OilPush$Engine", "lineUp", "(LOilPush$Plant;LOilPush$State;)V"⟩, 13) := ⟨⟨by decide +kernel, by decide +kernel⟩, List.mem_of_getElem? (i := 118) (by decide +kernel), List.mem_of_getElem? (i := 547) (by decide +kernel), List.mem_of_getElem? (i := 548) (by decide +kernel)⟩
theorem lw_p5 : lw_okq (⟨"OilPush$Engine", "queue", "(I)V"⟩, 13) := ⟨⟨by decide +kernel, by decide +kernel⟩, List.mem_of_getElem? (i := 118) (by decide +kernel), List.mem_of_getElem? (i := 553) (by decide +kernel), List.mem_of_getElem? (i := 554) (by decide +kernel)⟩
theorem lw_p6 : lw_okq (⟨"OilPush$Engine", "takeFromPump", "(ILOilPush$State;)I"⟩, 13) := ⟨⟨by decide +kernel, by decide +kernel⟩, List.mem_of_getElem? (i := 118) (by decide +kernel), List.mem_of_getElem? (i := 557) (by decide +kernel), List.mem_of_getElem? (i := 558) (by decide +kernel)⟩
theorem lw_p7 : lw_okq (⟨"OilPush$Engine", "give", "(IILOilPush$State;)V"⟩, 13) := ⟨⟨by decide +kernel, by decide +kernel⟩, List.mem_of_getElem? (i := 118) (by decide +kernel), List.mem_of_getElem? (i := 561) (by decide +kernel), List.mem_of_getElem? (i := 562) (by decide +kernel)⟩
theorem lw_p8 : lw_okq (⟨"OilPush$Engine", "addUp", "(LOilPush$Plant;I)V"⟩, 13) := ⟨⟨by decide +kernel, by decide +kernel⟩, List.mem_of_getElem? (i := 118) (by decide +kernel), List.mem_of_getElem? (i := 572) (by decide +kernel), List.mem_of_getElem? (i := 573) (by decide +kernel)⟩
theorem lw_p9 : lw_okq (⟨"OilPush$Engine", "takeFromStore", "(LOilPush$State;)V"⟩, 13) := ⟨⟨by decide +kernel, by decide +kernel⟩, List.mem_of_getElem? (i := 118) (by decide +kernel), List.mem_of_getElem? (i := 576) (by decide +kernel), List.mem_of_getElem? (i := 577) (by decide +kernel)⟩
theorem lw_p10 : lw_okq (⟨"OilPush", "wouldTellAll", "(II)Z"⟩, 15) := ⟨⟨by decide +kernel, by decide +kernel⟩, List.mem_of_getElem? (i := 18) (by decide +kernel), List.mem_of_getElem? (i := 648) (by decide +kernel), List.mem_of_getElem? (i := 649) (by decide +kernel)⟩
theorem lw_p11 : lw_okq (⟨"OilPushModel", "refused", "(I)I"⟩, 66) := ⟨⟨by decide +kernel, by decide +kernel⟩, List.mem_of_getElem? (i := 762) (by decide +kernel), List.mem_of_getElem? (i := 980) (by decide +kernel), List.mem_of_getElem? (i := 981) (by decide +kernel)⟩
theorem lw_p12 : lw_okq (⟨"OilPushModel", "failed", "(I)I"⟩, 66) := ⟨⟨by decide +kernel, by decide +kernel⟩, List.mem_of_getElem? (i := 762) (by decide +kernel), List.mem_of_getElem? (i := 985) (by decide +kernel), List.mem_of_getElem? (i := 986) (by decide +kernel)⟩
theorem lw_p13 : lw_okq (⟨"OilPushModel", "noCell", "(II)I"⟩, 66) := ⟨⟨by decide +kernel, by decide +kernel⟩, List.mem_of_getElem? (i := 762) (by decide +kernel), List.mem_of_getElem? (i := 997) (by decide +kernel), List.mem_of_getElem? (i := 998) (by decide +kernel)⟩
theorem lw_p14 : lw_okq (⟨"OilPushModel", "failedLong", "(I)J"⟩, 66) := ⟨⟨by decide +kernel, by decide +kernel⟩, List.mem_of_getElem? (i := 762) (by decide +kernel), List.mem_of_getElem? (i := 1009) (by decide +kernel), List.mem_of_getElem? (i := 1010) (by decide +kernel)⟩
theorem lw_p15 : lw_okq (⟨"OilPushModel", "noCylinder", "(I)Z"⟩, 66) := ⟨⟨by decide +kernel, by decide +kernel⟩, List.mem_of_getElem? (i := 762) (by decide +kernel), List.mem_of_getElem? (i := 1034) (by decide +kernel), List.mem_of_getElem? (i := 1035) (by decide +kernel)⟩
def lw_privs_1 : List (MethodName × Nat) := [(⟨"OilPush", "sheetAt", "(I)LOilPush$Sheet;"⟩, 15), (⟨"OilPush", "faulted", "(I)I"⟩, 15), (⟨"OilPush$Engine", "drain", "(LOilPush$Cylinder;LOilPush$State;[I)I"⟩, 13), (⟨"OilPush$Engine", "mostLost", "(LOilPush$Cylinder;LOilPush$State;I)I"⟩, 13), (⟨"OilPush$Engine", "lineUp", "(LOilPush$Plant;LOilPush$State;)V"⟩, 13), (⟨"OilPush$Engine", "queue", "(I)V"⟩, 13), (⟨"OilPush$Engine", "takeFromPump", "(ILOilPush$State;)I"⟩, 13), (⟨"OilPush$Engine", "give", "(IILOilPush$State;)V"⟩, 13), (⟨"OilPush$Engine", "addUp", "(LOilPush$Plant;I)V"⟩, 13), (⟨"OilPush$Engine", "takeFromStore", "(LOilPush$State;)V"⟩, 13), (⟨"OilPush", "wouldTellAll", "(II)Z"⟩, 15), (⟨"OilPushModel", "refused", "(I)I"⟩, 66), (⟨"OilPushModel", "failed", "(I)I"⟩, 66), (⟨"OilPushModel", "noCell", "(II)I"⟩, 66), (⟨"OilPushModel", "failedLong", "(I)J"⟩, 66), (⟨"OilPushModel", "noCylinder", "(I)Z"⟩, 66)]
theorem lw_r1 : ∀ q ∈ lw_privs_1, lw_okq q := List.forall_mem_cons.mpr ⟨lw_p0, List.forall_mem_cons.mpr ⟨lw_p1, List.forall_mem_cons.mpr ⟨lw_p2, List.forall_mem_cons.mpr ⟨lw_p3, List.forall_mem_cons.mpr ⟨lw_p4, List.forall_mem_cons.mpr ⟨lw_p5, List.forall_mem_cons.mpr ⟨lw_p6, List.forall_mem_cons.mpr ⟨lw_p7, List.forall_mem_cons.mpr ⟨lw_p8, List.forall_mem_cons.mpr ⟨lw_p9, List.forall_mem_cons.mpr ⟨lw_p10, List.forall_mem_cons.mpr ⟨lw_p11, List.forall_mem_cons.mpr ⟨lw_p12, List.forall_mem_cons.mpr ⟨lw_p13, List.forall_mem_cons.mpr ⟨lw_p14, List.forall_mem_cons.mpr ⟨lw_p15, fun _ h => absurd h List.not_mem_nil⟩⟩⟩⟩⟩⟩⟩⟩⟩⟩⟩⟩⟩⟩⟩⟩
theorem lw_p16 : lw_okq (⟨"OilPushModel", "room", "(I)I"⟩, 66) := ⟨⟨by decide +kernel, by decide +kernel⟩, List.mem_of_getElem? (i := 762) (by decide +kernel), List.mem_of_getElem? (i := 1053) (by decide +kernel), List.mem_of_getElem? (i := 1054) (by decide +kernel)⟩
theorem lw_p17 : lw_okq (⟨"OilPushModel", "loadOf", "(I)I"⟩, 66) := ⟨⟨by decide +kernel, by decide +kernel⟩, List.mem_of_getElem? (i := 762) (by decide +kernel), List.mem_of_getElem? (i := 1070) (by decide +kernel), List.mem_of_getElem? (i := 1071) (by decide +kernel)⟩
theorem lw_p18 : lw_okq (⟨"OilPushModel", "needOf", "(I)I"⟩, 66) := ⟨⟨by decide +kernel, by decide +kernel⟩, List.mem_of_getElem? (i := 762) (by decide +kernel), List.mem_of_getElem? (i := 1077) (by decide +kernel), List.mem_of_getElem? (i := 1078) (by decide +kernel)⟩
theorem lw_p19 : lw_okq (⟨"OilPushModel", "tickOnce", "()V"⟩, 66) := ⟨⟨by decide +kernel, by decide +kernel⟩, List.mem_of_getElem? (i := 762) (by decide +kernel), List.mem_of_getElem? (i := 1095) (by decide +kernel), List.mem_of_getElem? (i := 1096) (by decide +kernel)⟩
theorem lw_p20 : lw_okq (⟨"OilPushModel", "mayBeDone", "(I)Z"⟩, 66) := ⟨⟨by decide +kernel, by decide +kernel⟩, List.mem_of_getElem? (i := 762) (by decide +kernel), List.mem_of_getElem? (i := 1099) (by decide +kernel), List.mem_of_getElem? (i := 1100) (by decide +kernel)⟩
theorem lw_p21 : lw_okq (⟨"OilPushModel", "loseAll", "()V"⟩, 66) := ⟨⟨by decide +kernel, by decide +kernel⟩, List.mem_of_getElem? (i := 762) (by decide +kernel), List.mem_of_getElem? (i := 1103) (by decide +kernel), List.mem_of_getElem? (i := 1104) (by decide +kernel)⟩
theorem lw_p22 : lw_okq (⟨"OilPushModel", "loseFrom", "(II)V"⟩, 66) := ⟨⟨by decide +kernel, by decide +kernel⟩, List.mem_of_getElem? (i := 762) (by decide +kernel), List.mem_of_getElem? (i := 1107) (by decide +kernel), List.mem_of_getElem? (i := 1108) (by decide +kernel)⟩
theorem lw_p23 : lw_okq (⟨"OilPushModel", "findMoving", "()V"⟩, 66) := ⟨⟨by decide +kernel, by decide +kernel⟩, List.mem_of_getElem? (i := 762) (by decide +kernel), List.mem_of_getElem? (i := 1111) (by decide +kernel), List.mem_of_getElem? (i := 1112) (by decide +kernel)⟩
theorem lw_p24 : lw_okq (⟨"OilPushModel", "storePressure", "()I"⟩, 66) := ⟨⟨by decide +kernel, by decide +kernel⟩, List.mem_of_getElem? (i := 762) (by decide +kernel), List.mem_of_getElem? (i := 1115) (by decide +kernel), List.mem_of_getElem? (i := 1116) (by decide +kernel)⟩
theorem lw_p25 : lw_okq (⟨"OilPushModel", "lastReading", "()I"⟩, 66) := ⟨⟨by decide +kernel, by decide +kernel⟩, List.mem_of_getElem? (i := 762) (by decide +kernel), List.mem_of_getElem? (i := 1147) (by decide +kernel), List.mem_of_getElem? (i := 1148) (by decide +kernel)⟩
theorem lw_p26 : lw_okq (⟨"OilPushModel", "putAside", "()V"⟩, 66) := ⟨⟨by decide +kernel, by decide +kernel⟩, List.mem_of_getElem? (i := 762) (by decide +kernel), List.mem_of_getElem? (i := 1151) (by decide +kernel), List.mem_of_getElem? (i := 1152) (by decide +kernel)⟩
theorem lw_p27 : lw_okq (⟨"OilPushModel", "tellsAll", "(II)Z"⟩, 66) := ⟨⟨by decide +kernel, by decide +kernel⟩, List.mem_of_getElem? (i := 762) (by decide +kernel), List.mem_of_getElem? (i := 1155) (by decide +kernel), List.mem_of_getElem? (i := 1156) (by decide +kernel)⟩
theorem lw_p28 : lw_okq (⟨"OilPushModel", "tells", "(I)Z"⟩, 66) := ⟨⟨by decide +kernel, by decide +kernel⟩, List.mem_of_getElem? (i := 762) (by decide +kernel), List.mem_of_getElem? (i := 1159) (by decide +kernel), List.mem_of_getElem? (i := 1160) (by decide +kernel)⟩
theorem lw_p29 : lw_okq (⟨"OilPushModel", "putBack", "()V"⟩, 66) := ⟨⟨by decide +kernel, by decide +kernel⟩, List.mem_of_getElem? (i := 762) (by decide +kernel), List.mem_of_getElem? (i := 1163) (by decide +kernel), List.mem_of_getElem? (i := 1164) (by decide +kernel)⟩
theorem lw_p30 : lw_okq (⟨"OilPushModel", "traced", "(I)V"⟩, 66) := ⟨⟨by decide +kernel, by decide +kernel⟩, List.mem_of_getElem? (i := 762) (by decide +kernel), List.mem_of_getElem? (i := 1171) (by decide +kernel), List.mem_of_getElem? (i := 1172) (by decide +kernel)⟩
def lw_privs_2 : List (MethodName × Nat) := [(⟨"OilPushModel", "room", "(I)I"⟩, 66), (⟨"OilPushModel", "loadOf", "(I)I"⟩, 66), (⟨"OilPushModel", "needOf", "(I)I"⟩, 66), (⟨"OilPushModel", "tickOnce", "()V"⟩, 66), (⟨"OilPushModel", "mayBeDone", "(I)Z"⟩, 66), (⟨"OilPushModel", "loseAll", "()V"⟩, 66), (⟨"OilPushModel", "loseFrom", "(II)V"⟩, 66), (⟨"OilPushModel", "findMoving", "()V"⟩, 66), (⟨"OilPushModel", "storePressure", "()I"⟩, 66), (⟨"OilPushModel", "lastReading", "()I"⟩, 66), (⟨"OilPushModel", "putAside", "()V"⟩, 66), (⟨"OilPushModel", "tellsAll", "(II)Z"⟩, 66), (⟨"OilPushModel", "tells", "(I)Z"⟩, 66), (⟨"OilPushModel", "putBack", "()V"⟩, 66), (⟨"OilPushModel", "traced", "(I)V"⟩, 66)]
theorem lw_r2 : ∀ q ∈ lw_privs_2, lw_okq q := List.forall_mem_cons.mpr ⟨lw_p16, List.forall_mem_cons.mpr ⟨lw_p17, List.forall_mem_cons.mpr ⟨lw_p18, List.forall_mem_cons.mpr ⟨lw_p19, List.forall_mem_cons.mpr ⟨lw_p20, List.forall_mem_cons.mpr ⟨lw_p21, List.forall_mem_cons.mpr ⟨lw_p22, List.forall_mem_cons.mpr ⟨lw_p23, List.forall_mem_cons.mpr ⟨lw_p24, List.forall_mem_cons.mpr ⟨lw_p25, List.forall_mem_cons.mpr ⟨lw_p26, List.forall_mem_cons.mpr ⟨lw_p27, List.forall_mem_cons.mpr ⟨lw_p28, List.forall_mem_cons.mpr ⟨lw_p29, List.forall_mem_cons.mpr ⟨lw_p30, fun _ h => absurd h List.not_mem_nil⟩⟩⟩⟩⟩⟩⟩⟩⟩⟩⟩⟩⟩⟩⟩
def lw_privs : List (MethodName × Nat) := lw_privs_1 ++ (lw_privs_2)
def lw_tbl : List Cond := k2_sels lw_privs ++ tables_1
theorem lw_privs_ok : ∀ q ∈ lw_privs, lw_okq q := by
  show ∀ q ∈ lw_privs_1 ++ (lw_privs_2), lw_okq q
  exact List.forall_mem_append.mpr ⟨lw_r1, lw_r2⟩
end
section
/-! ===== BEGIN words of one list among another's, by their places ===== -/
theorem goodIn_r {big : List Cond} (ws : List Cond) (ps : List Nat) (hp : ws = ps.filterMap (fun i => big[i]?)) (h : ws.all goodWord = true) : GoodIn big ws := by
  intro w hw
  have h1 := List.all_eq_true.mp h w hw
  rw [hp] at hw
  obtain ⟨i, -, hi⟩ := List.mem_filterMap.mp hw
  have hm : w ∈ big := by first | exact List.mem_of_getElem? hi | exact List.getElem?_mem hi
  exact ⟨hm, good_of_word h1⟩
theorem goodIn_app {big a b : List Cond} (ha : GoodIn big a) (hb : GoodIn big b) : GoodIn big (a ++ b) := fun w h => (List.mem_append.mp h).elim (ha w) (hb w)
theorem goodIn_ca {big a b : List Cond} {c : Cond} (ha : GoodIn big (c :: a)) (hb : GoodIn big b) : GoodIn big (c :: (a ++ b)) := fun w h => (List.mem_cons.mp h).elim (fun e => ha w (List.mem_cons.mpr (Or.inl e))) (fun h => (List.mem_append.mp h).elim (fun h => ha w (List.mem_cons.mpr (Or.inr h))) (hb w))
theorem goodIn_sub {big ws : List Cond} (hm : ∀ w ∈ ws, w ∈ big) (h : ws.all goodWord = true) : GoodIn big ws := fun w hw => ⟨hm w hw, good_of_word (List.all_eq_true.mp h w hw)⟩
/-! ===== END ===== -/

/-! ===== BEGIN printed: names, fields, word lists, decode rows ===== -/
def RX0 : String := "OilPush$Cylinder"
def TX0 : u_T := fun k => match k with
  | 0 => ("OilPush$Cylinder", "number", "I", true)
  | 1 => ("OilPush$Cylinder", "area", "I", true)
  | 2 => ("OilPush$Cylinder", "stroke", "I", true)
  | 3 => ("OilPush$Cylinder", "loads", "[I", true)
  | 4 => ("OilPush$Cylinder", "loadCount", "I", false)
  | 5 => ("OilPush$Cylinder", "crack", "I", false)
  | _ => ("OilPush$Cylinder", "flow", "I", false)
def tyX0 : Nat → FieldType := fun k => match k with
  | 0 => .int
  | 1 => .int
  | 2 => .int
  | 3 => .array .int
  | 4 => .int
  | 5 => .int
  | _ => .int
abbrev wsX00 : List Cond := u_ws RX0 TX0 7
theorem nmX0 : ∀ a, a < 7 → ∀ b, b < 7 → a ≠ b → (TX0 a).2.1 ≠ (TX0 b).2.1 := by decide +kernel
theorem tyX0_ok : ∀ k, k < 7 → parseFieldDescriptor (TX0 k).2.2.1 = some (tyX0 k) := by decide +kernel
abbrev cX0_init : ByteArray := prog_2_method_1_code
def yX0_init : MethodName := ⟨RX0, "<init>", "(III)V"⟩
abbrev cX0_kind : ByteArray := prog_2_method_2_code
def yX0_kind : MethodName := ⟨RX0, "kind", "()I"⟩
abbrev cX0_room : ByteArray := prog_2_method_3_code
def yX0_room : MethodName := ⟨RX0, "room", "()I"⟩
abbrev cX0_loadAt : ByteArray := prog_2_method_4_code
def yX0_loadAt : MethodName := ⟨RX0, "loadAt", "(I)I"⟩
abbrev cX0_pushAgainst : ByteArray := prog_2_method_5_code
def yX0_pushAgainst : MethodName := ⟨RX0, "pushAgainst", "(I)I"⟩
abbrev cX0_needAt : ByteArray := prog_2_method_6_code
def yX0_needAt : MethodName := ⟨RX0, "needAt", "(I)I"⟩
abbrev cX0_isAt : ByteArray := prog_2_method_7_code
def yX0_isAt : MethodName := ⟨RX0, "isAt", "(II)Z"⟩
abbrev cX0_newCrack : ByteArray := prog_2_method_8_code
def yX0_newCrack : MethodName := ⟨RX0, "newCrack", "(I)I"⟩
abbrev cX0_newFlow : ByteArray := prog_2_method_9_code
def yX0_newFlow : MethodName := ⟨RX0, "newFlow", "(I)I"⟩
abbrev cX0_newLoads : ByteArray := prog_2_method_10_code
def yX0_newLoads : MethodName := ⟨RX0, "newLoads", "([III)V"⟩
abbrev cX0_toldBy : ByteArray := prog_2_method_11_code
def yX0_toldBy : MethodName := ⟨RX0, "toldBy", "(LOilPush$Trace;I)I"⟩
abbrev cX0_plainlyTold : ByteArray := prog_2_method_12_code
def yX0_plainlyTold : MethodName := ⟨RX0, "plainlyTold", "(LOilPush$Trace;I)I"⟩
abbrev cX0_seenBy : ByteArray := prog_2_method_13_code
def yX0_seenBy : MethodName := ⟨RX0, "seenBy", "(LOilPush$Trace;)I"⟩
def RX1 : String := "OilPush$Engine"
def TX1 : u_T := fun k => match k with
  | 0 => ("OilPush$Engine", "took", "[I", true)
  | 1 => ("OilPush$Engine", "line", "[I", true)
  | 2 => ("OilPush$Engine", "moving", "I", false)
  | 3 => ("OilPush$Engine", "need", "[I", true)
  | 4 => ("OilPush$Engine", "most", "[I", true)
  | 5 => ("OilPush$Engine", "taker", "[I", true)
  | 6 => ("OilPush$Engine", "takers", "I", false)
  | 7 => ("OilPush$Engine", "pressure", "I", false)
  | 8 => ("OilPush$Engine", "over", "I", false)
  | 9 => ("OilPush$Engine", "storeTook", "I", false)
  | 10 => ("OilPush$Engine", "heat", "J", false)
  | 11 => ("OilPush$Engine", "work", "J", false)
  | _ => ("OilPush$Engine", "given", "J", false)
def tyX1 : Nat → FieldType := fun k => match k with
  | 0 => .array .int
  | 1 => .array .int
  | 2 => .int
  | 3 => .array .int
  | 4 => .array .int
  | 5 => .array .int
  | 6 => .int
  | 7 => .int
  | 8 => .int
  | 9 => .int
  | 10 => .long
  | 11 => .long
  | _ => .long
abbrev wsX10 : List Cond := u_ws RX1 TX1 13
theorem nmX1 : ∀ a, a < 13 → ∀ b, b < 13 → a ≠ b → (TX1 a).2.1 ≠ (TX1 b).2.1 := by decide +kernel
theorem tyX1_ok : ∀ k, k < 13 → parseFieldDescriptor (TX1 k).2.2.1 = some (tyX1 k) := by decide +kernel
abbrev cX1_init : ByteArray := prog_3_method_1_code
def yX1_init : MethodName := ⟨RX1, "<init>", "()V"⟩
abbrev cX1_run : ByteArray := prog_3_method_2_code
def yX1_run : MethodName := ⟨RX1, "run", "(LOilPush$Plant;LOilPush$State;[I)V"⟩
abbrev cX1_drain : ByteArray := prog_3_method_3_code
def yX1_drain : MethodName := ⟨RX1, "drain", "(LOilPush$Cylinder;LOilPush$State;[I)I"⟩
abbrev cX1_mostLost : ByteArray := prog_3_method_4_code
def yX1_mostLost : MethodName := ⟨RX1, "mostLost", "(LOilPush$Cylinder;LOilPush$State;I)I"⟩
abbrev cX1_lineUp : ByteArray := prog_3_method_5_code
def yX1_lineUp : MethodName := ⟨RX1, "lineUp", "(LOilPush$Plant;LOilPush$State;)V"⟩
abbrev cX1_queue : ByteArray := prog_3_method_6_code
def yX1_queue : MethodName := ⟨RX1, "queue", "(I)V"⟩
abbrev cX1_takeFromPump : ByteArray := prog_3_method_7_code
def yX1_takeFromPump : MethodName := ⟨RX1, "takeFromPump", "(ILOilPush$State;)I"⟩
abbrev cX1_give : ByteArray := prog_3_method_8_code
def yX1_give : MethodName := ⟨RX1, "give", "(IILOilPush$State;)V"⟩
abbrev cX1_addUp : ByteArray := prog_3_method_9_code
def yX1_addUp : MethodName := ⟨RX1, "addUp", "(LOilPush$Plant;I)V"⟩
abbrev cX1_takeFromStore : ByteArray := prog_3_method_10_code
def yX1_takeFromStore : MethodName := ⟨RX1, "takeFromStore", "(LOilPush$State;)V"⟩
def RX2 : String := "OilPush$Held"
def TX2 : u_T := fun k => match k with
  | 0 => ("OilPush$Cylinder", "number", "I", true)
  | 1 => ("OilPush$Cylinder", "area", "I", true)
  | 2 => ("OilPush$Cylinder", "stroke", "I", true)
  | 3 => ("OilPush$Cylinder", "loads", "[I", true)
  | 4 => ("OilPush$Cylinder", "loadCount", "I", false)
  | 5 => ("OilPush$Cylinder", "crack", "I", false)
  | _ => ("OilPush$Cylinder", "flow", "I", false)
def tyX2 : Nat → FieldType := fun k => match k with
  | 0 => .int
  | 1 => .int
  | 2 => .int
  | 3 => .array .int
  | 4 => .int
  | 5 => .int
  | _ => .int
abbrev wsX20 : List Cond := u_ws RX2 TX2 7
theorem nmX2 : ∀ a, a < 7 → ∀ b, b < 7 → a ≠ b → (TX2 a).2.1 ≠ (TX2 b).2.1 := by decide +kernel
theorem tyX2_ok : ∀ k, k < 7 → parseFieldDescriptor (TX2 k).2.2.1 = some (tyX2 k) := by decide +kernel
abbrev cX2_init : ByteArray := prog_4_method_1_code
def yX2_init : MethodName := ⟨RX2, "<init>", "(III)V"⟩
abbrev cX2_kind : ByteArray := prog_4_method_2_code
def yX2_kind : MethodName := ⟨RX2, "kind", "()I"⟩
abbrev cX2_toldBy : ByteArray := prog_4_method_3_code
def yX2_toldBy : MethodName := ⟨RX2, "toldBy", "(LOilPush$Trace;I)I"⟩
def RX3 : String := "OilPush$Orders"
def TX3 : u_T := fun k => match k with
  | 0 => ("OilPush$Orders", "waitsFor", "[I", true)
  | 1 => ("OilPush$Orders", "end", "[I", true)
  | 2 => ("OilPush$Orders", "turned", "[I", true)
  | 3 => ("OilPush$Orders", "valve", "[I", true)
  | _ => ("OilPush$Orders", "count", "I", false)
def tyX3 : Nat → FieldType := fun k => match k with
  | 0 => .array .int
  | 1 => .array .int
  | 2 => .array .int
  | 3 => .array .int
  | _ => .int
abbrev wsX30 : List Cond := u_ws RX3 TX3 5
theorem nmX3 : ∀ a, a < 5 → ∀ b, b < 5 → a ≠ b → (TX3 a).2.1 ≠ (TX3 b).2.1 := by decide +kernel
theorem tyX3_ok : ∀ k, k < 5 → parseFieldDescriptor (TX3 k).2.2.1 = some (tyX3 k) := by decide +kernel
abbrev cX3_init : ByteArray := prog_5_method_1_code
def yX3_init : MethodName := ⟨RX3, "<init>", "()V"⟩
abbrev cX3_add : ByteArray := prog_5_method_2_code
def yX3_add : MethodName := ⟨RX3, "add", "(IIII)Z"⟩
abbrev cX3_obey : ByteArray := prog_5_method_3_code
def yX3_obey : MethodName := ⟨RX3, "obey", "(LOilPush$Plant;LOilPush$State;)V"⟩
def RX4 : String := "OilPush$Plant"
def TX4 : u_T := fun k => match k with
  | 0 => ("OilPush$Plant", "gives", "I", false)
  | 1 => ("OilPush$Plant", "limit", "I", false)
  | 2 => ("OilPush$Plant", "cylinders", "[LOilPush$Cylinder;", true)
  | 3 => ("OilPush$Plant", "count", "I", false)
  | _ => ("OilPush$Plant", "leaks", "[I", true)
def tyX4 : Nat → FieldType := fun k => match k with
  | 0 => .int
  | 1 => .int
  | 2 => .array (.object "OilPush$Cylinder")
  | 3 => .int
  | _ => .array .int
abbrev wsX40 : List Cond := u_ws RX4 TX4 5
theorem nmX4 : ∀ a, a < 5 → ∀ b, b < 5 → a ≠ b → (TX4 a).2.1 ≠ (TX4 b).2.1 := by decide +kernel
theorem tyX4_ok : ∀ k, k < 5 → parseFieldDescriptor (TX4 k).2.2.1 = some (tyX4 k) := by decide +kernel
abbrev cX4_init : ByteArray := prog_6_method_1_code
def yX4_init : MethodName := ⟨RX4, "<init>", "()V"⟩
abbrev cX4_at : ByteArray := prog_6_method_2_code
def yX4_at : MethodName := ⟨RX4, "at", "(I)LOilPush$Cylinder;"⟩
abbrev cX4_add : ByteArray := prog_6_method_3_code
def yX4_add : MethodName := ⟨RX4, "add", "(III)Z"⟩
abbrev cX4_isHeld : ByteArray := prog_6_method_4_code
def yX4_isHeld : MethodName := ⟨RX4, "isHeld", "(I)Z"⟩
abbrev cX4_howManyAt : ByteArray := prog_6_method_5_code
def yX4_howManyAt : MethodName := ⟨RX4, "howManyAt", "(ILOilPush$State;)I"⟩
def RX5 : String := "OilPush$Readings"
def TX5 : u_T := fun k => match k with
  | 0 => ("OilPush$Readings", "time", "[I", true)
  | 1 => ("OilPush$Readings", "of", "[I", true)
  | 2 => ("OilPush$Readings", "oil", "[I", true)
  | _ => ("OilPush$Readings", "count", "I", false)
def tyX5 : Nat → FieldType := fun k => match k with
  | 0 => .array .int
  | 1 => .array .int
  | 2 => .array .int
  | _ => .int
abbrev wsX50 : List Cond := u_ws RX5 TX5 4
theorem nmX5 : ∀ a, a < 4 → ∀ b, b < 4 → a ≠ b → (TX5 a).2.1 ≠ (TX5 b).2.1 := by decide +kernel
theorem tyX5_ok : ∀ k, k < 4 → parseFieldDescriptor (TX5 k).2.2.1 = some (tyX5 k) := by decide +kernel
abbrev cX5_init : ByteArray := prog_7_method_1_code
def yX5_init : MethodName := ⟨RX5, "<init>", "()V"⟩
abbrev cX5_add : ByteArray := prog_7_method_2_code
def yX5_add : MethodName := ⟨RX5, "add", "(III)Z"⟩
abbrev cX5_latest : ByteArray := prog_7_method_3_code
def yX5_latest : MethodName := ⟨RX5, "latest", "()I"⟩
abbrev cX5_areToldAt : ByteArray := prog_7_method_4_code
def yX5_areToldAt : MethodName := ⟨RX5, "areToldAt", "(ILOilPush$State;)Z"⟩
def RX6 : String := "OilPush$Sheet"
def TX6 : u_T := fun k => match k with
  | 0 => ("OilPush$Sheet", "cells", "[I", true)
  | 1 => ("OilPush$Sheet", "has", "Z", false)
  | 2 => ("OilPush$Sheet", "lane", "I", false)
  | _ => ("OilPush$Sheet", "length", "I", false)
def tyX6 : Nat → FieldType := fun k => match k with
  | 0 => .array .int
  | 1 => .boolean
  | 2 => .int
  | _ => .int
abbrev wsX60 : List Cond := u_ws RX6 TX6 4
theorem nmX6 : ∀ a, a < 4 → ∀ b, b < 4 → a ≠ b → (TX6 a).2.1 ≠ (TX6 b).2.1 := by decide +kernel
theorem tyX6_ok : ∀ k, k < 4 → parseFieldDescriptor (TX6 k).2.2.1 = some (tyX6 k) := by decide +kernel
abbrev cX6_init : ByteArray := prog_8_method_1_code
def yX6_init : MethodName := ⟨RX6, "<init>", "()V"⟩
abbrev cX6_renew : ByteArray := prog_8_method_2_code
def yX6_renew : MethodName := ⟨RX6, "renew", "(II)V"⟩
abbrev cX6_faultTakenAs : ByteArray := prog_8_method_3_code
def yX6_faultTakenAs : MethodName := ⟨RX6, "faultTakenAs", "(I)I"⟩
abbrev cX6_holds : ByteArray := prog_8_method_4_code
def yX6_holds : MethodName := ⟨RX6, "holds", "(II)Z"⟩
abbrev cX6_areAllWithin : ByteArray := prog_8_method_5_code
def yX6_areAllWithin : MethodName := ⟨RX6, "areAllWithin", "(III)Z"⟩
abbrev cX6_write : ByteArray := prog_8_method_6_code
def yX6_write : MethodName := ⟨RX6, "write", "(II)V"⟩
def RX7 : String := "OilPush$State"
def TX7 : u_T := fun k => match k with
  | 0 => ("OilPush$State", "oil", "[I", true)
  | 1 => ("OilPush$State", "valve", "[I", true)
  | 2 => ("OilPush$State", "burst", "[I", true)
  | 3 => ("OilPush$State", "store", "LOilPush$Store;", true)
  | _ => ("OilPush$State", "waits", "I", false)
def tyX7 : Nat → FieldType := fun k => match k with
  | 0 => .array .int
  | 1 => .array .int
  | 2 => .array .int
  | 3 => .object "OilPush$Store"
  | _ => .int
abbrev wsX70 : List Cond := u_ws RX7 TX7 5
theorem nmX7 : ∀ a, a < 5 → ∀ b, b < 5 → a ≠ b → (TX7 a).2.1 ≠ (TX7 b).2.1 := by decide +kernel
theorem tyX7_ok : ∀ k, k < 5 → parseFieldDescriptor (TX7 k).2.2.1 = some (tyX7 k) := by decide +kernel
abbrev cX7_init : ByteArray := prog_9_method_1_code
def yX7_init : MethodName := ⟨RX7, "<init>", "()V"⟩
abbrev cX7_become : ByteArray := prog_9_method_2_code
def yX7_become : MethodName := ⟨RX7, "become", "(LOilPush$State;)V"⟩
def RX8 : String := "OilPush$Store"
def TX8 : u_T := fun k => match k with
  | 0 => ("OilPush$Store", "cap", "I", false)
  | 1 => ("OilPush$Store", "first", "I", false)
  | 2 => ("OilPush$Store", "stiff", "I", false)
  | _ => ("OilPush$Store", "oil", "I", false)
def tyX8 : Nat → FieldType := fun k => match k with
  | 0 => .int
  | 1 => .int
  | 2 => .int
  | _ => .int
abbrev wsX80 : List Cond := u_ws RX8 TX8 4
theorem nmX8 : ∀ a, a < 4 → ∀ b, b < 4 → a ≠ b → (TX8 a).2.1 ≠ (TX8 b).2.1 := by decide +kernel
theorem tyX8_ok : ∀ k, k < 4 → parseFieldDescriptor (TX8 k).2.2.1 = some (tyX8 k) := by decide +kernel
abbrev cX8_init : ByteArray := prog_10_method_1_code
def yX8_init : MethodName := ⟨RX8, "<init>", "()V"⟩
abbrev cX8_pressure : ByteArray := prog_10_method_2_code
def yX8_pressure : MethodName := ⟨RX8, "pressure", "()I"⟩
abbrev cX8_become : ByteArray := prog_10_method_3_code
def yX8_become : MethodName := ⟨RX8, "become", "(LOilPush$Store;)V"⟩
def RX9 : String := "OilPush$Trace"
def TX9 : u_T := fun k => match k with
  | _ => ("OilPush$Trace", "value", "I", false)
def tyX9 : Nat → FieldType := fun k => match k with
  | _ => .int
abbrev wsX90 : List Cond := u_ws RX9 TX9 1
theorem nmX9 : ∀ a, a < 1 → ∀ b, b < 1 → a ≠ b → (TX9 a).2.1 ≠ (TX9 b).2.1 := by decide +kernel
theorem tyX9_ok : ∀ k, k < 1 → parseFieldDescriptor (TX9 k).2.2.1 = some (tyX9 k) := by decide +kernel
abbrev cX9_init : ByteArray := prog_11_method_1_code
def yX9_init : MethodName := ⟨RX9, "<init>", "()V"⟩
abbrev cX9_leave : ByteArray := prog_11_method_2_code
def yX9_leave : MethodName := ⟨RX9, "leave", "(I)V"⟩
def RX10 : String := "OilPush$Twin"
def TX10 : u_T := fun k => match k with
  | 0 => ("OilPush$Cylinder", "number", "I", true)
  | 1 => ("OilPush$Cylinder", "area", "I", true)
  | 2 => ("OilPush$Cylinder", "stroke", "I", true)
  | 3 => ("OilPush$Cylinder", "loads", "[I", true)
  | 4 => ("OilPush$Cylinder", "loadCount", "I", false)
  | 5 => ("OilPush$Cylinder", "crack", "I", false)
  | _ => ("OilPush$Cylinder", "flow", "I", false)
def tyX10 : Nat → FieldType := fun k => match k with
  | 0 => .int
  | 1 => .int
  | 2 => .int
  | 3 => .array .int
  | 4 => .int
  | 5 => .int
  | _ => .int
abbrev wsX100 : List Cond := u_ws RX10 TX10 7
theorem nmX10 : ∀ a, a < 7 → ∀ b, b < 7 → a ≠ b → (TX10 a).2.1 ≠ (TX10 b).2.1 := by decide +kernel
theorem tyX10_ok : ∀ k, k < 7 → parseFieldDescriptor (TX10 k).2.2.1 = some (tyX10 k) := by decide +kernel
abbrev cX10_init : ByteArray := prog_12_method_1_code
def yX10_init : MethodName := ⟨RX10, "<init>", "(III)V"⟩
abbrev cX10_kind : ByteArray := prog_12_method_2_code
def yX10_kind : MethodName := ⟨RX10, "kind", "()I"⟩
abbrev cX10_pushAgainst : ByteArray := prog_12_method_3_code
def yX10_pushAgainst : MethodName := ⟨RX10, "pushAgainst", "(I)I"⟩
abbrev cX10_toldBy : ByteArray := prog_12_method_4_code
def yX10_toldBy : MethodName := ⟨RX10, "toldBy", "(LOilPush$Trace;I)I"⟩
abbrev cX10_seenBy : ByteArray := prog_12_method_5_code
def yX10_seenBy : MethodName := ⟨RX10, "seenBy", "(LOilPush$Trace;)I"⟩
def RX11 : String := "OilPush"
def TX11 : u_T := fun k => match k with
  | 0 => ("OilPush", "plant", "LOilPush$Plant;", true)
  | 1 => ("OilPush", "now", "LOilPush$State;", true)
  | 2 => ("OilPush", "engine", "LOilPush$Engine;", true)
  | 3 => ("OilPush", "orders", "LOilPush$Orders;", true)
  | 4 => ("OilPush", "atStart", "LOilPush$State;", true)
  | 5 => ("OilPush", "tried", "LOilPush$State;", true)
  | 6 => ("OilPush", "trial", "LOilPush$Engine;", true)
  | 7 => ("OilPush", "triedLeaks", "[I", true)
  | 8 => ("OilPush", "readings", "LOilPush$Readings;", true)
  | 9 => ("OilPush", "sheets", "[LOilPush$Sheet;", true)
  | 10 => ("OilPush", "trace", "LOilPush$Trace;", true)
  | 11 => ("OilPush", "latestFault", "I", false)
  | 12 => ("OilPush", "started", "Z", false)
  | 13 => ("OilPush", "ticked", "Z", false)
  | _ => ("OilPush", "ticks", "I", false)
def tyX11 : Nat → FieldType := fun k => match k with
  | 0 => .object "OilPush$Plant"
  | 1 => .object "OilPush$State"
  | 2 => .object "OilPush$Engine"
  | 3 => .object "OilPush$Orders"
  | 4 => .object "OilPush$State"
  | 5 => .object "OilPush$State"
  | 6 => .object "OilPush$Engine"
  | 7 => .array .int
  | 8 => .object "OilPush$Readings"
  | 9 => .array (.object "OilPush$Sheet")
  | 10 => .object "OilPush$Trace"
  | 11 => .int
  | 12 => .boolean
  | 13 => .boolean
  | _ => .int
abbrev wsX110 : List Cond := u_ws RX11 TX11 15
theorem nmX11 : ∀ a, a < 15 → ∀ b, b < 15 → a ≠ b → (TX11 a).2.1 ≠ (TX11 b).2.1 := by decide +kernel
theorem tyX11_ok : ∀ k, k < 15 → parseFieldDescriptor (TX11 k).2.2.1 = some (tyX11 k) := by decide +kernel
abbrev cX11_init : ByteArray := prog_1_method_1_code
def yX11_init : MethodName := ⟨RX11, "<init>", "()V"⟩
abbrev cX11_pump : ByteArray := prog_1_method_2_code
def yX11_pump : MethodName := ⟨RX11, "pump", "(II)I"⟩
abbrev cX11_cylinder : ByteArray := prog_1_method_3_code
def yX11_cylinder : MethodName := ⟨RX11, "cylinder", "(III)I"⟩
abbrev cX11_rule : ByteArray := prog_1_method_4_code
def yX11_rule : MethodName := ⟨RX11, "rule", "(III)I"⟩
abbrev cX11_loads : ByteArray := prog_1_method_5_code
def yX11_loads : MethodName := ⟨RX11, "loads", "(IIIII)I"⟩
abbrev cX11_valve : ByteArray := prog_1_method_6_code
def yX11_valve : MethodName := ⟨RX11, "valve", "(II)I"⟩
abbrev cX11_fill : ByteArray := prog_1_method_7_code
def yX11_fill : MethodName := ⟨RX11, "fill", "(II)I"⟩
abbrev cX11_burst : ByteArray := prog_1_method_8_code
def yX11_burst : MethodName := ⟨RX11, "burst", "(IZ)I"⟩
abbrev cX11_store : ByteArray := prog_1_method_9_code
def yX11_store : MethodName := ⟨RX11, "store", "(III)I"⟩
abbrev cX11_about : ByteArray := prog_1_method_10_code
def yX11_about : MethodName := ⟨RX11, "about", "(II)I"⟩
abbrev cX11_tick : ByteArray := prog_1_method_11_code
def yX11_tick : MethodName := ⟨RX11, "tick", "(I)I"⟩
abbrev cX11_gauge : ByteArray := prog_1_method_12_code
def yX11_gauge : MethodName := ⟨RX11, "gauge", "(I)I"⟩
abbrev cX11_mover : ByteArray := prog_1_method_13_code
def yX11_mover : MethodName := ⟨RX11, "mover", "(I)I"⟩
abbrev cX11_sum : ByteArray := prog_1_method_14_code
def yX11_sum : MethodName := ⟨RX11, "sum", "(I)J"⟩
abbrev cX11_order : ByteArray := prog_1_method_15_code
def yX11_order : MethodName := ⟨RX11, "order", "(IIII)I"⟩
abbrev cX11_waits : ByteArray := prog_1_method_16_code
def yX11_waits : MethodName := ⟨RX11, "waits", "()I"⟩
abbrev cX11_start : ByteArray := prog_1_method_17_code
def yX11_start : MethodName := ⟨RX11, "start", "()I"⟩
abbrev cX11_reading : ByteArray := prog_1_method_18_code
def yX11_reading : MethodName := ⟨RX11, "reading", "(III)I"⟩
abbrev cX11_forget : ByteArray := prog_1_method_19_code
def yX11_forget : MethodName := ⟨RX11, "forget", "()I"⟩
abbrev cX11_leak : ByteArray := prog_1_method_20_code
def yX11_leak : MethodName := ⟨RX11, "leak", "(I)I"⟩
abbrev cX11_wouldTellAll : ByteArray := prog_1_method_21_code
def yX11_wouldTellAll : MethodName := ⟨RX11, "wouldTellAll", "(II)Z"⟩
abbrev cX11_sheet : ByteArray := prog_1_method_22_code
def yX11_sheet : MethodName := ⟨RX11, "sheet", "(III)I"⟩
abbrev cX11_lose : ByteArray := prog_1_method_23_code
def yX11_lose : MethodName := ⟨RX11, "lose", "(I)I"⟩
abbrev cX11_put : ByteArray := prog_1_method_24_code
def yX11_put : MethodName := ⟨RX11, "put", "(III)I"⟩
abbrev cX11_cell : ByteArray := prog_1_method_25_code
def yX11_cell : MethodName := ⟨RX11, "cell", "(III)J"⟩
abbrev cX11_copy : ByteArray := prog_1_method_26_code
def yX11_copy : MethodName := ⟨RX11, "copy", "(IIIII)I"⟩
abbrev cX11_tell : ByteArray := prog_1_method_27_code
def yX11_tell : MethodName := ⟨RX11, "tell", "(I)I"⟩
abbrev cX11_look : ByteArray := prog_1_method_28_code
def yX11_look : MethodName := ⟨RX11, "look", "(I)I"⟩
abbrev cX11_as : ByteArray := prog_1_method_29_code
def yX11_as : MethodName := ⟨RX11, "as", "(II)I"⟩
abbrev cX11_trace : ByteArray := prog_1_method_30_code
def yX11_trace : MethodName := ⟨RX11, "trace", "()I"⟩
abbrev cX11_fault : ByteArray := prog_1_method_31_code
def yX11_fault : MethodName := ⟨RX11, "fault", "()I"⟩
abbrev cX11_told : ByteArray := prog_1_method_32_code
def yX11_told : MethodName := ⟨RX11, "told", "(I)I"⟩
abbrev cX11_get : ByteArray := prog_1_method_33_code
def yX11_get : MethodName := ⟨RX11, "get", "([II)I"⟩
abbrev cX11_set : ByteArray := prog_1_method_34_code
def yX11_set : MethodName := ⟨RX11, "set", "([III)V"⟩
abbrev cX11_swap : ByteArray := prog_1_method_35_code
def yX11_swap : MethodName := ⟨RX11, "swap", "([III)I"⟩
abbrev cX11_within : ByteArray := prog_1_method_36_code
def yX11_within : MethodName := ⟨RX11, "within", "(III)Z"⟩
abbrev cX11_isLane : ByteArray := prog_1_method_37_code
def yX11_isLane : MethodName := ⟨RX11, "isLane", "(I)Z"⟩
abbrev cX11_sheetAt : ByteArray := prog_1_method_38_code
def yX11_sheetAt : MethodName := ⟨RX11, "sheetAt", "(I)LOilPush$Sheet;"⟩
abbrev cX11_faulted : ByteArray := prog_1_method_39_code
def yX11_faulted : MethodName := ⟨RX11, "faulted", "(I)I"⟩
def RX12 : String := "OilPushModel"
def TX12 : u_T := fun k => match k with
  | 0 => ("OilPushModel", "fault", "I", false)
  | 1 => ("OilPushModel", "sheetSize", "[I", true)
  | 2 => ("OilPushModel", "sheetLane", "[I", true)
  | 3 => ("OilPushModel", "sheet", "[I", true)
  | 4 => ("OilPushModel", "hands", "[I", true)
  | 5 => ("OilPushModel", "gives", "I", false)
  | 6 => ("OilPushModel", "limit", "I", false)
  | 7 => ("OilPushModel", "cylinders", "I", false)
  | 8 => ("OilPushModel", "kind", "[I", true)
  | 9 => ("OilPushModel", "area", "[I", true)
  | 10 => ("OilPushModel", "stroke", "[I", true)
  | 11 => ("OilPushModel", "oil", "[I", true)
  | 12 => ("OilPushModel", "loadMany", "[I", true)
  | 13 => ("OilPushModel", "load", "[I", true)
  | 14 => ("OilPushModel", "crack", "[I", true)
  | 15 => ("OilPushModel", "flow", "[I", true)
  | 16 => ("OilPushModel", "leaks", "[I", true)
  | 17 => ("OilPushModel", "valves", "[I", true)
  | 18 => ("OilPushModel", "isBurst", "[Z", true)
  | 19 => ("OilPushModel", "took", "[I", true)
  | 20 => ("OilPushModel", "cap", "I", false)
  | 21 => ("OilPushModel", "first", "I", false)
  | 22 => ("OilPushModel", "stiff", "I", false)
  | 23 => ("OilPushModel", "kept", "I", false)
  | 24 => ("OilPushModel", "orders", "I", false)
  | 25 => ("OilPushModel", "orderC", "[I", true)
  | 26 => ("OilPushModel", "orderEnd", "[I", true)
  | 27 => ("OilPushModel", "orderD", "[I", true)
  | 28 => ("OilPushModel", "orderV", "[I", true)
  | 29 => ("OilPushModel", "waiting", "I", false)
  | 30 => ("OilPushModel", "sinceStart", "I", false)
  | 31 => ("OilPushModel", "isTicked", "Z", false)
  | 32 => ("OilPushModel", "pressure", "I", false)
  | 33 => ("OilPushModel", "over", "I", false)
  | 34 => ("OilPushModel", "storeTook", "I", false)
  | 35 => ("OilPushModel", "movers", "I", false)
  | 36 => ("OilPushModel", "mover", "[I", true)
  | 37 => ("OilPushModel", "heat", "J", false)
  | 38 => ("OilPushModel", "work", "J", false)
  | 39 => ("OilPushModel", "given", "J", false)
  | 40 => ("OilPushModel", "moving", "I", false)
  | 41 => ("OilPushModel", "row", "[I", true)
  | 42 => ("OilPushModel", "need", "[I", true)
  | 43 => ("OilPushModel", "mayTake", "[I", true)
  | 44 => ("OilPushModel", "pumped", "[I", true)
  | 45 => ("OilPushModel", "isStarted", "Z", false)
  | 46 => ("OilPushModel", "startMany", "I", false)
  | 47 => ("OilPushModel", "startOil", "[I", true)
  | 48 => ("OilPushModel", "startValves", "[I", true)
  | 49 => ("OilPushModel", "startBurst", "[Z", true)
  | 50 => ("OilPushModel", "startKept", "I", false)
  | 51 => ("OilPushModel", "startWaiting", "I", false)
  | 52 => ("OilPushModel", "readings", "I", false)
  | 53 => ("OilPushModel", "readT", "[I", true)
  | 54 => ("OilPushModel", "readC", "[I", true)
  | 55 => ("OilPushModel", "readX", "[I", true)
  | 56 => ("OilPushModel", "asideOil", "[I", true)
  | 57 => ("OilPushModel", "asideValves", "[I", true)
  | 58 => ("OilPushModel", "asideLeaks", "[I", true)
  | 59 => ("OilPushModel", "asideTook", "[I", true)
  | 60 => ("OilPushModel", "asideMover", "[I", true)
  | 61 => ("OilPushModel", "asideBurst", "[Z", true)
  | 62 => ("OilPushModel", "asideNumbers", "[I", true)
  | 63 => ("OilPushModel", "asideSums", "[J", true)
  | 64 => ("OilPushModel", "asideTicked", "Z", false)
  | _ => ("OilPushModel", "trace", "I", false)
def tyX12 : Nat → FieldType := fun k => match k with
  | 0 => .int
  | 1 => .array .int
  | 2 => .array .int
  | 3 => .array .int
  | 4 => .array .int
  | 5 => .int
  | 6 => .int
  | 7 => .int
  | 8 => .array .int
  | 9 => .array .int
  | 10 => .array .int
  | 11 => .array .int
  | 12 => .array .int
  | 13 => .array .int
  | 14 => .array .int
  | 15 => .array .int
  | 16 => .array .int
  | 17 => .array .int
  | 18 => .array .boolean
  | 19 => .array .int
  | 20 => .int
  | 21 => .int
  | 22 => .int
  | 23 => .int
  | 24 => .int
  | 25 => .array .int
  | 26 => .array .int
  | 27 => .array .int
  | 28 => .array .int
  | 29 => .int
  | 30 => .int
  | 31 => .boolean
  | 32 => .int
  | 33 => .int
  | 34 => .int
  | 35 => .int
  | 36 => .array .int
  | 37 => .long
  | 38 => .long
  | 39 => .long
  | 40 => .int
  | 41 => .array .int
  | 42 => .array .int
  | 43 => .array .int
  | 44 => .array .int
  | 45 => .boolean
  | 46 => .int
  | 47 => .array .int
  | 48 => .array .int
  | 49 => .array .boolean
  | 50 => .int
  | 51 => .int
  | 52 => .int
  | 53 => .array .int
  | 54 => .array .int
  | 55 => .array .int
  | 56 => .array .int
  | 57 => .array .int
  | 58 => .array .int
  | 59 => .array .int
  | 60 => .array .int
  | 61 => .array .boolean
  | 62 => .array .int
  | 63 => .array .long
  | 64 => .boolean
  | _ => .int
abbrev wsX120 : List Cond := u_ws RX12 TX12 66
theorem nmX12 : ∀ a, a < 66 → ∀ b, b < 66 → a ≠ b → (TX12 a).2.1 ≠ (TX12 b).2.1 := by decide +kernel
theorem tyX12_ok : ∀ k, k < 66 → parseFieldDescriptor (TX12 k).2.2.1 = some (tyX12 k) := by decide +kernel
abbrev cX12_init : ByteArray := prog_14_method_1_code
def yX12_init : MethodName := ⟨RX12, "<init>", "()V"⟩
abbrev cX12_in : ByteArray := prog_14_method_2_code
def yX12_in : MethodName := ⟨RX12, "in", "(JJJ)Z"⟩
abbrev cX12_lost : ByteArray := prog_14_method_3_code
def yX12_lost : MethodName := ⟨RX12, "lost", "()J"⟩
abbrev cX12_refused : ByteArray := prog_14_method_4_code
def yX12_refused : MethodName := ⟨RX12, "refused", "(I)I"⟩
abbrev cX12_failed : ByteArray := prog_14_method_5_code
def yX12_failed : MethodName := ⟨RX12, "failed", "(I)I"⟩
abbrev cX12_failedLong : ByteArray := prog_14_method_6_code
def yX12_failedLong : MethodName := ⟨RX12, "failedLong", "(I)J"⟩
abbrev cX12_lesser : ByteArray := prog_14_method_7_code
def yX12_lesser : MethodName := ⟨RX12, "lesser", "(II)I"⟩
abbrev cX12_noSheet : ByteArray := prog_14_method_8_code
def yX12_noSheet : MethodName := ⟨RX12, "noSheet", "(I)Z"⟩
abbrev cX12_sheet : ByteArray := prog_14_method_9_code
def yX12_sheet : MethodName := ⟨RX12, "sheet", "(III)I"⟩
abbrev cX12_lose : ByteArray := prog_14_method_10_code
def yX12_lose : MethodName := ⟨RX12, "lose", "(I)I"⟩
abbrev cX12_noCell : ByteArray := prog_14_method_11_code
def yX12_noCell : MethodName := ⟨RX12, "noCell", "(II)I"⟩
abbrev cX12_put : ByteArray := prog_14_method_12_code
def yX12_put : MethodName := ⟨RX12, "put", "(III)I"⟩
abbrev cX12_cell : ByteArray := prog_14_method_13_code
def yX12_cell : MethodName := ⟨RX12, "cell", "(III)J"⟩
abbrev cX12_isBeyond : ByteArray := prog_14_method_14_code
def yX12_isBeyond : MethodName := ⟨RX12, "isBeyond", "(III)Z"⟩
abbrev cX12_copy : ByteArray := prog_14_method_15_code
def yX12_copy : MethodName := ⟨RX12, "copy", "(IIIII)I"⟩
abbrev cX12_noCylinder : ByteArray := prog_14_method_16_code
def yX12_noCylinder : MethodName := ⟨RX12, "noCylinder", "(I)Z"⟩
abbrev cX12_pump : ByteArray := prog_14_method_17_code
def yX12_pump : MethodName := ⟨RX12, "pump", "(II)I"⟩
abbrev cX12_cylinder : ByteArray := prog_14_method_18_code
def yX12_cylinder : MethodName := ⟨RX12, "cylinder", "(III)I"⟩
abbrev cX12_rule : ByteArray := prog_14_method_19_code
def yX12_rule : MethodName := ⟨RX12, "rule", "(III)I"⟩
abbrev cX12_loads : ByteArray := prog_14_method_20_code
def yX12_loads : MethodName := ⟨RX12, "loads", "(IIIII)I"⟩
abbrev cX12_valve : ByteArray := prog_14_method_21_code
def yX12_valve : MethodName := ⟨RX12, "valve", "(II)I"⟩
abbrev cX12_room : ByteArray := prog_14_method_22_code
def yX12_room : MethodName := ⟨RX12, "room", "(I)I"⟩
abbrev cX12_fill : ByteArray := prog_14_method_23_code
def yX12_fill : MethodName := ⟨RX12, "fill", "(II)I"⟩
abbrev cX12_burst : ByteArray := prog_14_method_24_code
def yX12_burst : MethodName := ⟨RX12, "burst", "(IZ)I"⟩
abbrev cX12_store : ByteArray := prog_14_method_25_code
def yX12_store : MethodName := ⟨RX12, "store", "(III)I"⟩
abbrev cX12_loadOf : ByteArray := prog_14_method_26_code
def yX12_loadOf : MethodName := ⟨RX12, "loadOf", "(I)I"⟩
abbrev cX12_needOf : ByteArray := prog_14_method_27_code
def yX12_needOf : MethodName := ⟨RX12, "needOf", "(I)I"⟩
abbrev cX12_storePressure : ByteArray := prog_14_method_28_code
def yX12_storePressure : MethodName := ⟨RX12, "storePressure", "()I"⟩
abbrev cX12_about : ByteArray := prog_14_method_29_code
def yX12_about : MethodName := ⟨RX12, "about", "(II)I"⟩
abbrev cX12_order : ByteArray := prog_14_method_30_code
def yX12_order : MethodName := ⟨RX12, "order", "(IIII)I"⟩
abbrev cX12_waits : ByteArray := prog_14_method_31_code
def yX12_waits : MethodName := ⟨RX12, "waits", "()I"⟩
abbrev cX12_mayBeDone : ByteArray := prog_14_method_32_code
def yX12_mayBeDone : MethodName := ⟨RX12, "mayBeDone", "(I)Z"⟩
abbrev cX12_loseFrom : ByteArray := prog_14_method_33_code
def yX12_loseFrom : MethodName := ⟨RX12, "loseFrom", "(II)V"⟩
abbrev cX12_loseAll : ByteArray := prog_14_method_34_code
def yX12_loseAll : MethodName := ⟨RX12, "loseAll", "()V"⟩
abbrev cX12_findMoving : ByteArray := prog_14_method_35_code
def yX12_findMoving : MethodName := ⟨RX12, "findMoving", "()V"⟩
abbrev cX12_tickOnce : ByteArray := prog_14_method_36_code
def yX12_tickOnce : MethodName := ⟨RX12, "tickOnce", "()V"⟩
abbrev cX12_tick : ByteArray := prog_14_method_37_code
def yX12_tick : MethodName := ⟨RX12, "tick", "(I)I"⟩
abbrev cX12_gauge : ByteArray := prog_14_method_38_code
def yX12_gauge : MethodName := ⟨RX12, "gauge", "(I)I"⟩
abbrev cX12_mover : ByteArray := prog_14_method_39_code
def yX12_mover : MethodName := ⟨RX12, "mover", "(I)I"⟩
abbrev cX12_sum : ByteArray := prog_14_method_40_code
def yX12_sum : MethodName := ⟨RX12, "sum", "(I)J"⟩
abbrev cX12_start : ByteArray := prog_14_method_41_code
def yX12_start : MethodName := ⟨RX12, "start", "()I"⟩
abbrev cX12_reading : ByteArray := prog_14_method_42_code
def yX12_reading : MethodName := ⟨RX12, "reading", "(III)I"⟩
abbrev cX12_forget : ByteArray := prog_14_method_43_code
def yX12_forget : MethodName := ⟨RX12, "forget", "()I"⟩
abbrev cX12_putAside : ByteArray := prog_14_method_44_code
def yX12_putAside : MethodName := ⟨RX12, "putAside", "()V"⟩
abbrev cX12_putBack : ByteArray := prog_14_method_45_code
def yX12_putBack : MethodName := ⟨RX12, "putBack", "()V"⟩
abbrev cX12_tells : ByteArray := prog_14_method_46_code
def yX12_tells : MethodName := ⟨RX12, "tells", "(I)Z"⟩
abbrev cX12_tellsAll : ByteArray := prog_14_method_47_code
def yX12_tellsAll : MethodName := ⟨RX12, "tellsAll", "(II)Z"⟩
abbrev cX12_lastReading : ByteArray := prog_14_method_48_code
def yX12_lastReading : MethodName := ⟨RX12, "lastReading", "()I"⟩
abbrev cX12_leak : ByteArray := prog_14_method_49_code
def yX12_leak : MethodName := ⟨RX12, "leak", "(I)I"⟩
abbrev cX12_traced : ByteArray := prog_14_method_50_code
def yX12_traced : MethodName := ⟨RX12, "traced", "(I)V"⟩
abbrev cX12_tell : ByteArray := prog_14_method_51_code
def yX12_tell : MethodName := ⟨RX12, "tell", "(I)I"⟩
abbrev cX12_look : ByteArray := prog_14_method_52_code
def yX12_look : MethodName := ⟨RX12, "look", "(I)I"⟩
abbrev cX12_as : ByteArray := prog_14_method_53_code
def yX12_as : MethodName := ⟨RX12, "as", "(II)I"⟩
abbrev cX12_trace : ByteArray := prog_14_method_54_code
def yX12_trace : MethodName := ⟨RX12, "trace", "()I"⟩
abbrev cX12_fault : ByteArray := prog_14_method_55_code
def yX12_fault : MethodName := ⟨RX12, "fault", "()I"⟩
abbrev cX12_told : ByteArray := prog_14_method_56_code
def yX12_told : MethodName := ⟨RX12, "told", "(I)I"⟩
def RJ9 : String := "java/lang/Math"
def TJ9 : u_T := fun k => match k with
  | _ => ("", "", "", false)
def tyJ9 : Nat → FieldType := fun k => match k with
  | _ => .int
abbrev wsJ90 : List Cond := u_ws RJ9 TJ9 0
theorem nmJ9 : ∀ a, a < 0 → ∀ b, b < 0 → a ≠ b → (TJ9 a).2.1 ≠ (TJ9 b).2.1 := by decide +kernel
theorem tyJ9_ok : ∀ k, k < 0 → parseFieldDescriptor (TJ9 k).2.2.1 = some (tyJ9 k) := by decide +kernel
abbrev cJ9_max_7cf53 : ByteArray := prog_15_method_65_code
def yJ9_max_7cf53 : MethodName := ⟨RJ9, "max", "(II)I"⟩
abbrev cJ9_min_7cf53 : ByteArray := prog_15_method_69_code
def yJ9_min_7cf53 : MethodName := ⟨RJ9, "min", "(II)I"⟩
def RJ10 : String := "java/lang/System"
def TJ10 : u_T := fun k => match k with
  | _ => ("", "", "", false)
def tyJ10 : Nat → FieldType := fun k => match k with
  | _ => .int
abbrev wsJ100 : List Cond := u_ws RJ10 TJ10 0
theorem nmJ10 : ∀ a, a < 0 → ∀ b, b < 0 → a ≠ b → (TJ10 a).2.1 ≠ (TJ10 b).2.1 := by decide +kernel
theorem tyJ10_ok : ∀ k, k < 0 → parseFieldDescriptor (TJ10 k).2.2.1 = some (tyJ10 k) := by decide +kernel
def RJ7 : String := "java/util/Arrays"
def TJ7 : u_T := fun k => match k with
  | _ => ("", "", "", false)
def tyJ7 : Nat → FieldType := fun k => match k with
  | _ => .int
abbrev wsJ70 : List Cond := u_ws RJ7 TJ7 0
theorem nmJ7 : ∀ a, a < 0 → ∀ b, b < 0 → a ≠ b → (TJ7 a).2.1 ≠ (TJ7 b).2.1 := by decide +kernel
theorem tyJ7_ok : ∀ k, k < 0 → parseFieldDescriptor (TJ7 k).2.2.1 = some (tyJ7 k) := by decide +kernel
abbrev cJ7_fill_53178 : ByteArray := prog_17_method_103_code
def yJ7_fill_53178 : MethodName := ⟨RJ7, "fill", "([II)V"⟩
def RL : String := "OilPushLaw"
abbrev cL_law : ByteArray := code
def yL_law : MethodName := ⟨RL, "law", "([I)Z"⟩
def wsX0_init : List Cond := .code yX0_init cX0_init 4 none :: ([.methodLink RX0 3 objectInit, .instanceMethod objectInit, .code objectInit ⟨#[0xb1]⟩ 1 none, .arrayClass .int, .fieldLink RX0 9 "OilPush$Cylinder" "loads" "[I", .fieldLink RX0 15 "OilPush$Cylinder" "loadCount" "I", .fieldLink RX0 19 "OilPush$Cylinder" "flow" "I", .fieldLink RX0 22 "OilPush$Cylinder" "number" "I", .fieldLink RX0 25 "OilPush$Cylinder" "area" "I", .fieldLink RX0 28 "OilPush$Cylinder" "stroke" "I"] ++ wsX00 ++ wsX20 ++ wsX100)
def wsX0_kind : List Cond := .code yX0_kind cX0_kind 1 (some .int) :: ([])
def wsX0_room : List Cond := .code yX0_room cX0_room 1 (some .int) :: ([.fieldLink RX0 25 "OilPush$Cylinder" "area" "I", .fieldLink RX0 28 "OilPush$Cylinder" "stroke" "I"] ++ wsX00 ++ wsX20 ++ wsX100)
def wsX11_get : List Cond := .code yX11_get cX11_get 2 (some .int) :: ([])
def wsX0_loadAt : List Cond := .code yX0_loadAt cX0_loadAt 3 (some .int) :: ([.fieldLink RX0 9 "OilPush$Cylinder" "loads" "[I", .fieldLink RX0 15 "OilPush$Cylinder" "loadCount" "I", .methodLink RX0 35 Lib.Math.min.name, .static Lib.Math.min.name, .initialized "java/lang/Math", .code Lib.Math.min.name Lib.Math.min.code 2 (some .int), .methodLink RX0 31 yX0_room, .instanceMethod yX0_room, .selects RX0 yX0_room yX0_room, .initialized RX0, .code yX0_room cX0_room 1 (some .int), .fieldLink RX0 25 "OilPush$Cylinder" "area" "I", .fieldLink RX0 28 "OilPush$Cylinder" "stroke" "I", .methodLink RX0 31 ⟨"OilPush$Cylinder", "room", "()I"⟩, .sameMethod "OilPush$Cylinder" "OilPush$Cylinder" "room" "()I", .selects RX2 ⟨"OilPush$Cylinder", "room", "()I"⟩ yX0_room, .selects RX10 ⟨"OilPush$Cylinder", "room", "()I"⟩ yX0_room, .static yX11_get, .initialized RX11, .code yX11_get cX11_get 2 (some .int)] ++ wsX00 ++ wsX20 ++ wsX100)
def wsX0_pushAgainst : List Cond := .code yX0_pushAgainst cX0_pushAgainst 2 (some .int) :: ([.fieldLink RX0 25 "OilPush$Cylinder" "area" "I"] ++ wsX00 ++ wsX20 ++ wsX100)
def wsX10_pushAgainst : List Cond := .code yX10_pushAgainst cX10_pushAgainst 2 (some .int) :: ([])
def wsX0_needAt_r1 : List Cond := [Cond.fieldLink RX0 52 "OilPush$Cylinder" "crack" "I", Cond.methodLink RX0 45 yX0_loadAt, Cond.instanceMethod yX0_loadAt, Cond.selects RX0 yX0_loadAt yX0_loadAt, Cond.initialized RX0, Cond.code yX0_loadAt cX0_loadAt 3 (some .int), Cond.fieldLink RX0 9 "OilPush$Cylinder" "loads" "[I", Cond.fieldLink RX0 15 "OilPush$Cylinder" "loadCount" "I", Cond.methodLink RX0 35 Lib.Math.min.name, Cond.static Lib.Math.min.name, Cond.initialized "java/lang/Math", Cond.code Lib.Math.min.name Lib.Math.min.code 2 (some .int), Cond.methodLink RX0 31 yX0_room, Cond.instanceMethod yX0_room, Cond.selects RX0 yX0_room yX0_room, Cond.code yX0_room cX0_room 1 (some .int), Cond.fieldLink RX0 25 "OilPush$Cylinder" "area" "I", Cond.fieldLink RX0 28 "OilPush$Cylinder" "stroke" "I", Cond.methodLink RX0 31 ⟨"OilPush$Cylinder", "room", "()I"⟩, Cond.sameMethod "OilPush$Cylinder" "OilPush$Cylinder" "room" "()I", Cond.selects RX2 ⟨"OilPush$Cylinder", "room", "()I"⟩ yX0_room, Cond.selects RX10 ⟨"OilPush$Cylinder", "room", "()I"⟩ yX0_room, Cond.static yX11_get, Cond.initialized RX11]
def wsX0_needAt_r2 : List Cond := [Cond.code yX11_get cX11_get 2 (some .int), Cond.methodLink RX0 45 ⟨"OilPush$Cylinder", "loadAt", "(I)I"⟩, Cond.sameMethod "OilPush$Cylinder" "OilPush$Cylinder" "loadAt" "(I)I", Cond.selects RX2 ⟨"OilPush$Cylinder", "loadAt", "(I)I"⟩ yX0_loadAt, Cond.selects RX10 ⟨"OilPush$Cylinder", "loadAt", "(I)I"⟩ yX0_loadAt, Cond.methodLink RX0 49 yX0_pushAgainst, Cond.instanceMethod yX0_pushAgainst, Cond.selects RX0 yX0_pushAgainst yX0_pushAgainst, Cond.code yX0_pushAgainst cX0_pushAgainst 2 (some .int), Cond.methodLink RX0 49 ⟨"OilPush$Cylinder", "pushAgainst", "(I)I"⟩, Cond.sameMethod "OilPush$Cylinder" "OilPush$Cylinder" "pushAgainst" "(I)I", Cond.selects RX2 ⟨"OilPush$Cylinder", "pushAgainst", "(I)I"⟩ yX0_pushAgainst, Cond.instanceMethod ⟨"OilPush$Cylinder", "pushAgainst", "(I)I"⟩, Cond.selects RX10 ⟨"OilPush$Cylinder", "pushAgainst", "(I)I"⟩ yX10_pushAgainst, Cond.instanceMethod yX10_pushAgainst, Cond.initialized RX10, Cond.code yX10_pushAgainst cX10_pushAgainst 2 (some .int)]
def wsX0_needAt : List Cond := .code yX0_needAt cX0_needAt 2 (some .int) :: ((wsX0_needAt_r1 ++ wsX0_needAt_r2) ++ wsX00 ++ wsX20 ++ wsX100)
def wsX0_isAt : List Cond := .code yX0_isAt cX0_isAt 3 (some .boolean) :: ([.methodLink RX0 31 yX0_room, .instanceMethod yX0_room, .selects RX0 yX0_room yX0_room, .initialized RX0, .code yX0_room cX0_room 1 (some .int), .fieldLink RX0 25 "OilPush$Cylinder" "area" "I", .fieldLink RX0 28 "OilPush$Cylinder" "stroke" "I", .methodLink RX0 31 ⟨"OilPush$Cylinder", "room", "()I"⟩, .sameMethod "OilPush$Cylinder" "OilPush$Cylinder" "room" "()I", .selects RX2 ⟨"OilPush$Cylinder", "room", "()I"⟩ yX0_room, .selects RX10 ⟨"OilPush$Cylinder", "room", "()I"⟩ yX0_room] ++ wsX00 ++ wsX20 ++ wsX100)
def wsX0_newCrack : List Cond := .code yX0_newCrack cX0_newCrack 3 (some .int) :: ([.fieldLink RX0 52 "OilPush$Cylinder" "crack" "I"] ++ wsX00 ++ wsX20 ++ wsX100)
def wsX0_newFlow : List Cond := .code yX0_newFlow cX0_newFlow 3 (some .int) :: ([.fieldLink RX0 19 "OilPush$Cylinder" "flow" "I"] ++ wsX00 ++ wsX20 ++ wsX100)
def wsX11_set : List Cond := .code yX11_set cX11_set 3 none :: ([])
def wsX0_newLoads : List Cond := .code yX0_newLoads cX0_newLoads 5 none :: ([.fieldLink RX0 15 "OilPush$Cylinder" "loadCount" "I", .fieldLink RX0 9 "OilPush$Cylinder" "loads" "[I", .static yX11_get, .initialized RX11, .code yX11_get cX11_get 2 (some .int), .static yX11_set, .code yX11_set cX11_set 3 none] ++ wsX00 ++ wsX20 ++ wsX100)
def wsX9_leave : List Cond := .code yX9_leave cX9_leave 2 none :: ([.fieldLink RX9 7 "OilPush$Trace" "value" "I"] ++ wsX90)
def wsX0_plainlyTold : List Cond := .code yX0_plainlyTold cX0_plainlyTold 3 (some .int) :: ([.methodLink RX0 63 yX9_leave, .instanceMethod yX9_leave, .selects RX9 yX9_leave yX9_leave, .initialized RX9, .code yX9_leave cX9_leave 2 none, .fieldLink RX9 7 "OilPush$Trace" "value" "I"] ++ wsX90)
def wsX0_toldBy : List Cond := .code yX0_toldBy cX0_toldBy 3 (some .int) :: ([.methodLink RX0 59 yX0_plainlyTold, .instanceMethod yX0_plainlyTold, .selects RX0 yX0_plainlyTold yX0_plainlyTold, .initialized RX0, .code yX0_plainlyTold cX0_plainlyTold 3 (some .int), .methodLink RX0 63 yX9_leave, .instanceMethod yX9_leave, .selects RX9 yX9_leave yX9_leave, .initialized RX9, .code yX9_leave cX9_leave 2 none, .fieldLink RX9 7 "OilPush$Trace" "value" "I", .methodLink RX0 59 ⟨"OilPush$Cylinder", "plainlyTold", "(LOilPush$Trace;I)I"⟩, .sameMethod "OilPush$Cylinder" "OilPush$Cylinder" "plainlyTold" "(LOilPush$Trace;I)I", .selects RX2 ⟨"OilPush$Cylinder", "plainlyTold", "(LOilPush$Trace;I)I"⟩ yX0_plainlyTold, .selects RX10 ⟨"OilPush$Cylinder", "plainlyTold", "(LOilPush$Trace;I)I"⟩ yX0_plainlyTold] ++ wsX90)
def wsX0_seenBy : List Cond := .code yX0_seenBy cX0_seenBy 2 (some .int) :: ([.fieldLink RX0 22 "OilPush$Cylinder" "number" "I", .methodLink RX0 63 yX9_leave, .instanceMethod yX9_leave, .selects RX9 yX9_leave yX9_leave, .initialized RX9, .code yX9_leave cX9_leave 2 none, .fieldLink RX9 7 "OilPush$Trace" "value" "I"] ++ wsX00 ++ wsX20 ++ wsX100 ++ wsX90)
def wsX1_init : List Cond := .code yX1_init cX1_init 1 none :: ([.methodLink RX1 3 objectInit, .instanceMethod objectInit, .code objectInit ⟨#[0xb1]⟩ 1 none, .arrayClass .int, .fieldLink RX1 9 "OilPush$Engine" "took" "[I", .fieldLink RX1 15 "OilPush$Engine" "line" "[I", .fieldLink RX1 18 "OilPush$Engine" "need" "[I", .fieldLink RX1 21 "OilPush$Engine" "most" "[I", .fieldLink RX1 24 "OilPush$Engine" "taker" "[I"] ++ wsX10)
def wsX4_at : List Cond := .code yX4_at cX4_at 2 (some (.object "OilPush$Cylinder")) :: ([.fieldLink RX4 25 "OilPush$Plant" "count" "I", .fieldLink RX4 17 "OilPush$Plant" "cylinders" "[LOilPush$Cylinder;"] ++ wsX40)
def wsX1_mostLost_r1 : List Cond := [Cond.classLink RX1 114 "OilPush$Held", Cond.fieldLink RX1 116 "OilPush$State" "valve" "[I", Cond.fieldLink RX1 101 "OilPush$Cylinder" "number" "I", Cond.fieldLink RX1 119 "OilPush$State" "burst" "[I", Cond.fieldLink RX1 122 "OilPush$Cylinder" "flow" "I", Cond.fieldLink RX1 99 "OilPush$State" "oil" "[I", Cond.static yX11_get, Cond.initialized RX11, Cond.code yX11_get cX11_get 2 (some .int), Cond.methodLink RX1 125 yX0_loadAt, Cond.instanceMethod yX0_loadAt, Cond.selects RX0 yX0_loadAt yX0_loadAt, Cond.initialized RX0, Cond.code yX0_loadAt cX0_loadAt 3 (some .int), Cond.fieldLink RX0 9 "OilPush$Cylinder" "loads" "[I", Cond.fieldLink RX0 15 "OilPush$Cylinder" "loadCount" "I", Cond.methodLink RX0 35 Lib.Math.min.name, Cond.static Lib.Math.min.name, Cond.initialized "java/lang/Math", Cond.code Lib.Math.min.name Lib.Math.min.code 2 (some .int), Cond.methodLink RX0 31 yX0_room, Cond.instanceMethod yX0_room, Cond.selects RX0 yX0_room yX0_room, Cond.code yX0_room cX0_room 1 (some .int)]
def wsX1_mostLost_r2 : List Cond := [Cond.fieldLink RX0 25 "OilPush$Cylinder" "area" "I", Cond.fieldLink RX0 28 "OilPush$Cylinder" "stroke" "I", Cond.methodLink RX0 31 ⟨"OilPush$Cylinder", "room", "()I"⟩, Cond.sameMethod "OilPush$Cylinder" "OilPush$Cylinder" "room" "()I", Cond.selects RX2 ⟨"OilPush$Cylinder", "room", "()I"⟩ yX0_room, Cond.selects RX10 ⟨"OilPush$Cylinder", "room", "()I"⟩ yX0_room, Cond.methodLink RX1 125 ⟨"OilPush$Cylinder", "loadAt", "(I)I"⟩, Cond.sameMethod "OilPush$Cylinder" "OilPush$Cylinder" "loadAt" "(I)I", Cond.selects RX2 ⟨"OilPush$Cylinder", "loadAt", "(I)I"⟩ yX0_loadAt, Cond.selects RX10 ⟨"OilPush$Cylinder", "loadAt", "(I)I"⟩ yX0_loadAt]
def wsX1_mostLost : List Cond := .code yX1_mostLost cX1_mostLost 7 (some .int) :: ((wsX1_mostLost_r1 ++ wsX1_mostLost_r2) ++ wsX70 ++ wsX00 ++ wsX20 ++ wsX100)
def wsX1_drain_r1 : List Cond := [Cond.fieldLink RX1 99 "OilPush$State" "oil" "[I", Cond.fieldLink RX1 101 "OilPush$Cylinder" "number" "I", Cond.methodLink RX1 74 Lib.Math.min.name, Cond.static Lib.Math.min.name, Cond.initialized "java/lang/Math", Cond.code Lib.Math.min.name Lib.Math.min.code 2 (some .int), Cond.static yX11_get, Cond.initialized RX11, Cond.code yX11_get cX11_get 2 (some .int), Cond.methodLink RX1 110 yX1_mostLost, Cond.instanceMethod yX1_mostLost, Cond.selects RX1 yX1_mostLost yX1_mostLost, Cond.initialized RX1, Cond.code yX1_mostLost cX1_mostLost 7 (some .int), Cond.classLink RX1 114 "OilPush$Held", Cond.fieldLink RX1 116 "OilPush$State" "valve" "[I", Cond.fieldLink RX1 119 "OilPush$State" "burst" "[I", Cond.fieldLink RX1 122 "OilPush$Cylinder" "flow" "I", Cond.methodLink RX1 125 yX0_loadAt, Cond.instanceMethod yX0_loadAt, Cond.selects RX0 yX0_loadAt yX0_loadAt, Cond.initialized RX0, Cond.code yX0_loadAt cX0_loadAt 3 (some .int), Cond.fieldLink RX0 9 "OilPush$Cylinder" "loads" "[I"]
def wsX1_drain_r2 : List Cond := [Cond.fieldLink RX0 15 "OilPush$Cylinder" "loadCount" "I", Cond.methodLink RX0 35 Lib.Math.min.name, Cond.methodLink RX0 31 yX0_room, Cond.instanceMethod yX0_room, Cond.selects RX0 yX0_room yX0_room, Cond.code yX0_room cX0_room 1 (some .int), Cond.fieldLink RX0 25 "OilPush$Cylinder" "area" "I", Cond.fieldLink RX0 28 "OilPush$Cylinder" "stroke" "I", Cond.methodLink RX0 31 ⟨"OilPush$Cylinder", "room", "()I"⟩, Cond.sameMethod "OilPush$Cylinder" "OilPush$Cylinder" "room" "()I", Cond.selects RX2 ⟨"OilPush$Cylinder", "room", "()I"⟩ yX0_room, Cond.selects RX10 ⟨"OilPush$Cylinder", "room", "()I"⟩ yX0_room, Cond.methodLink RX1 125 ⟨"OilPush$Cylinder", "loadAt", "(I)I"⟩, Cond.sameMethod "OilPush$Cylinder" "OilPush$Cylinder" "loadAt" "(I)I", Cond.selects RX2 ⟨"OilPush$Cylinder", "loadAt", "(I)I"⟩ yX0_loadAt, Cond.selects RX10 ⟨"OilPush$Cylinder", "loadAt", "(I)I"⟩ yX0_loadAt, Cond.static yX11_set, Cond.code yX11_set cX11_set 3 none]
def wsX1_drain : List Cond := .code yX1_drain cX1_drain 6 (some .int) :: ((wsX1_drain_r1 ++ wsX1_drain_r2) ++ wsX70 ++ wsX00 ++ wsX20 ++ wsX100)
def wsX1_queue : List Cond := .code yX1_queue cX1_queue 3 none :: ([.fieldLink RX1 129 "OilPush$Engine" "moving" "I", .fieldLink RX1 18 "OilPush$Engine" "need" "[I", .fieldLink RX1 15 "OilPush$Engine" "line" "[I", .static yX11_get, .initialized RX11, .code yX11_get cX11_get 2 (some .int), .static yX11_set, .code yX11_set cX11_set 3 none] ++ wsX10)
def wsX1_lineUp_r1 : List Cond := [Cond.fieldLink RX1 129 "OilPush$Engine" "moving" "I", Cond.fieldLink RX1 132 "OilPush$Plant" "count" "I", Cond.fieldLink RX1 116 "OilPush$State" "valve" "[I", Cond.fieldLink RX1 119 "OilPush$State" "burst" "[I", Cond.fieldLink RX1 99 "OilPush$State" "oil" "[I", Cond.fieldLink RX1 18 "OilPush$Engine" "need" "[I", Cond.fieldLink RX1 21 "OilPush$Engine" "most" "[I", Cond.fieldLink RX1 122 "OilPush$Cylinder" "flow" "I", Cond.methodLink RX1 74 Lib.Math.min.name, Cond.static Lib.Math.min.name, Cond.initialized "java/lang/Math", Cond.code Lib.Math.min.name Lib.Math.min.code 2 (some .int), Cond.fieldLink RX1 65 "OilPush$Plant" "limit" "I", Cond.methodLink RX1 27 yX4_at, Cond.instanceMethod yX4_at, Cond.selects RX4 yX4_at yX4_at, Cond.initialized RX4, Cond.code yX4_at cX4_at 2 (some (.object "OilPush$Cylinder")), Cond.fieldLink RX4 25 "OilPush$Plant" "count" "I", Cond.fieldLink RX4 17 "OilPush$Plant" "cylinders" "[LOilPush$Cylinder;", Cond.static yX11_get, Cond.initialized RX11, Cond.code yX11_get cX11_get 2 (some .int), Cond.methodLink RX1 135 yX0_needAt]
def wsX1_lineUp_r2 : List Cond := [Cond.instanceMethod yX0_needAt, Cond.selects RX0 yX0_needAt yX0_needAt, Cond.initialized RX0, Cond.code yX0_needAt cX0_needAt 2 (some .int), Cond.fieldLink RX0 52 "OilPush$Cylinder" "crack" "I", Cond.methodLink RX0 45 yX0_loadAt, Cond.instanceMethod yX0_loadAt, Cond.selects RX0 yX0_loadAt yX0_loadAt, Cond.code yX0_loadAt cX0_loadAt 3 (some .int), Cond.fieldLink RX0 9 "OilPush$Cylinder" "loads" "[I", Cond.fieldLink RX0 15 "OilPush$Cylinder" "loadCount" "I", Cond.methodLink RX0 35 Lib.Math.min.name, Cond.methodLink RX0 31 yX0_room, Cond.instanceMethod yX0_room, Cond.selects RX0 yX0_room yX0_room, Cond.code yX0_room cX0_room 1 (some .int), Cond.fieldLink RX0 25 "OilPush$Cylinder" "area" "I", Cond.fieldLink RX0 28 "OilPush$Cylinder" "stroke" "I", Cond.methodLink RX0 31 ⟨"OilPush$Cylinder", "room", "()I"⟩, Cond.sameMethod "OilPush$Cylinder" "OilPush$Cylinder" "room" "()I", Cond.selects RX2 ⟨"OilPush$Cylinder", "room", "()I"⟩ yX0_room, Cond.selects RX10 ⟨"OilPush$Cylinder", "room", "()I"⟩ yX0_room, Cond.methodLink RX0 45 ⟨"OilPush$Cylinder", "loadAt", "(I)I"⟩, Cond.sameMethod "OilPush$Cylinder" "OilPush$Cylinder" "loadAt" "(I)I"]
def wsX1_lineUp_r3 : List Cond := [Cond.selects RX2 ⟨"OilPush$Cylinder", "loadAt", "(I)I"⟩ yX0_loadAt, Cond.selects RX10 ⟨"OilPush$Cylinder", "loadAt", "(I)I"⟩ yX0_loadAt, Cond.methodLink RX0 49 yX0_pushAgainst, Cond.instanceMethod yX0_pushAgainst, Cond.selects RX0 yX0_pushAgainst yX0_pushAgainst, Cond.code yX0_pushAgainst cX0_pushAgainst 2 (some .int), Cond.methodLink RX0 49 ⟨"OilPush$Cylinder", "pushAgainst", "(I)I"⟩, Cond.sameMethod "OilPush$Cylinder" "OilPush$Cylinder" "pushAgainst" "(I)I", Cond.selects RX2 ⟨"OilPush$Cylinder", "pushAgainst", "(I)I"⟩ yX0_pushAgainst, Cond.instanceMethod ⟨"OilPush$Cylinder", "pushAgainst", "(I)I"⟩, Cond.selects RX10 ⟨"OilPush$Cylinder", "pushAgainst", "(I)I"⟩ yX10_pushAgainst, Cond.instanceMethod yX10_pushAgainst, Cond.initialized RX10, Cond.code yX10_pushAgainst cX10_pushAgainst 2 (some .int), Cond.methodLink RX1 135 ⟨"OilPush$Cylinder", "needAt", "(I)I"⟩, Cond.sameMethod "OilPush$Cylinder" "OilPush$Cylinder" "needAt" "(I)I", Cond.selects RX2 ⟨"OilPush$Cylinder", "needAt", "(I)I"⟩ yX0_needAt, Cond.selects RX10 ⟨"OilPush$Cylinder", "needAt", "(I)I"⟩ yX0_needAt, Cond.static yX11_set, Cond.code yX11_set cX11_set 3 none, Cond.methodLink RX1 138 yX0_room, Cond.methodLink RX1 138 ⟨"OilPush$Cylinder", "room", "()I"⟩, Cond.methodLink RX1 141 yX1_queue, Cond.instanceMethod yX1_queue]
def wsX1_lineUp_r4 : List Cond := [Cond.selects RX1 yX1_queue yX1_queue, Cond.initialized RX1, Cond.code yX1_queue cX1_queue 3 none, Cond.fieldLink RX1 15 "OilPush$Engine" "line" "[I"]
def wsX1_lineUp : List Cond := .code yX1_lineUp cX1_lineUp 6 none :: ((wsX1_lineUp_r1 ++ (wsX1_lineUp_r2 ++ (wsX1_lineUp_r3 ++ wsX1_lineUp_r4))) ++ wsX10 ++ wsX40 ++ wsX70 ++ wsX00 ++ wsX20 ++ wsX100)
def wsX1_give : List Cond := .code yX1_give cX1_give 4 none :: ([.fieldLink RX1 9 "OilPush$Engine" "took" "[I", .fieldLink RX1 99 "OilPush$State" "oil" "[I", .static yX11_get, .initialized RX11, .code yX11_get cX11_get 2 (some .int), .static yX11_set, .code yX11_set cX11_set 3 none] ++ wsX10 ++ wsX70)
def wsX1_takeFromPump_r1 : List Cond := [Cond.fieldLink RX1 145 "OilPush$Engine" "takers" "I", Cond.fieldLink RX1 86 "OilPush$Engine" "pressure" "I", Cond.fieldLink RX1 129 "OilPush$Engine" "moving" "I", Cond.fieldLink RX1 15 "OilPush$Engine" "line" "[I", Cond.fieldLink RX1 21 "OilPush$Engine" "most" "[I", Cond.methodLink RX1 74 Lib.Math.min.name, Cond.static Lib.Math.min.name, Cond.initialized "java/lang/Math", Cond.code Lib.Math.min.name Lib.Math.min.code 2 (some .int), Cond.fieldLink RX1 24 "OilPush$Engine" "taker" "[I", Cond.fieldLink RX1 18 "OilPush$Engine" "need" "[I", Cond.methodLink RX1 88 Lib.Math.max.name, Cond.static Lib.Math.max.name, Cond.code Lib.Math.max.name Lib.Math.max.code 2 (some .int), Cond.static yX11_get, Cond.initialized RX11, Cond.code yX11_get cX11_get 2 (some .int), Cond.methodLink RX1 148 yX1_give, Cond.instanceMethod yX1_give, Cond.selects RX1 yX1_give yX1_give, Cond.initialized RX1, Cond.code yX1_give cX1_give 4 none, Cond.fieldLink RX1 9 "OilPush$Engine" "took" "[I", Cond.fieldLink RX1 99 "OilPush$State" "oil" "[I"]
def wsX1_takeFromPump_r2 : List Cond := [Cond.static yX11_set, Cond.code yX11_set cX11_set 3 none]
def wsX1_takeFromPump : List Cond := .code yX1_takeFromPump cX1_takeFromPump 7 (some .int) :: ((wsX1_takeFromPump_r1 ++ wsX1_takeFromPump_r2) ++ wsX10 ++ wsX70)
def wsX8_pressure : List Cond := .code yX8_pressure cX8_pressure 1 (some .int) :: ([.fieldLink RX8 7 "OilPush$Store" "stiff" "I", .fieldLink RX8 13 "OilPush$Store" "first" "I", .fieldLink RX8 16 "OilPush$Store" "oil" "I"] ++ wsX80)
def wsX1_addUp : List Cond := .code yX1_addUp cX1_addUp 7 none :: ([.fieldLink RX1 145 "OilPush$Engine" "takers" "I", .fieldLink RX1 24 "OilPush$Engine" "taker" "[I", .fieldLink RX1 9 "OilPush$Engine" "took" "[I", .fieldLink RX1 152 "OilPush$Engine" "heat" "J", .fieldLink RX1 86 "OilPush$Engine" "pressure" "I", .fieldLink RX1 18 "OilPush$Engine" "need" "[I", .fieldLink RX1 156 "OilPush$Engine" "work" "J", .fieldLink RX1 80 "OilPush$Engine" "storeTook" "I", .fieldLink RX1 83 "OilPush$Engine" "over" "I", .fieldLink RX1 65 "OilPush$Plant" "limit" "I", .fieldLink RX1 159 "OilPush$Engine" "given" "J", .fieldLink RX1 45 "OilPush$Plant" "gives" "I", .static yX11_get, .initialized RX11, .code yX11_get cX11_get 2 (some .int)] ++ wsX10 ++ wsX40)
def wsX1_takeFromStore_r1 : List Cond := [Cond.fieldLink RX1 129 "OilPush$Engine" "moving" "I", Cond.fieldLink RX1 15 "OilPush$Engine" "line" "[I", Cond.fieldLink RX1 53 "OilPush$State" "store" "LOilPush$Store;", Cond.fieldLink RX1 18 "OilPush$Engine" "need" "[I", Cond.fieldLink RX1 21 "OilPush$Engine" "most" "[I", Cond.fieldLink RX1 9 "OilPush$Engine" "took" "[I", Cond.fieldLink RX1 71 "OilPush$Store" "oil" "I", Cond.methodLink RX1 74 Lib.Math.min.name, Cond.static Lib.Math.min.name, Cond.initialized "java/lang/Math", Cond.code Lib.Math.min.name Lib.Math.min.code 2 (some .int), Cond.fieldLink RX1 80 "OilPush$Engine" "storeTook" "I", Cond.static yX11_get, Cond.initialized RX11, Cond.code yX11_get cX11_get 2 (some .int), Cond.methodLink RX1 59 yX8_pressure, Cond.instanceMethod yX8_pressure, Cond.selects RX8 yX8_pressure yX8_pressure, Cond.initialized RX8, Cond.code yX8_pressure cX8_pressure 1 (some .int), Cond.fieldLink RX8 7 "OilPush$Store" "stiff" "I", Cond.fieldLink RX8 13 "OilPush$Store" "first" "I", Cond.fieldLink RX8 16 "OilPush$Store" "oil" "I", Cond.methodLink RX1 148 yX1_give]
def wsX1_takeFromStore_r2 : List Cond := [Cond.instanceMethod yX1_give, Cond.selects RX1 yX1_give yX1_give, Cond.initialized RX1, Cond.code yX1_give cX1_give 4 none, Cond.fieldLink RX1 99 "OilPush$State" "oil" "[I", Cond.static yX11_set, Cond.code yX11_set cX11_set 3 none]
def wsX1_takeFromStore : List Cond := .code yX1_takeFromStore cX1_takeFromStore 5 none :: ((wsX1_takeFromStore_r1 ++ wsX1_takeFromStore_r2) ++ wsX10 ++ wsX70 ++ wsX80)
def wsX1_run_r1 : List Cond := [Cond.fieldLink RX1 9 "OilPush$Engine" "took" "[I", Cond.fieldLink RX1 45 "OilPush$Plant" "gives" "I", Cond.fieldLink RX1 53 "OilPush$State" "store" "LOilPush$Store;", Cond.fieldLink RX1 65 "OilPush$Plant" "limit" "I", Cond.fieldLink RX1 68 "OilPush$Store" "cap" "I", Cond.fieldLink RX1 71 "OilPush$Store" "oil" "I", Cond.methodLink RX1 74 Lib.Math.min.name, Cond.static Lib.Math.min.name, Cond.initialized "java/lang/Math", Cond.code Lib.Math.min.name Lib.Math.min.code 2 (some .int), Cond.fieldLink RX1 80 "OilPush$Engine" "storeTook" "I", Cond.fieldLink RX1 83 "OilPush$Engine" "over" "I", Cond.fieldLink RX1 86 "OilPush$Engine" "pressure" "I", Cond.methodLink RX1 88 Lib.Math.max.name, Cond.static Lib.Math.max.name, Cond.code Lib.Math.max.name Lib.Math.max.code 2 (some .int), Cond.methodLink RX1 27 yX4_at, Cond.instanceMethod yX4_at, Cond.selects RX4 yX4_at yX4_at, Cond.initialized RX4, Cond.code yX4_at cX4_at 2 (some (.object "OilPush$Cylinder")), Cond.fieldLink RX4 25 "OilPush$Plant" "count" "I", Cond.fieldLink RX4 17 "OilPush$Plant" "cylinders" "[LOilPush$Cylinder;", Cond.methodLink RX1 33 yX1_drain]
def wsX1_run_r2 : List Cond := [Cond.instanceMethod yX1_drain, Cond.selects RX1 yX1_drain yX1_drain, Cond.initialized RX1, Cond.code yX1_drain cX1_drain 6 (some .int), Cond.fieldLink RX1 99 "OilPush$State" "oil" "[I", Cond.fieldLink RX1 101 "OilPush$Cylinder" "number" "I", Cond.static yX11_get, Cond.initialized RX11, Cond.code yX11_get cX11_get 2 (some .int), Cond.methodLink RX1 110 yX1_mostLost, Cond.instanceMethod yX1_mostLost, Cond.selects RX1 yX1_mostLost yX1_mostLost, Cond.code yX1_mostLost cX1_mostLost 7 (some .int), Cond.classLink RX1 114 "OilPush$Held", Cond.fieldLink RX1 116 "OilPush$State" "valve" "[I", Cond.fieldLink RX1 119 "OilPush$State" "burst" "[I", Cond.fieldLink RX1 122 "OilPush$Cylinder" "flow" "I", Cond.methodLink RX1 125 yX0_loadAt, Cond.instanceMethod yX0_loadAt, Cond.selects RX0 yX0_loadAt yX0_loadAt, Cond.initialized RX0, Cond.code yX0_loadAt cX0_loadAt 3 (some .int), Cond.fieldLink RX0 9 "OilPush$Cylinder" "loads" "[I", Cond.fieldLink RX0 15 "OilPush$Cylinder" "loadCount" "I"]
def wsX1_run_r3 : List Cond := [Cond.methodLink RX0 35 Lib.Math.min.name, Cond.methodLink RX0 31 yX0_room, Cond.instanceMethod yX0_room, Cond.selects RX0 yX0_room yX0_room, Cond.code yX0_room cX0_room 1 (some .int), Cond.fieldLink RX0 25 "OilPush$Cylinder" "area" "I", Cond.fieldLink RX0 28 "OilPush$Cylinder" "stroke" "I", Cond.methodLink RX0 31 ⟨"OilPush$Cylinder", "room", "()I"⟩, Cond.sameMethod "OilPush$Cylinder" "OilPush$Cylinder" "room" "()I", Cond.selects RX2 ⟨"OilPush$Cylinder", "room", "()I"⟩ yX0_room, Cond.selects RX10 ⟨"OilPush$Cylinder", "room", "()I"⟩ yX0_room, Cond.methodLink RX1 125 ⟨"OilPush$Cylinder", "loadAt", "(I)I"⟩, Cond.sameMethod "OilPush$Cylinder" "OilPush$Cylinder" "loadAt" "(I)I", Cond.selects RX2 ⟨"OilPush$Cylinder", "loadAt", "(I)I"⟩ yX0_loadAt, Cond.selects RX10 ⟨"OilPush$Cylinder", "loadAt", "(I)I"⟩ yX0_loadAt, Cond.static yX11_set, Cond.code yX11_set cX11_set 3 none, Cond.methodLink RX1 41 yX1_lineUp, Cond.instanceMethod yX1_lineUp, Cond.selects RX1 yX1_lineUp yX1_lineUp, Cond.code yX1_lineUp cX1_lineUp 6 none, Cond.fieldLink RX1 129 "OilPush$Engine" "moving" "I", Cond.fieldLink RX1 132 "OilPush$Plant" "count" "I", Cond.fieldLink RX1 18 "OilPush$Engine" "need" "[I"]
def wsX1_run_r4 : List Cond := [Cond.fieldLink RX1 21 "OilPush$Engine" "most" "[I", Cond.methodLink RX1 135 yX0_needAt, Cond.instanceMethod yX0_needAt, Cond.selects RX0 yX0_needAt yX0_needAt, Cond.code yX0_needAt cX0_needAt 2 (some .int), Cond.fieldLink RX0 52 "OilPush$Cylinder" "crack" "I", Cond.methodLink RX0 45 yX0_loadAt, Cond.methodLink RX0 45 ⟨"OilPush$Cylinder", "loadAt", "(I)I"⟩, Cond.methodLink RX0 49 yX0_pushAgainst, Cond.instanceMethod yX0_pushAgainst, Cond.selects RX0 yX0_pushAgainst yX0_pushAgainst, Cond.code yX0_pushAgainst cX0_pushAgainst 2 (some .int), Cond.methodLink RX0 49 ⟨"OilPush$Cylinder", "pushAgainst", "(I)I"⟩, Cond.sameMethod "OilPush$Cylinder" "OilPush$Cylinder" "pushAgainst" "(I)I", Cond.selects RX2 ⟨"OilPush$Cylinder", "pushAgainst", "(I)I"⟩ yX0_pushAgainst, Cond.instanceMethod ⟨"OilPush$Cylinder", "pushAgainst", "(I)I"⟩, Cond.selects RX10 ⟨"OilPush$Cylinder", "pushAgainst", "(I)I"⟩ yX10_pushAgainst, Cond.instanceMethod yX10_pushAgainst, Cond.initialized RX10, Cond.code yX10_pushAgainst cX10_pushAgainst 2 (some .int), Cond.methodLink RX1 135 ⟨"OilPush$Cylinder", "needAt", "(I)I"⟩, Cond.sameMethod "OilPush$Cylinder" "OilPush$Cylinder" "needAt" "(I)I", Cond.selects RX2 ⟨"OilPush$Cylinder", "needAt", "(I)I"⟩ yX0_needAt, Cond.selects RX10 ⟨"OilPush$Cylinder", "needAt", "(I)I"⟩ yX0_needAt]
def wsX1_run_r5 : List Cond := [Cond.methodLink RX1 138 yX0_room, Cond.methodLink RX1 138 ⟨"OilPush$Cylinder", "room", "()I"⟩, Cond.methodLink RX1 141 yX1_queue, Cond.instanceMethod yX1_queue, Cond.selects RX1 yX1_queue yX1_queue, Cond.code yX1_queue cX1_queue 3 none, Cond.fieldLink RX1 15 "OilPush$Engine" "line" "[I", Cond.methodLink RX1 49 yX1_takeFromPump, Cond.instanceMethod yX1_takeFromPump, Cond.selects RX1 yX1_takeFromPump yX1_takeFromPump, Cond.code yX1_takeFromPump cX1_takeFromPump 7 (some .int), Cond.fieldLink RX1 145 "OilPush$Engine" "takers" "I", Cond.fieldLink RX1 24 "OilPush$Engine" "taker" "[I", Cond.methodLink RX1 148 yX1_give, Cond.instanceMethod yX1_give, Cond.selects RX1 yX1_give yX1_give, Cond.code yX1_give cX1_give 4 none, Cond.methodLink RX1 59 yX8_pressure, Cond.instanceMethod yX8_pressure, Cond.selects RX8 yX8_pressure yX8_pressure, Cond.initialized RX8, Cond.code yX8_pressure cX8_pressure 1 (some .int), Cond.fieldLink RX8 7 "OilPush$Store" "stiff" "I", Cond.fieldLink RX8 13 "OilPush$Store" "first" "I"]
def wsX1_run_r6 : List Cond := [Cond.fieldLink RX8 16 "OilPush$Store" "oil" "I", Cond.methodLink RX1 91 yX1_addUp, Cond.instanceMethod yX1_addUp, Cond.selects RX1 yX1_addUp yX1_addUp, Cond.code yX1_addUp cX1_addUp 7 none, Cond.fieldLink RX1 152 "OilPush$Engine" "heat" "J", Cond.fieldLink RX1 156 "OilPush$Engine" "work" "J", Cond.fieldLink RX1 159 "OilPush$Engine" "given" "J", Cond.methodLink RX1 95 yX1_takeFromStore, Cond.instanceMethod yX1_takeFromStore, Cond.selects RX1 yX1_takeFromStore yX1_takeFromStore, Cond.code yX1_takeFromStore cX1_takeFromStore 5 none]
def wsX1_run : List Cond := .code yX1_run cX1_run 6 none :: ((wsX1_run_r1 ++ (wsX1_run_r2 ++ (wsX1_run_r3 ++ (wsX1_run_r4 ++ (wsX1_run_r5 ++ wsX1_run_r6))))) ++ wsX10 ++ wsX40 ++ wsX70 ++ wsX80 ++ wsX00 ++ wsX20 ++ wsX100)
def wsX2_init : List Cond := .code yX2_init cX2_init 4 none :: ([.methodLink RX2 1 yX0_init, .instanceMethod yX0_init, .initialized RX0, .code yX0_init cX0_init 4 none, .methodLink RX0 3 objectInit, .instanceMethod objectInit, .code objectInit ⟨#[0xb1]⟩ 1 none, .arrayClass .int, .fieldLink RX0 9 "OilPush$Cylinder" "loads" "[I", .fieldLink RX0 15 "OilPush$Cylinder" "loadCount" "I", .fieldLink RX0 19 "OilPush$Cylinder" "flow" "I", .fieldLink RX0 22 "OilPush$Cylinder" "number" "I", .fieldLink RX0 25 "OilPush$Cylinder" "area" "I", .fieldLink RX0 28 "OilPush$Cylinder" "stroke" "I"] ++ wsX00 ++ wsX20 ++ wsX100)
def wsX2_kind : List Cond := .code yX2_kind cX2_kind 1 (some .int) :: ([])
def wsX2_toldBy : List Cond := .code yX2_toldBy cX2_toldBy 3 (some .int) :: ([.constant RX2 19 (1000000), .methodLink RX2 7 yX9_leave, .instanceMethod yX9_leave, .selects RX9 yX9_leave yX9_leave, .initialized RX9, .code yX9_leave cX9_leave 2 none, .fieldLink RX9 7 "OilPush$Trace" "value" "I", .methodLink RX2 13 ⟨"OilPush$Held", "plainlyTold", "(LOilPush$Trace;I)I"⟩, .sameMethod "OilPush$Held" "OilPush$Cylinder" "plainlyTold" "(LOilPush$Trace;I)I", .selects RX2 ⟨"OilPush$Held", "plainlyTold", "(LOilPush$Trace;I)I"⟩ yX0_plainlyTold, .instanceMethod yX0_plainlyTold, .initialized RX0, .code yX0_plainlyTold cX0_plainlyTold 3 (some .int), .methodLink RX0 63 yX9_leave, .selects RX10 ⟨"OilPush$Held", "plainlyTold", "(LOilPush$Trace;I)I"⟩ yX0_plainlyTold] ++ wsX90)
def wsX3_init : List Cond := .code yX3_init cX3_init 1 none :: ([.methodLink RX3 3 objectInit, .instanceMethod objectInit, .code objectInit ⟨#[0xb1]⟩ 1 none, .arrayClass .int, .fieldLink RX3 9 "OilPush$Orders" "waitsFor" "[I", .fieldLink RX3 15 "OilPush$Orders" "end" "[I", .fieldLink RX3 18 "OilPush$Orders" "turned" "[I", .fieldLink RX3 21 "OilPush$Orders" "valve" "[I"] ++ wsX30)
def wsX3_add : List Cond := .code yX3_add cX3_add 5 (some .boolean) :: ([.fieldLink RX3 24 "OilPush$Orders" "count" "I", .fieldLink RX3 9 "OilPush$Orders" "waitsFor" "[I", .fieldLink RX3 15 "OilPush$Orders" "end" "[I", .fieldLink RX3 18 "OilPush$Orders" "turned" "[I", .fieldLink RX3 21 "OilPush$Orders" "valve" "[I", .static yX11_set, .initialized RX11, .code yX11_set cX11_set 3 none] ++ wsX30)
def wsX3_obey_r1 : List Cond := [Cond.fieldLink RX3 32 "OilPush$State" "waits" "I", Cond.fieldLink RX3 24 "OilPush$Orders" "count" "I", Cond.fieldLink RX3 9 "OilPush$Orders" "waitsFor" "[I", Cond.fieldLink RX3 15 "OilPush$Orders" "end" "[I", Cond.fieldLink RX3 47 "OilPush$State" "oil" "[I", Cond.fieldLink RX3 50 "OilPush$Cylinder" "number" "I", Cond.fieldLink RX3 59 "OilPush$State" "valve" "[I", Cond.fieldLink RX3 18 "OilPush$Orders" "turned" "[I", Cond.fieldLink RX3 21 "OilPush$Orders" "valve" "[I", Cond.static yX11_get, Cond.initialized RX11, Cond.code yX11_get cX11_get 2 (some .int), Cond.methodLink RX3 41 yX4_at, Cond.instanceMethod yX4_at, Cond.selects RX4 yX4_at yX4_at, Cond.initialized RX4, Cond.code yX4_at cX4_at 2 (some (.object "OilPush$Cylinder")), Cond.fieldLink RX4 25 "OilPush$Plant" "count" "I", Cond.fieldLink RX4 17 "OilPush$Plant" "cylinders" "[LOilPush$Cylinder;", Cond.methodLink RX3 55 yX0_isAt, Cond.instanceMethod yX0_isAt, Cond.selects RX0 yX0_isAt yX0_isAt, Cond.initialized RX0, Cond.code yX0_isAt cX0_isAt 3 (some .boolean)]
def wsX3_obey_r2 : List Cond := [Cond.methodLink RX0 31 yX0_room, Cond.instanceMethod yX0_room, Cond.selects RX0 yX0_room yX0_room, Cond.code yX0_room cX0_room 1 (some .int), Cond.fieldLink RX0 25 "OilPush$Cylinder" "area" "I", Cond.fieldLink RX0 28 "OilPush$Cylinder" "stroke" "I", Cond.methodLink RX0 31 ⟨"OilPush$Cylinder", "room", "()I"⟩, Cond.sameMethod "OilPush$Cylinder" "OilPush$Cylinder" "room" "()I", Cond.selects RX2 ⟨"OilPush$Cylinder", "room", "()I"⟩ yX0_room, Cond.selects RX10 ⟨"OilPush$Cylinder", "room", "()I"⟩ yX0_room, Cond.methodLink RX3 55 ⟨"OilPush$Cylinder", "isAt", "(II)Z"⟩, Cond.sameMethod "OilPush$Cylinder" "OilPush$Cylinder" "isAt" "(II)Z", Cond.selects RX2 ⟨"OilPush$Cylinder", "isAt", "(II)Z"⟩ yX0_isAt, Cond.selects RX10 ⟨"OilPush$Cylinder", "isAt", "(II)Z"⟩ yX0_isAt, Cond.static yX11_set, Cond.code yX11_set cX11_set 3 none]
def wsX3_obey : List Cond := .code yX3_obey cX3_obey 5 none :: ((wsX3_obey_r1 ++ wsX3_obey_r2) ++ wsX70 ++ wsX30 ++ wsX00 ++ wsX20 ++ wsX100 ++ wsX40)
def wsX4_init : List Cond := .code yX4_init cX4_init 1 none :: ([.methodLink RX4 3 objectInit, .instanceMethod objectInit, .code objectInit ⟨#[0xb1]⟩ 1 none, .fieldLink RX4 9 "OilPush$Plant" "limit" "I", .classLink RX4 15 RX0, .fieldLink RX4 17 "OilPush$Plant" "cylinders" "[LOilPush$Cylinder;", .arrayClass .int, .fieldLink RX4 21 "OilPush$Plant" "leaks" "[I"] ++ wsX40)
def wsX10_init : List Cond := .code yX10_init cX10_init 4 none :: ([.methodLink RX10 1 yX2_init, .instanceMethod yX2_init, .initialized RX2, .code yX2_init cX2_init 4 none, .methodLink RX2 1 yX0_init, .instanceMethod yX0_init, .initialized RX0, .code yX0_init cX0_init 4 none, .methodLink RX0 3 objectInit, .instanceMethod objectInit, .code objectInit ⟨#[0xb1]⟩ 1 none, .arrayClass .int, .fieldLink RX0 9 "OilPush$Cylinder" "loads" "[I", .fieldLink RX0 15 "OilPush$Cylinder" "loadCount" "I", .fieldLink RX0 19 "OilPush$Cylinder" "flow" "I", .fieldLink RX0 22 "OilPush$Cylinder" "number" "I", .fieldLink RX0 25 "OilPush$Cylinder" "area" "I", .fieldLink RX0 28 "OilPush$Cylinder" "stroke" "I"] ++ wsX00 ++ wsX20 ++ wsX100)
def wsX4_add_r1 : List Cond := [Cond.fieldLink RX4 25 "OilPush$Plant" "count" "I", Cond.fieldLink RX4 17 "OilPush$Plant" "cylinders" "[LOilPush$Cylinder;", Cond.classLink RX4 15 RX0, Cond.instantiable RX0 7, Cond.initialized RX0, Cond.classLink RX4 31 RX2, Cond.instantiable RX2 7, Cond.initialized RX2, Cond.classLink RX4 34 RX10, Cond.instantiable RX10 7, Cond.initialized RX10, Cond.methodLink RX4 28 yX0_init, Cond.instanceMethod yX0_init, Cond.code yX0_init cX0_init 4 none, Cond.methodLink RX0 3 objectInit, Cond.instanceMethod objectInit, Cond.code objectInit ⟨#[0xb1]⟩ 1 none, Cond.arrayClass .int, Cond.fieldLink RX0 9 "OilPush$Cylinder" "loads" "[I", Cond.fieldLink RX0 15 "OilPush$Cylinder" "loadCount" "I", Cond.fieldLink RX0 19 "OilPush$Cylinder" "flow" "I", Cond.fieldLink RX0 22 "OilPush$Cylinder" "number" "I", Cond.fieldLink RX0 25 "OilPush$Cylinder" "area" "I", Cond.fieldLink RX0 28 "OilPush$Cylinder" "stroke" "I"]
def wsX4_add_r2 : List Cond := [Cond.methodLink RX4 33 yX2_init, Cond.instanceMethod yX2_init, Cond.code yX2_init cX2_init 4 none, Cond.methodLink RX2 1 yX0_init, Cond.methodLink RX4 36 yX10_init, Cond.instanceMethod yX10_init, Cond.code yX10_init cX10_init 4 none, Cond.methodLink RX10 1 yX2_init]
def wsX4_add : List Cond := .code yX4_add cX4_add 4 (some .boolean) :: ((wsX4_add_r1 ++ wsX4_add_r2) ++ wsX40 ++ wsX00 ++ wsX20 ++ wsX100)
def wsX4_isHeld : List Cond := .code yX4_isHeld cX4_isHeld 2 (some .boolean) :: ([.classLink RX4 31 "OilPush$Held", .methodLink RX4 37 yX4_at, .instanceMethod yX4_at, .selects RX4 yX4_at yX4_at, .initialized RX4, .code yX4_at cX4_at 2 (some (.object "OilPush$Cylinder")), .fieldLink RX4 25 "OilPush$Plant" "count" "I", .fieldLink RX4 17 "OilPush$Plant" "cylinders" "[LOilPush$Cylinder;"] ++ wsX40)
def wsX4_howManyAt_r1 : List Cond := [Cond.fieldLink RX4 25 "OilPush$Plant" "count" "I", Cond.fieldLink RX4 41 "OilPush$State" "oil" "[I", Cond.methodLink RX4 37 yX4_at, Cond.instanceMethod yX4_at, Cond.selects RX4 yX4_at yX4_at, Cond.initialized RX4, Cond.code yX4_at cX4_at 2 (some (.object "OilPush$Cylinder")), Cond.fieldLink RX4 17 "OilPush$Plant" "cylinders" "[LOilPush$Cylinder;", Cond.static yX11_get, Cond.initialized RX11, Cond.code yX11_get cX11_get 2 (some .int), Cond.methodLink RX4 50 yX0_isAt, Cond.instanceMethod yX0_isAt, Cond.selects RX0 yX0_isAt yX0_isAt, Cond.initialized RX0, Cond.code yX0_isAt cX0_isAt 3 (some .boolean), Cond.methodLink RX0 31 yX0_room, Cond.instanceMethod yX0_room, Cond.selects RX0 yX0_room yX0_room, Cond.code yX0_room cX0_room 1 (some .int), Cond.fieldLink RX0 25 "OilPush$Cylinder" "area" "I", Cond.fieldLink RX0 28 "OilPush$Cylinder" "stroke" "I", Cond.methodLink RX0 31 ⟨"OilPush$Cylinder", "room", "()I"⟩, Cond.sameMethod "OilPush$Cylinder" "OilPush$Cylinder" "room" "()I"]
def wsX4_howManyAt_r2 : List Cond := [Cond.selects RX2 ⟨"OilPush$Cylinder", "room", "()I"⟩ yX0_room, Cond.selects RX10 ⟨"OilPush$Cylinder", "room", "()I"⟩ yX0_room, Cond.methodLink RX4 50 ⟨"OilPush$Cylinder", "isAt", "(II)Z"⟩, Cond.sameMethod "OilPush$Cylinder" "OilPush$Cylinder" "isAt" "(II)Z", Cond.selects RX2 ⟨"OilPush$Cylinder", "isAt", "(II)Z"⟩ yX0_isAt, Cond.selects RX10 ⟨"OilPush$Cylinder", "isAt", "(II)Z"⟩ yX0_isAt]
def wsX4_howManyAt : List Cond := .code yX4_howManyAt cX4_howManyAt 6 (some .int) :: ((wsX4_howManyAt_r1 ++ wsX4_howManyAt_r2) ++ wsX40 ++ wsX70 ++ wsX00 ++ wsX20 ++ wsX100)
def wsX5_init : List Cond := .code yX5_init cX5_init 1 none :: ([.methodLink RX5 3 objectInit, .instanceMethod objectInit, .code objectInit ⟨#[0xb1]⟩ 1 none, .arrayClass .int, .fieldLink RX5 9 "OilPush$Readings" "time" "[I", .fieldLink RX5 15 "OilPush$Readings" "of" "[I", .fieldLink RX5 18 "OilPush$Readings" "oil" "[I"] ++ wsX50)
def wsX5_add : List Cond := .code yX5_add cX5_add 4 (some .boolean) :: ([.fieldLink RX5 21 "OilPush$Readings" "count" "I", .fieldLink RX5 9 "OilPush$Readings" "time" "[I", .fieldLink RX5 15 "OilPush$Readings" "of" "[I", .fieldLink RX5 18 "OilPush$Readings" "oil" "[I", .static yX11_set, .initialized RX11, .code yX11_set cX11_set 3 none] ++ wsX50)
def wsX5_latest : List Cond := .code yX5_latest cX5_latest 3 (some .int) :: ([.fieldLink RX5 21 "OilPush$Readings" "count" "I", .fieldLink RX5 9 "OilPush$Readings" "time" "[I", .methodLink RX5 33 Lib.Math.max.name, .static Lib.Math.max.name, .initialized "java/lang/Math", .code Lib.Math.max.name Lib.Math.max.code 2 (some .int), .static yX11_get, .initialized RX11, .code yX11_get cX11_get 2 (some .int)] ++ wsX50)
def wsX5_areToldAt : List Cond := .code yX5_areToldAt cX5_areToldAt 4 (some .boolean) :: ([.fieldLink RX5 21 "OilPush$Readings" "count" "I", .fieldLink RX5 9 "OilPush$Readings" "time" "[I", .fieldLink RX5 39 "OilPush$State" "oil" "[I", .fieldLink RX5 15 "OilPush$Readings" "of" "[I", .fieldLink RX5 18 "OilPush$Readings" "oil" "[I", .static yX11_get, .initialized RX11, .code yX11_get cX11_get 2 (some .int)] ++ wsX50 ++ wsX70)
def wsX6_init : List Cond := .code yX6_init cX6_init 1 none :: ([.methodLink RX6 3 objectInit, .instanceMethod objectInit, .code objectInit ⟨#[0xb1]⟩ 1 none, .arrayClass .int, .fieldLink RX6 9 "OilPush$Sheet" "cells" "[I"] ++ wsX60)
def wsJ7_fill_53178 : List Cond := .code yJ7_fill_53178 cJ7_fill_53178 4 none :: ([])
def wsX6_renew : List Cond := .code yX6_renew cX6_renew 3 none :: ([.fieldLink RX6 9 "OilPush$Sheet" "cells" "[I", .fieldLink RX6 21 "OilPush$Sheet" "has" "Z", .fieldLink RX6 25 "OilPush$Sheet" "lane" "I", .methodLink RX6 29 Lib.Math.min.name, .static Lib.Math.min.name, .initialized "java/lang/Math", .code Lib.Math.min.name Lib.Math.min.code 2 (some .int), .fieldLink RX6 35 "OilPush$Sheet" "length" "I", .methodLink RX6 15 yJ7_fill_53178, .static yJ7_fill_53178, .initialized RJ7, .code yJ7_fill_53178 cJ7_fill_53178 4 none] ++ wsX60)
def wsX6_faultTakenAs : List Cond := .code yX6_faultTakenAs cX6_faultTakenAs 2 (some .int) :: ([.fieldLink RX6 21 "OilPush$Sheet" "has" "Z", .fieldLink RX6 25 "OilPush$Sheet" "lane" "I"] ++ wsX60)
def wsX6_holds : List Cond := .code yX6_holds cX6_holds 3 (some .boolean) :: ([.fieldLink RX6 35 "OilPush$Sheet" "length" "I"] ++ wsX60)
def wsX11_within : List Cond := .code yX11_within cX11_within 3 (some .boolean) :: ([])
def wsX6_areAllWithin : List Cond := .code yX6_areAllWithin cX6_areAllWithin 5 (some .boolean) :: ([.fieldLink RX6 9 "OilPush$Sheet" "cells" "[I", .static yX11_get, .initialized RX11, .code yX11_get cX11_get 2 (some .int), .static yX11_within, .code yX11_within cX11_within 3 (some .boolean)] ++ wsX60)
def wsX6_write : List Cond := .code yX6_write cX6_write 3 none :: ([.fieldLink RX6 9 "OilPush$Sheet" "cells" "[I", .fieldLink RX6 25 "OilPush$Sheet" "lane" "I", .static yX11_set, .initialized RX11, .code yX11_set cX11_set 3 none] ++ wsX60)
def wsX8_init : List Cond := .code yX8_init cX8_init 1 none :: ([.methodLink RX8 1 objectInit, .instanceMethod objectInit, .code objectInit ⟨#[0xb1]⟩ 1 none, .fieldLink RX8 7 "OilPush$Store" "stiff" "I"] ++ wsX80)
def wsX7_init : List Cond := .code yX7_init cX7_init 1 none :: ([.methodLink RX7 3 objectInit, .instanceMethod objectInit, .code objectInit ⟨#[0xb1]⟩ 1 none, .arrayClass .int, .fieldLink RX7 9 "OilPush$State" "oil" "[I", .fieldLink RX7 15 "OilPush$State" "valve" "[I", .fieldLink RX7 18 "OilPush$State" "burst" "[I", .classLink RX7 21 RX8, .instantiable RX8 4, .initialized RX8, .fieldLink RX7 24 "OilPush$State" "store" "LOilPush$Store;", .instanceMethod yX8_init, .code yX8_init cX8_init 1 none, .methodLink RX8 1 objectInit, .fieldLink RX8 7 "OilPush$Store" "stiff" "I"] ++ wsX70 ++ wsX80)
def wsX8_become : List Cond := .code yX8_become cX8_become 2 none :: ([.fieldLink RX8 19 "OilPush$Store" "cap" "I", .fieldLink RX8 13 "OilPush$Store" "first" "I", .fieldLink RX8 7 "OilPush$Store" "stiff" "I", .fieldLink RX8 16 "OilPush$Store" "oil" "I"] ++ wsX80)
def wsX7_become : List Cond := .code yX7_become cX7_become 3 none :: ([.fieldLink RX7 9 "OilPush$State" "oil" "[I", .fieldLink RX7 15 "OilPush$State" "valve" "[I", .fieldLink RX7 18 "OilPush$State" "burst" "[I", .fieldLink RX7 24 "OilPush$State" "store" "LOilPush$Store;", .fieldLink RX7 40 "OilPush$State" "waits" "I", .static yX11_get, .initialized RX11, .code yX11_get cX11_get 2 (some .int), .static yX11_set, .code yX11_set cX11_set 3 none, .methodLink RX7 36 yX8_become, .instanceMethod yX8_become, .selects RX8 yX8_become yX8_become, .initialized RX8, .code yX8_become cX8_become 2 none, .fieldLink RX8 19 "OilPush$Store" "cap" "I", .fieldLink RX8 13 "OilPush$Store" "first" "I", .fieldLink RX8 7 "OilPush$Store" "stiff" "I", .fieldLink RX8 16 "OilPush$Store" "oil" "I"] ++ wsX70 ++ wsX80)
def wsX9_init : List Cond := .code yX9_init cX9_init 1 none :: ([.methodLink RX9 1 objectInit, .instanceMethod objectInit, .code objectInit ⟨#[0xb1]⟩ 1 none])
def wsX10_kind : List Cond := .code yX10_kind cX10_kind 1 (some .int) :: ([])
def wsX10_toldBy : List Cond := .code yX10_toldBy cX10_toldBy 3 (some .int) :: ([.methodLink RX10 11 yX9_leave, .instanceMethod yX9_leave, .selects RX9 yX9_leave yX9_leave, .initialized RX9, .code yX9_leave cX9_leave 2 none, .fieldLink RX9 7 "OilPush$Trace" "value" "I", .methodLink RX10 17 ⟨"OilPush$Twin", "plainlyTold", "(LOilPush$Trace;I)I"⟩, .sameMethod "OilPush$Twin" "OilPush$Cylinder" "plainlyTold" "(LOilPush$Trace;I)I", .selects RX10 ⟨"OilPush$Twin", "plainlyTold", "(LOilPush$Trace;I)I"⟩ yX0_plainlyTold, .instanceMethod yX0_plainlyTold, .initialized RX0, .code yX0_plainlyTold cX0_plainlyTold 3 (some .int), .methodLink RX0 63 yX9_leave] ++ wsX90)
def wsX10_seenBy : List Cond := .code yX10_seenBy cX10_seenBy 2 (some .int) :: ([.methodLink RX10 11 yX9_leave, .instanceMethod yX9_leave, .selects RX9 yX9_leave yX9_leave, .initialized RX9, .code yX9_leave cX9_leave 2 none, .fieldLink RX9 7 "OilPush$Trace" "value" "I"] ++ wsX90)
def wsX11_init_r1 : List Cond := [Cond.methodLink RX11 3 objectInit, Cond.instanceMethod objectInit, Cond.code objectInit ⟨#[0xb1]⟩ 1 none, Cond.classLink RX11 9 RX4, Cond.instantiable RX4 5, Cond.initialized RX4, Cond.fieldLink RX11 12 "OilPush" "plant" "LOilPush$Plant;", Cond.classLink RX11 18 RX7, Cond.instantiable RX7 5, Cond.initialized RX7, Cond.fieldLink RX11 21 "OilPush" "now" "LOilPush$State;", Cond.classLink RX11 25 RX1, Cond.instantiable RX1 13, Cond.initialized RX1, Cond.fieldLink RX11 28 "OilPush" "engine" "LOilPush$Engine;", Cond.classLink RX11 32 RX3, Cond.instantiable RX3 5, Cond.initialized RX3, Cond.fieldLink RX11 35 "OilPush" "orders" "LOilPush$Orders;", Cond.fieldLink RX11 39 "OilPush" "atStart" "LOilPush$State;", Cond.fieldLink RX11 42 "OilPush" "tried" "LOilPush$State;", Cond.fieldLink RX11 45 "OilPush" "trial" "LOilPush$Engine;", Cond.arrayClass .int, Cond.fieldLink RX11 48 "OilPush" "triedLeaks" "[I"]
def wsX11_init_r2 : List Cond := [Cond.classLink RX11 52 RX5, Cond.instantiable RX5 4, Cond.initialized RX5, Cond.fieldLink RX11 55 "OilPush" "readings" "LOilPush$Readings;", Cond.classLink RX11 59 RX6, Cond.fieldLink RX11 61 "OilPush" "sheets" "[LOilPush$Sheet;", Cond.classLink RX11 65 RX9, Cond.instantiable RX9 1, Cond.initialized RX9, Cond.fieldLink RX11 68 "OilPush" "trace" "LOilPush$Trace;", Cond.instantiable RX6 4, Cond.initialized RX6, Cond.instanceMethod yX4_init, Cond.code yX4_init cX4_init 1 none, Cond.methodLink RX4 3 objectInit, Cond.fieldLink RX4 9 "OilPush$Plant" "limit" "I", Cond.classLink RX4 15 RX0, Cond.fieldLink RX4 17 "OilPush$Plant" "cylinders" "[LOilPush$Cylinder;", Cond.fieldLink RX4 21 "OilPush$Plant" "leaks" "[I", Cond.instanceMethod yX7_init, Cond.code yX7_init cX7_init 1 none, Cond.methodLink RX7 3 objectInit, Cond.fieldLink RX7 9 "OilPush$State" "oil" "[I", Cond.fieldLink RX7 15 "OilPush$State" "valve" "[I"]
def wsX11_init_r3 : List Cond := [Cond.fieldLink RX7 18 "OilPush$State" "burst" "[I", Cond.classLink RX7 21 RX8, Cond.instantiable RX8 4, Cond.initialized RX8, Cond.fieldLink RX7 24 "OilPush$State" "store" "LOilPush$Store;", Cond.instanceMethod yX8_init, Cond.code yX8_init cX8_init 1 none, Cond.methodLink RX8 1 objectInit, Cond.fieldLink RX8 7 "OilPush$Store" "stiff" "I", Cond.instanceMethod yX1_init, Cond.code yX1_init cX1_init 1 none, Cond.methodLink RX1 3 objectInit, Cond.fieldLink RX1 9 "OilPush$Engine" "took" "[I", Cond.fieldLink RX1 15 "OilPush$Engine" "line" "[I", Cond.fieldLink RX1 18 "OilPush$Engine" "need" "[I", Cond.fieldLink RX1 21 "OilPush$Engine" "most" "[I", Cond.fieldLink RX1 24 "OilPush$Engine" "taker" "[I", Cond.instanceMethod yX3_init, Cond.code yX3_init cX3_init 1 none, Cond.methodLink RX3 3 objectInit, Cond.fieldLink RX3 9 "OilPush$Orders" "waitsFor" "[I", Cond.fieldLink RX3 15 "OilPush$Orders" "end" "[I", Cond.fieldLink RX3 18 "OilPush$Orders" "turned" "[I", Cond.fieldLink RX3 21 "OilPush$Orders" "valve" "[I"]
def wsX11_init_r4 : List Cond := [Cond.instanceMethod yX5_init, Cond.code yX5_init cX5_init 1 none, Cond.methodLink RX5 3 objectInit, Cond.fieldLink RX5 9 "OilPush$Readings" "time" "[I", Cond.fieldLink RX5 15 "OilPush$Readings" "of" "[I", Cond.fieldLink RX5 18 "OilPush$Readings" "oil" "[I", Cond.instanceMethod yX9_init, Cond.code yX9_init cX9_init 1 none, Cond.methodLink RX9 1 objectInit, Cond.instanceMethod yX6_init, Cond.code yX6_init cX6_init 1 none, Cond.methodLink RX6 3 objectInit, Cond.fieldLink RX6 9 "OilPush$Sheet" "cells" "[I"]
def wsX11_init : List Cond := .code yX11_init cX11_init 2 none :: ((wsX11_init_r1 ++ (wsX11_init_r2 ++ (wsX11_init_r3 ++ wsX11_init_r4))) ++ wsX40 ++ wsX110 ++ wsX70 ++ wsX10 ++ wsX30 ++ wsX50 ++ wsX90 ++ wsX60 ++ wsX80)
def wsX11_pump : List Cond := .code yX11_pump cX11_pump 4 (some .int) :: ([.fieldLink RX11 12 "OilPush" "plant" "LOilPush$Plant;", .fieldLink RX11 77 "OilPush$Plant" "gives" "I", .fieldLink RX11 81 "OilPush$Plant" "limit" "I", .methodLink RX11 73 yX11_within, .static yX11_within, .initialized RX11, .code yX11_within cX11_within 3 (some .boolean)] ++ wsX110 ++ wsX40)
def wsX11_cylinder_r1 : List Cond := [Cond.fieldLink RX11 12 "OilPush" "plant" "LOilPush$Plant;", Cond.fieldLink RX11 87 "OilPush$Plant" "count" "I", Cond.methodLink RX11 73 yX11_within, Cond.static yX11_within, Cond.initialized RX11, Cond.code yX11_within cX11_within 3 (some .boolean), Cond.methodLink RX11 84 yX4_add, Cond.instanceMethod yX4_add, Cond.selects RX4 yX4_add yX4_add, Cond.initialized RX4, Cond.code yX4_add cX4_add 4 (some .boolean), Cond.fieldLink RX4 25 "OilPush$Plant" "count" "I", Cond.fieldLink RX4 17 "OilPush$Plant" "cylinders" "[LOilPush$Cylinder;", Cond.classLink RX4 15 RX0, Cond.instantiable RX0 7, Cond.initialized RX0, Cond.classLink RX4 31 RX2, Cond.instantiable RX2 7, Cond.initialized RX2, Cond.classLink RX4 34 RX10, Cond.instantiable RX10 7, Cond.initialized RX10, Cond.methodLink RX4 28 yX0_init, Cond.instanceMethod yX0_init]
def wsX11_cylinder_r2 : List Cond := [Cond.code yX0_init cX0_init 4 none, Cond.methodLink RX0 3 objectInit, Cond.instanceMethod objectInit, Cond.code objectInit ⟨#[0xb1]⟩ 1 none, Cond.arrayClass .int, Cond.fieldLink RX0 9 "OilPush$Cylinder" "loads" "[I", Cond.fieldLink RX0 15 "OilPush$Cylinder" "loadCount" "I", Cond.fieldLink RX0 19 "OilPush$Cylinder" "flow" "I", Cond.fieldLink RX0 22 "OilPush$Cylinder" "number" "I", Cond.fieldLink RX0 25 "OilPush$Cylinder" "area" "I", Cond.fieldLink RX0 28 "OilPush$Cylinder" "stroke" "I", Cond.methodLink RX4 33 yX2_init, Cond.instanceMethod yX2_init, Cond.code yX2_init cX2_init 4 none, Cond.methodLink RX2 1 yX0_init, Cond.methodLink RX4 36 yX10_init, Cond.instanceMethod yX10_init, Cond.code yX10_init cX10_init 4 none, Cond.methodLink RX10 1 yX2_init]
def wsX11_cylinder : List Cond := .code yX11_cylinder cX11_cylinder 4 (some .int) :: ((wsX11_cylinder_r1 ++ wsX11_cylinder_r2) ++ wsX110 ++ wsX40 ++ wsX00 ++ wsX20 ++ wsX100)
def wsX11_swap : List Cond := .code yX11_swap cX11_swap 4 (some .int) :: ([.methodLink RX11 181 yX11_get, .static yX11_get, .initialized RX11, .code yX11_get cX11_get 2 (some .int), .methodLink RX11 266 yX11_set, .static yX11_set, .code yX11_set cX11_set 3 none])
def wsX11_rule_r1 : List Cond := [Cond.fieldLink RX11 12 "OilPush" "plant" "LOilPush$Plant;", Cond.fieldLink RX11 103 "OilPush$Plant" "leaks" "[I", Cond.methodLink RX11 90 yX4_at, Cond.instanceMethod yX4_at, Cond.selects RX4 yX4_at yX4_at, Cond.initialized RX4, Cond.code yX4_at cX4_at 2 (some (.object "OilPush$Cylinder")), Cond.fieldLink RX4 25 "OilPush$Plant" "count" "I", Cond.fieldLink RX4 17 "OilPush$Plant" "cylinders" "[LOilPush$Cylinder;", Cond.methodLink RX11 73 yX11_within, Cond.static yX11_within, Cond.initialized RX11, Cond.code yX11_within cX11_within 3 (some .boolean), Cond.methodLink RX11 94 yX0_newCrack, Cond.instanceMethod yX0_newCrack, Cond.selects RX0 yX0_newCrack yX0_newCrack, Cond.initialized RX0, Cond.code yX0_newCrack cX0_newCrack 3 (some .int), Cond.fieldLink RX0 52 "OilPush$Cylinder" "crack" "I", Cond.methodLink RX11 94 ⟨"OilPush$Cylinder", "newCrack", "(I)I"⟩, Cond.sameMethod "OilPush$Cylinder" "OilPush$Cylinder" "newCrack" "(I)I", Cond.selects RX2 ⟨"OilPush$Cylinder", "newCrack", "(I)I"⟩ yX0_newCrack, Cond.selects RX10 ⟨"OilPush$Cylinder", "newCrack", "(I)I"⟩ yX0_newCrack, Cond.methodLink RX11 100 yX0_newFlow]
def wsX11_rule_r2 : List Cond := [Cond.instanceMethod yX0_newFlow, Cond.selects RX0 yX0_newFlow yX0_newFlow, Cond.code yX0_newFlow cX0_newFlow 3 (some .int), Cond.fieldLink RX0 19 "OilPush$Cylinder" "flow" "I", Cond.methodLink RX11 100 ⟨"OilPush$Cylinder", "newFlow", "(I)I"⟩, Cond.sameMethod "OilPush$Cylinder" "OilPush$Cylinder" "newFlow" "(I)I", Cond.selects RX2 ⟨"OilPush$Cylinder", "newFlow", "(I)I"⟩ yX0_newFlow, Cond.selects RX10 ⟨"OilPush$Cylinder", "newFlow", "(I)I"⟩ yX0_newFlow, Cond.methodLink RX11 106 yX11_swap, Cond.static yX11_swap, Cond.code yX11_swap cX11_swap 4 (some .int), Cond.methodLink RX11 181 yX11_get, Cond.static yX11_get, Cond.code yX11_get cX11_get 2 (some .int), Cond.methodLink RX11 266 yX11_set, Cond.static yX11_set, Cond.code yX11_set cX11_set 3 none]
def wsX11_rule : List Cond := .code yX11_rule cX11_rule 5 (some .int) :: ((wsX11_rule_r1 ++ wsX11_rule_r2) ++ wsX110 ++ wsX40 ++ wsX00 ++ wsX20 ++ wsX100)
def wsX11_sheetAt : List Cond := .code yX11_sheetAt cX11_sheetAt 2 (some (.object "OilPush$Sheet")) :: ([.fieldLink RX11 61 "OilPush" "sheets" "[LOilPush$Sheet;"] ++ wsX110)
def wsX11_isLane : List Cond := .code yX11_isLane cX11_isLane 1 (some .boolean) :: ([.methodLink RX11 73 yX11_within, .static yX11_within, .initialized RX11, .code yX11_within cX11_within 3 (some .boolean)])
def wsX11_faulted : List Cond := .code yX11_faulted cX11_faulted 2 (some .int) :: ([.fieldLink RX11 110 "OilPush" "latestFault" "I"] ++ wsX110)
def wsX11_loads_r1 : List Cond := [Cond.fieldLink RX11 110 "OilPush" "latestFault" "I", Cond.fieldLink RX11 12 "OilPush" "plant" "LOilPush$Plant;", Cond.constant RX11 131 (100000), Cond.fieldLink RX11 135 "OilPush$Sheet" "cells" "[I", Cond.methodLink RX11 90 yX4_at, Cond.instanceMethod yX4_at, Cond.selects RX4 yX4_at yX4_at, Cond.initialized RX4, Cond.code yX4_at cX4_at 2 (some (.object "OilPush$Cylinder")), Cond.fieldLink RX4 25 "OilPush$Plant" "count" "I", Cond.fieldLink RX4 17 "OilPush$Plant" "cylinders" "[LOilPush$Cylinder;", Cond.methodLink RX11 113 yX11_sheetAt, Cond.instanceMethod yX11_sheetAt, Cond.selects RX11 yX11_sheetAt yX11_sheetAt, Cond.initialized RX11, Cond.code yX11_sheetAt cX11_sheetAt 2 (some (.object "OilPush$Sheet")), Cond.fieldLink RX11 61 "OilPush" "sheets" "[LOilPush$Sheet;", Cond.methodLink RX11 117 yX11_isLane, Cond.static yX11_isLane, Cond.code yX11_isLane cX11_isLane 1 (some .boolean), Cond.methodLink RX11 73 yX11_within, Cond.static yX11_within, Cond.code yX11_within cX11_within 3 (some .boolean), Cond.methodLink RX11 121 yX6_faultTakenAs]
def wsX11_loads_r2 : List Cond := [Cond.instanceMethod yX6_faultTakenAs, Cond.selects RX6 yX6_faultTakenAs yX6_faultTakenAs, Cond.initialized RX6, Cond.code yX6_faultTakenAs cX6_faultTakenAs 2 (some .int), Cond.fieldLink RX6 21 "OilPush$Sheet" "has" "Z", Cond.fieldLink RX6 25 "OilPush$Sheet" "lane" "I", Cond.methodLink RX11 124 yX11_faulted, Cond.instanceMethod yX11_faulted, Cond.selects RX11 yX11_faulted yX11_faulted, Cond.code yX11_faulted cX11_faulted 2 (some .int), Cond.methodLink RX11 127 yX6_holds, Cond.instanceMethod yX6_holds, Cond.selects RX6 yX6_holds yX6_holds, Cond.code yX6_holds cX6_holds 3 (some .boolean), Cond.fieldLink RX6 35 "OilPush$Sheet" "length" "I", Cond.methodLink RX11 132 yX6_areAllWithin, Cond.instanceMethod yX6_areAllWithin, Cond.selects RX6 yX6_areAllWithin yX6_areAllWithin, Cond.code yX6_areAllWithin cX6_areAllWithin 5 (some .boolean), Cond.fieldLink RX6 9 "OilPush$Sheet" "cells" "[I", Cond.static yX11_get, Cond.code yX11_get cX11_get 2 (some .int), Cond.methodLink RX11 138 yX0_newLoads, Cond.instanceMethod yX0_newLoads]
def wsX11_loads_r3 : List Cond := [Cond.selects RX0 yX0_newLoads yX0_newLoads, Cond.initialized RX0, Cond.code yX0_newLoads cX0_newLoads 5 none, Cond.fieldLink RX0 15 "OilPush$Cylinder" "loadCount" "I", Cond.fieldLink RX0 9 "OilPush$Cylinder" "loads" "[I", Cond.static yX11_set, Cond.code yX11_set cX11_set 3 none, Cond.methodLink RX11 138 ⟨"OilPush$Cylinder", "newLoads", "([III)V"⟩, Cond.sameMethod "OilPush$Cylinder" "OilPush$Cylinder" "newLoads" "([III)V", Cond.selects RX2 ⟨"OilPush$Cylinder", "newLoads", "([III)V"⟩ yX0_newLoads, Cond.selects RX10 ⟨"OilPush$Cylinder", "newLoads", "([III)V"⟩ yX0_newLoads]
def wsX11_loads : List Cond := .code yX11_loads cX11_loads 9 (some .int) :: ((wsX11_loads_r1 ++ (wsX11_loads_r2 ++ wsX11_loads_r3)) ++ wsX110 ++ wsX60 ++ wsX40 ++ wsX00 ++ wsX20 ++ wsX100)
def wsX11_valve : List Cond := .code yX11_valve cX11_valve 3 (some .int) :: ([.fieldLink RX11 12 "OilPush" "plant" "LOilPush$Plant;", .fieldLink RX11 21 "OilPush" "now" "LOilPush$State;", .fieldLink RX11 142 "OilPush$State" "valve" "[I", .methodLink RX11 90 yX4_at, .instanceMethod yX4_at, .selects RX4 yX4_at yX4_at, .initialized RX4, .code yX4_at cX4_at 2 (some (.object "OilPush$Cylinder")), .fieldLink RX4 25 "OilPush$Plant" "count" "I", .fieldLink RX4 17 "OilPush$Plant" "cylinders" "[LOilPush$Cylinder;", .methodLink RX11 73 yX11_within, .static yX11_within, .initialized RX11, .code yX11_within cX11_within 3 (some .boolean), .methodLink RX11 106 yX11_swap, .static yX11_swap, .code yX11_swap cX11_swap 4 (some .int), .methodLink RX11 181 yX11_get, .static yX11_get, .code yX11_get cX11_get 2 (some .int), .methodLink RX11 266 yX11_set, .static yX11_set, .code yX11_set cX11_set 3 none] ++ wsX110 ++ wsX70 ++ wsX40)
def wsX11_fill_r1 : List Cond := [Cond.fieldLink RX11 12 "OilPush" "plant" "LOilPush$Plant;", Cond.fieldLink RX11 21 "OilPush" "now" "LOilPush$State;", Cond.fieldLink RX11 149 "OilPush$State" "oil" "[I", Cond.methodLink RX11 90 yX4_at, Cond.instanceMethod yX4_at, Cond.selects RX4 yX4_at yX4_at, Cond.initialized RX4, Cond.code yX4_at cX4_at 2 (some (.object "OilPush$Cylinder")), Cond.fieldLink RX4 25 "OilPush$Plant" "count" "I", Cond.fieldLink RX4 17 "OilPush$Plant" "cylinders" "[LOilPush$Cylinder;", Cond.methodLink RX11 145 yX0_room, Cond.instanceMethod yX0_room, Cond.selects RX0 yX0_room yX0_room, Cond.initialized RX0, Cond.code yX0_room cX0_room 1 (some .int), Cond.fieldLink RX0 25 "OilPush$Cylinder" "area" "I", Cond.fieldLink RX0 28 "OilPush$Cylinder" "stroke" "I", Cond.methodLink RX11 145 ⟨"OilPush$Cylinder", "room", "()I"⟩, Cond.sameMethod "OilPush$Cylinder" "OilPush$Cylinder" "room" "()I", Cond.selects RX2 ⟨"OilPush$Cylinder", "room", "()I"⟩ yX0_room, Cond.selects RX10 ⟨"OilPush$Cylinder", "room", "()I"⟩ yX0_room, Cond.methodLink RX11 73 yX11_within, Cond.static yX11_within, Cond.initialized RX11]
def wsX11_fill_r2 : List Cond := [Cond.code yX11_within cX11_within 3 (some .boolean), Cond.methodLink RX11 106 yX11_swap, Cond.static yX11_swap, Cond.code yX11_swap cX11_swap 4 (some .int), Cond.methodLink RX11 181 yX11_get, Cond.static yX11_get, Cond.code yX11_get cX11_get 2 (some .int), Cond.methodLink RX11 266 yX11_set, Cond.static yX11_set, Cond.code yX11_set cX11_set 3 none]
def wsX11_fill : List Cond := .code yX11_fill cX11_fill 4 (some .int) :: ((wsX11_fill_r1 ++ wsX11_fill_r2) ++ wsX110 ++ wsX70 ++ wsX40 ++ wsX00 ++ wsX20 ++ wsX100)
def wsX11_burst : List Cond := .code yX11_burst cX11_burst 4 (some .int) :: ([.fieldLink RX11 12 "OilPush" "plant" "LOilPush$Plant;", .fieldLink RX11 21 "OilPush" "now" "LOilPush$State;", .fieldLink RX11 152 "OilPush$State" "burst" "[I", .methodLink RX11 90 yX4_at, .instanceMethod yX4_at, .selects RX4 yX4_at yX4_at, .initialized RX4, .code yX4_at cX4_at 2 (some (.object "OilPush$Cylinder")), .fieldLink RX4 25 "OilPush$Plant" "count" "I", .fieldLink RX4 17 "OilPush$Plant" "cylinders" "[LOilPush$Cylinder;", .methodLink RX11 106 yX11_swap, .static yX11_swap, .initialized RX11, .code yX11_swap cX11_swap 4 (some .int), .methodLink RX11 181 yX11_get, .static yX11_get, .code yX11_get cX11_get 2 (some .int), .methodLink RX11 266 yX11_set, .static yX11_set, .code yX11_set cX11_set 3 none] ++ wsX110 ++ wsX70 ++ wsX40)
def wsX11_store : List Cond := .code yX11_store cX11_store 4 (some .int) :: ([.fieldLink RX11 21 "OilPush" "now" "LOilPush$State;", .fieldLink RX11 155 "OilPush$State" "store" "LOilPush$Store;", .fieldLink RX11 159 "OilPush$Store" "oil" "I", .fieldLink RX11 163 "OilPush$Store" "cap" "I", .fieldLink RX11 166 "OilPush$Store" "first" "I", .fieldLink RX11 169 "OilPush$Store" "stiff" "I", .methodLink RX11 73 yX11_within, .static yX11_within, .initialized RX11, .code yX11_within cX11_within 3 (some .boolean)] ++ wsX110 ++ wsX70 ++ wsX80)
def wsX11_about_r1 : List Cond := [Cond.fieldLink RX11 12 "OilPush" "plant" "LOilPush$Plant;", Cond.fieldLink RX11 175 "OilPush$Cylinder" "area" "I", Cond.fieldLink RX11 178 "OilPush$Cylinder" "stroke" "I", Cond.fieldLink RX11 21 "OilPush" "now" "LOilPush$State;", Cond.fieldLink RX11 149 "OilPush$State" "oil" "[I", Cond.fieldLink RX11 142 "OilPush$State" "valve" "[I", Cond.fieldLink RX11 191 "OilPush$Cylinder" "loadCount" "I", Cond.fieldLink RX11 152 "OilPush$State" "burst" "[I", Cond.fieldLink RX11 28 "OilPush" "engine" "LOilPush$Engine;", Cond.fieldLink RX11 194 "OilPush$Engine" "took" "[I", Cond.methodLink RX11 90 yX4_at, Cond.instanceMethod yX4_at, Cond.selects RX4 yX4_at yX4_at, Cond.initialized RX4, Cond.code yX4_at cX4_at 2 (some (.object "OilPush$Cylinder")), Cond.fieldLink RX4 25 "OilPush$Plant" "count" "I", Cond.fieldLink RX4 17 "OilPush$Plant" "cylinders" "[LOilPush$Cylinder;", Cond.methodLink RX11 172 yX0_kind, Cond.instanceMethod yX0_kind, Cond.selects RX0 yX0_kind yX0_kind, Cond.initialized RX0, Cond.code yX0_kind cX0_kind 1 (some .int), Cond.methodLink RX11 172 ⟨"OilPush$Cylinder", "kind", "()I"⟩, Cond.sameMethod "OilPush$Cylinder" "OilPush$Cylinder" "kind" "()I"]
def wsX11_about_r2 : List Cond := [Cond.instanceMethod ⟨"OilPush$Cylinder", "kind", "()I"⟩, Cond.selects RX2 ⟨"OilPush$Cylinder", "kind", "()I"⟩ yX2_kind, Cond.instanceMethod yX2_kind, Cond.initialized RX2, Cond.code yX2_kind cX2_kind 1 (some .int), Cond.selects RX10 ⟨"OilPush$Cylinder", "kind", "()I"⟩ yX10_kind, Cond.instanceMethod yX10_kind, Cond.initialized RX10, Cond.code yX10_kind cX10_kind 1 (some .int), Cond.methodLink RX11 181 yX11_get, Cond.static yX11_get, Cond.initialized RX11, Cond.code yX11_get cX11_get 2 (some .int), Cond.methodLink RX11 185 yX0_loadAt, Cond.instanceMethod yX0_loadAt, Cond.selects RX0 yX0_loadAt yX0_loadAt, Cond.code yX0_loadAt cX0_loadAt 3 (some .int), Cond.fieldLink RX0 9 "OilPush$Cylinder" "loads" "[I", Cond.fieldLink RX0 15 "OilPush$Cylinder" "loadCount" "I", Cond.methodLink RX0 35 Lib.Math.min.name, Cond.static Lib.Math.min.name, Cond.initialized "java/lang/Math", Cond.code Lib.Math.min.name Lib.Math.min.code 2 (some .int), Cond.methodLink RX0 31 yX0_room]
def wsX11_about_r3 : List Cond := [Cond.instanceMethod yX0_room, Cond.selects RX0 yX0_room yX0_room, Cond.code yX0_room cX0_room 1 (some .int), Cond.fieldLink RX0 25 "OilPush$Cylinder" "area" "I", Cond.fieldLink RX0 28 "OilPush$Cylinder" "stroke" "I", Cond.methodLink RX0 31 ⟨"OilPush$Cylinder", "room", "()I"⟩, Cond.sameMethod "OilPush$Cylinder" "OilPush$Cylinder" "room" "()I", Cond.selects RX2 ⟨"OilPush$Cylinder", "room", "()I"⟩ yX0_room, Cond.selects RX10 ⟨"OilPush$Cylinder", "room", "()I"⟩ yX0_room, Cond.methodLink RX11 185 ⟨"OilPush$Cylinder", "loadAt", "(I)I"⟩, Cond.sameMethod "OilPush$Cylinder" "OilPush$Cylinder" "loadAt" "(I)I", Cond.selects RX2 ⟨"OilPush$Cylinder", "loadAt", "(I)I"⟩ yX0_loadAt, Cond.selects RX10 ⟨"OilPush$Cylinder", "loadAt", "(I)I"⟩ yX0_loadAt, Cond.methodLink RX11 188 yX0_needAt, Cond.instanceMethod yX0_needAt, Cond.selects RX0 yX0_needAt yX0_needAt, Cond.code yX0_needAt cX0_needAt 2 (some .int), Cond.fieldLink RX0 52 "OilPush$Cylinder" "crack" "I", Cond.methodLink RX0 45 yX0_loadAt, Cond.methodLink RX0 45 ⟨"OilPush$Cylinder", "loadAt", "(I)I"⟩, Cond.methodLink RX0 49 yX0_pushAgainst, Cond.instanceMethod yX0_pushAgainst, Cond.selects RX0 yX0_pushAgainst yX0_pushAgainst, Cond.code yX0_pushAgainst cX0_pushAgainst 2 (some .int)]
def wsX11_about_r4 : List Cond := [Cond.methodLink RX0 49 ⟨"OilPush$Cylinder", "pushAgainst", "(I)I"⟩, Cond.sameMethod "OilPush$Cylinder" "OilPush$Cylinder" "pushAgainst" "(I)I", Cond.selects RX2 ⟨"OilPush$Cylinder", "pushAgainst", "(I)I"⟩ yX0_pushAgainst, Cond.instanceMethod ⟨"OilPush$Cylinder", "pushAgainst", "(I)I"⟩, Cond.selects RX10 ⟨"OilPush$Cylinder", "pushAgainst", "(I)I"⟩ yX10_pushAgainst, Cond.instanceMethod yX10_pushAgainst, Cond.code yX10_pushAgainst cX10_pushAgainst 2 (some .int), Cond.methodLink RX11 188 ⟨"OilPush$Cylinder", "needAt", "(I)I"⟩, Cond.sameMethod "OilPush$Cylinder" "OilPush$Cylinder" "needAt" "(I)I", Cond.selects RX2 ⟨"OilPush$Cylinder", "needAt", "(I)I"⟩ yX0_needAt, Cond.selects RX10 ⟨"OilPush$Cylinder", "needAt", "(I)I"⟩ yX0_needAt]
def wsX11_about : List Cond := .code yX11_about cX11_about 4 (some .int) :: ((wsX11_about_r1 ++ (wsX11_about_r2 ++ (wsX11_about_r3 ++ wsX11_about_r4))) ++ wsX110 ++ wsX00 ++ wsX20 ++ wsX100 ++ wsX70 ++ wsX10 ++ wsX40)
def wsX11_tick_r1 : List Cond := [Cond.fieldLink RX11 197 "OilPush" "ticks" "I", Cond.constant RX11 131 (100000), Cond.fieldLink RX11 35 "OilPush" "orders" "LOilPush$Orders;", Cond.fieldLink RX11 12 "OilPush" "plant" "LOilPush$Plant;", Cond.fieldLink RX11 21 "OilPush" "now" "LOilPush$State;", Cond.fieldLink RX11 28 "OilPush" "engine" "LOilPush$Engine;", Cond.fieldLink RX11 103 "OilPush$Plant" "leaks" "[I", Cond.fieldLink RX11 208 "OilPush" "ticked" "Z", Cond.methodLink RX11 73 yX11_within, Cond.static yX11_within, Cond.initialized RX11, Cond.code yX11_within cX11_within 3 (some .boolean), Cond.methodLink RX11 200 yX3_obey, Cond.instanceMethod yX3_obey, Cond.selects RX3 yX3_obey yX3_obey, Cond.initialized RX3, Cond.code yX3_obey cX3_obey 5 none, Cond.fieldLink RX3 32 "OilPush$State" "waits" "I", Cond.fieldLink RX3 24 "OilPush$Orders" "count" "I", Cond.fieldLink RX3 9 "OilPush$Orders" "waitsFor" "[I", Cond.fieldLink RX3 15 "OilPush$Orders" "end" "[I", Cond.fieldLink RX3 47 "OilPush$State" "oil" "[I", Cond.fieldLink RX3 50 "OilPush$Cylinder" "number" "I", Cond.fieldLink RX3 59 "OilPush$State" "valve" "[I"]
def wsX11_tick_r2 : List Cond := [Cond.fieldLink RX3 18 "OilPush$Orders" "turned" "[I", Cond.fieldLink RX3 21 "OilPush$Orders" "valve" "[I", Cond.static yX11_get, Cond.code yX11_get cX11_get 2 (some .int), Cond.methodLink RX3 41 yX4_at, Cond.instanceMethod yX4_at, Cond.selects RX4 yX4_at yX4_at, Cond.initialized RX4, Cond.code yX4_at cX4_at 2 (some (.object "OilPush$Cylinder")), Cond.fieldLink RX4 25 "OilPush$Plant" "count" "I", Cond.fieldLink RX4 17 "OilPush$Plant" "cylinders" "[LOilPush$Cylinder;", Cond.methodLink RX3 55 yX0_isAt, Cond.instanceMethod yX0_isAt, Cond.selects RX0 yX0_isAt yX0_isAt, Cond.initialized RX0, Cond.code yX0_isAt cX0_isAt 3 (some .boolean), Cond.methodLink RX0 31 yX0_room, Cond.instanceMethod yX0_room, Cond.selects RX0 yX0_room yX0_room, Cond.code yX0_room cX0_room 1 (some .int), Cond.fieldLink RX0 25 "OilPush$Cylinder" "area" "I", Cond.fieldLink RX0 28 "OilPush$Cylinder" "stroke" "I", Cond.methodLink RX0 31 ⟨"OilPush$Cylinder", "room", "()I"⟩, Cond.sameMethod "OilPush$Cylinder" "OilPush$Cylinder" "room" "()I"]
def wsX11_tick_r3 : List Cond := [Cond.selects RX2 ⟨"OilPush$Cylinder", "room", "()I"⟩ yX0_room, Cond.selects RX10 ⟨"OilPush$Cylinder", "room", "()I"⟩ yX0_room, Cond.methodLink RX3 55 ⟨"OilPush$Cylinder", "isAt", "(II)Z"⟩, Cond.sameMethod "OilPush$Cylinder" "OilPush$Cylinder" "isAt" "(II)Z", Cond.selects RX2 ⟨"OilPush$Cylinder", "isAt", "(II)Z"⟩ yX0_isAt, Cond.selects RX10 ⟨"OilPush$Cylinder", "isAt", "(II)Z"⟩ yX0_isAt, Cond.static yX11_set, Cond.code yX11_set cX11_set 3 none, Cond.methodLink RX11 204 yX1_run, Cond.instanceMethod yX1_run, Cond.selects RX1 yX1_run yX1_run, Cond.initialized RX1, Cond.code yX1_run cX1_run 6 none, Cond.fieldLink RX1 9 "OilPush$Engine" "took" "[I", Cond.fieldLink RX1 45 "OilPush$Plant" "gives" "I", Cond.fieldLink RX1 53 "OilPush$State" "store" "LOilPush$Store;", Cond.fieldLink RX1 65 "OilPush$Plant" "limit" "I", Cond.fieldLink RX1 68 "OilPush$Store" "cap" "I", Cond.fieldLink RX1 71 "OilPush$Store" "oil" "I", Cond.methodLink RX1 74 Lib.Math.min.name, Cond.static Lib.Math.min.name, Cond.initialized "java/lang/Math", Cond.code Lib.Math.min.name Lib.Math.min.code 2 (some .int), Cond.fieldLink RX1 80 "OilPush$Engine" "storeTook" "I"]
def wsX11_tick_r4 : List Cond := [Cond.fieldLink RX1 83 "OilPush$Engine" "over" "I", Cond.fieldLink RX1 86 "OilPush$Engine" "pressure" "I", Cond.methodLink RX1 88 Lib.Math.max.name, Cond.static Lib.Math.max.name, Cond.code Lib.Math.max.name Lib.Math.max.code 2 (some .int), Cond.methodLink RX1 27 yX4_at, Cond.methodLink RX1 33 yX1_drain, Cond.instanceMethod yX1_drain, Cond.selects RX1 yX1_drain yX1_drain, Cond.code yX1_drain cX1_drain 6 (some .int), Cond.fieldLink RX1 99 "OilPush$State" "oil" "[I", Cond.fieldLink RX1 101 "OilPush$Cylinder" "number" "I", Cond.methodLink RX1 110 yX1_mostLost, Cond.instanceMethod yX1_mostLost, Cond.selects RX1 yX1_mostLost yX1_mostLost, Cond.code yX1_mostLost cX1_mostLost 7 (some .int), Cond.classLink RX1 114 "OilPush$Held", Cond.fieldLink RX1 116 "OilPush$State" "valve" "[I", Cond.fieldLink RX1 119 "OilPush$State" "burst" "[I", Cond.fieldLink RX1 122 "OilPush$Cylinder" "flow" "I", Cond.methodLink RX1 125 yX0_loadAt, Cond.instanceMethod yX0_loadAt, Cond.selects RX0 yX0_loadAt yX0_loadAt, Cond.code yX0_loadAt cX0_loadAt 3 (some .int)]
def wsX11_tick_r5 : List Cond := [Cond.fieldLink RX0 9 "OilPush$Cylinder" "loads" "[I", Cond.fieldLink RX0 15 "OilPush$Cylinder" "loadCount" "I", Cond.methodLink RX0 35 Lib.Math.min.name, Cond.methodLink RX1 125 ⟨"OilPush$Cylinder", "loadAt", "(I)I"⟩, Cond.sameMethod "OilPush$Cylinder" "OilPush$Cylinder" "loadAt" "(I)I", Cond.selects RX2 ⟨"OilPush$Cylinder", "loadAt", "(I)I"⟩ yX0_loadAt, Cond.selects RX10 ⟨"OilPush$Cylinder", "loadAt", "(I)I"⟩ yX0_loadAt, Cond.methodLink RX1 41 yX1_lineUp, Cond.instanceMethod yX1_lineUp, Cond.selects RX1 yX1_lineUp yX1_lineUp, Cond.code yX1_lineUp cX1_lineUp 6 none, Cond.fieldLink RX1 129 "OilPush$Engine" "moving" "I", Cond.fieldLink RX1 132 "OilPush$Plant" "count" "I", Cond.fieldLink RX1 18 "OilPush$Engine" "need" "[I", Cond.fieldLink RX1 21 "OilPush$Engine" "most" "[I", Cond.methodLink RX1 135 yX0_needAt, Cond.instanceMethod yX0_needAt, Cond.selects RX0 yX0_needAt yX0_needAt, Cond.code yX0_needAt cX0_needAt 2 (some .int), Cond.fieldLink RX0 52 "OilPush$Cylinder" "crack" "I", Cond.methodLink RX0 45 yX0_loadAt, Cond.methodLink RX0 45 ⟨"OilPush$Cylinder", "loadAt", "(I)I"⟩, Cond.methodLink RX0 49 yX0_pushAgainst, Cond.instanceMethod yX0_pushAgainst]
def wsX11_tick_r6 : List Cond := [Cond.selects RX0 yX0_pushAgainst yX0_pushAgainst, Cond.code yX0_pushAgainst cX0_pushAgainst 2 (some .int), Cond.methodLink RX0 49 ⟨"OilPush$Cylinder", "pushAgainst", "(I)I"⟩, Cond.sameMethod "OilPush$Cylinder" "OilPush$Cylinder" "pushAgainst" "(I)I", Cond.selects RX2 ⟨"OilPush$Cylinder", "pushAgainst", "(I)I"⟩ yX0_pushAgainst, Cond.instanceMethod ⟨"OilPush$Cylinder", "pushAgainst", "(I)I"⟩, Cond.selects RX10 ⟨"OilPush$Cylinder", "pushAgainst", "(I)I"⟩ yX10_pushAgainst, Cond.instanceMethod yX10_pushAgainst, Cond.initialized RX10, Cond.code yX10_pushAgainst cX10_pushAgainst 2 (some .int), Cond.methodLink RX1 135 ⟨"OilPush$Cylinder", "needAt", "(I)I"⟩, Cond.sameMethod "OilPush$Cylinder" "OilPush$Cylinder" "needAt" "(I)I", Cond.selects RX2 ⟨"OilPush$Cylinder", "needAt", "(I)I"⟩ yX0_needAt, Cond.selects RX10 ⟨"OilPush$Cylinder", "needAt", "(I)I"⟩ yX0_needAt, Cond.methodLink RX1 138 yX0_room, Cond.methodLink RX1 138 ⟨"OilPush$Cylinder", "room", "()I"⟩, Cond.methodLink RX1 141 yX1_queue, Cond.instanceMethod yX1_queue, Cond.selects RX1 yX1_queue yX1_queue, Cond.code yX1_queue cX1_queue 3 none, Cond.fieldLink RX1 15 "OilPush$Engine" "line" "[I", Cond.methodLink RX1 49 yX1_takeFromPump, Cond.instanceMethod yX1_takeFromPump, Cond.selects RX1 yX1_takeFromPump yX1_takeFromPump]
def wsX11_tick_r7 : List Cond := [Cond.code yX1_takeFromPump cX1_takeFromPump 7 (some .int), Cond.fieldLink RX1 145 "OilPush$Engine" "takers" "I", Cond.fieldLink RX1 24 "OilPush$Engine" "taker" "[I", Cond.methodLink RX1 148 yX1_give, Cond.instanceMethod yX1_give, Cond.selects RX1 yX1_give yX1_give, Cond.code yX1_give cX1_give 4 none, Cond.methodLink RX1 59 yX8_pressure, Cond.instanceMethod yX8_pressure, Cond.selects RX8 yX8_pressure yX8_pressure, Cond.initialized RX8, Cond.code yX8_pressure cX8_pressure 1 (some .int), Cond.fieldLink RX8 7 "OilPush$Store" "stiff" "I", Cond.fieldLink RX8 13 "OilPush$Store" "first" "I", Cond.fieldLink RX8 16 "OilPush$Store" "oil" "I", Cond.methodLink RX1 91 yX1_addUp, Cond.instanceMethod yX1_addUp, Cond.selects RX1 yX1_addUp yX1_addUp, Cond.code yX1_addUp cX1_addUp 7 none, Cond.fieldLink RX1 152 "OilPush$Engine" "heat" "J", Cond.fieldLink RX1 156 "OilPush$Engine" "work" "J", Cond.fieldLink RX1 159 "OilPush$Engine" "given" "J", Cond.methodLink RX1 95 yX1_takeFromStore, Cond.instanceMethod yX1_takeFromStore]
def wsX11_tick_r8 : List Cond := [Cond.selects RX1 yX1_takeFromStore yX1_takeFromStore, Cond.code yX1_takeFromStore cX1_takeFromStore 5 none]
def wsX11_tick : List Cond := .code yX11_tick cX11_tick 3 (some .int) :: ((wsX11_tick_r1 ++ (wsX11_tick_r2 ++ (wsX11_tick_r3 ++ (wsX11_tick_r4 ++ (wsX11_tick_r5 ++ (wsX11_tick_r6 ++ (wsX11_tick_r7 ++ wsX11_tick_r8))))))) ++ wsX110 ++ wsX40 ++ wsX70 ++ wsX30 ++ wsX00 ++ wsX20 ++ wsX100 ++ wsX10 ++ wsX80)
def wsX11_gauge : List Cond := .code yX11_gauge cX11_gauge 2 (some .int) :: ([.fieldLink RX11 208 "OilPush" "ticked" "Z", .fieldLink RX11 28 "OilPush" "engine" "LOilPush$Engine;", .fieldLink RX11 212 "OilPush$Engine" "pressure" "I", .fieldLink RX11 215 "OilPush$Engine" "over" "I", .fieldLink RX11 218 "OilPush$Engine" "storeTook" "I", .fieldLink RX11 221 "OilPush$Engine" "takers" "I", .methodLink RX11 73 yX11_within, .static yX11_within, .initialized RX11, .code yX11_within cX11_within 3 (some .boolean)] ++ wsX110 ++ wsX10)
def wsX11_mover : List Cond := .code yX11_mover cX11_mover 2 (some .int) :: ([.fieldLink RX11 28 "OilPush" "engine" "LOilPush$Engine;", .fieldLink RX11 221 "OilPush$Engine" "takers" "I", .fieldLink RX11 224 "OilPush$Engine" "taker" "[I", .methodLink RX11 73 yX11_within, .static yX11_within, .initialized RX11, .code yX11_within cX11_within 3 (some .boolean), .methodLink RX11 181 yX11_get, .static yX11_get, .code yX11_get cX11_get 2 (some .int)] ++ wsX110 ++ wsX10)
def wsX11_sum : List Cond := .code yX11_sum cX11_sum 2 (some .long) :: ([.fieldLink RX11 28 "OilPush" "engine" "LOilPush$Engine;", .fieldLink RX11 227 "OilPush$Engine" "heat" "J", .fieldLink RX11 231 "OilPush$Engine" "work" "J", .fieldLink RX11 234 "OilPush$Engine" "given" "J", .fieldLink RX11 21 "OilPush" "now" "LOilPush$State;", .fieldLink RX11 155 "OilPush$State" "store" "LOilPush$Store;", .fieldLink RX11 159 "OilPush$Store" "oil" "I", .constantLong RX11 239 (-9223372036854775808), .methodLink RX11 237 yX8_pressure, .instanceMethod yX8_pressure, .selects RX8 yX8_pressure yX8_pressure, .initialized RX8, .code yX8_pressure cX8_pressure 1 (some .int), .fieldLink RX8 7 "OilPush$Store" "stiff" "I", .fieldLink RX8 13 "OilPush$Store" "first" "I", .fieldLink RX8 16 "OilPush$Store" "oil" "I"] ++ wsX110 ++ wsX10 ++ wsX70 ++ wsX80)
def wsX11_order_r1 : List Cond := [Cond.fieldLink RX11 12 "OilPush" "plant" "LOilPush$Plant;", Cond.fieldLink RX11 35 "OilPush" "orders" "LOilPush$Orders;", Cond.fieldLink RX11 244 "OilPush$Orders" "count" "I", Cond.methodLink RX11 90 yX4_at, Cond.instanceMethod yX4_at, Cond.selects RX4 yX4_at yX4_at, Cond.initialized RX4, Cond.code yX4_at cX4_at 2 (some (.object "OilPush$Cylinder")), Cond.fieldLink RX4 25 "OilPush$Plant" "count" "I", Cond.fieldLink RX4 17 "OilPush$Plant" "cylinders" "[LOilPush$Cylinder;", Cond.methodLink RX11 73 yX11_within, Cond.static yX11_within, Cond.initialized RX11, Cond.code yX11_within cX11_within 3 (some .boolean), Cond.methodLink RX11 241 yX3_add, Cond.instanceMethod yX3_add, Cond.selects RX3 yX3_add yX3_add, Cond.initialized RX3, Cond.code yX3_add cX3_add 5 (some .boolean), Cond.fieldLink RX3 24 "OilPush$Orders" "count" "I", Cond.fieldLink RX3 9 "OilPush$Orders" "waitsFor" "[I", Cond.fieldLink RX3 15 "OilPush$Orders" "end" "[I", Cond.fieldLink RX3 18 "OilPush$Orders" "turned" "[I", Cond.fieldLink RX3 21 "OilPush$Orders" "valve" "[I"]
def wsX11_order_r2 : List Cond := [Cond.static yX11_set, Cond.code yX11_set cX11_set 3 none]
def wsX11_order : List Cond := .code yX11_order cX11_order 5 (some .int) :: ((wsX11_order_r1 ++ wsX11_order_r2) ++ wsX110 ++ wsX30 ++ wsX40)
def wsX11_waits : List Cond := .code yX11_waits cX11_waits 1 (some .int) :: ([.fieldLink RX11 21 "OilPush" "now" "LOilPush$State;", .fieldLink RX11 245 "OilPush$State" "waits" "I"] ++ wsX110 ++ wsX70)
def wsX11_start_r1 : List Cond := [Cond.fieldLink RX11 39 "OilPush" "atStart" "LOilPush$State;", Cond.fieldLink RX11 21 "OilPush" "now" "LOilPush$State;", Cond.fieldLink RX11 252 "OilPush" "started" "Z", Cond.fieldLink RX11 197 "OilPush" "ticks" "I", Cond.methodLink RX11 248 yX7_become, Cond.instanceMethod yX7_become, Cond.selects RX7 yX7_become yX7_become, Cond.initialized RX7, Cond.code yX7_become cX7_become 3 none, Cond.fieldLink RX7 9 "OilPush$State" "oil" "[I", Cond.fieldLink RX7 15 "OilPush$State" "valve" "[I", Cond.fieldLink RX7 18 "OilPush$State" "burst" "[I", Cond.fieldLink RX7 24 "OilPush$State" "store" "LOilPush$Store;", Cond.fieldLink RX7 40 "OilPush$State" "waits" "I", Cond.static yX11_get, Cond.initialized RX11, Cond.code yX11_get cX11_get 2 (some .int), Cond.static yX11_set, Cond.code yX11_set cX11_set 3 none, Cond.methodLink RX7 36 yX8_become, Cond.instanceMethod yX8_become, Cond.selects RX8 yX8_become yX8_become, Cond.initialized RX8, Cond.code yX8_become cX8_become 2 none]
def wsX11_start_r2 : List Cond := [Cond.fieldLink RX8 19 "OilPush$Store" "cap" "I", Cond.fieldLink RX8 13 "OilPush$Store" "first" "I", Cond.fieldLink RX8 7 "OilPush$Store" "stiff" "I", Cond.fieldLink RX8 16 "OilPush$Store" "oil" "I"]
def wsX11_start : List Cond := .code yX11_start cX11_start 1 (some .int) :: ((wsX11_start_r1 ++ wsX11_start_r2) ++ wsX110 ++ wsX70 ++ wsX80)
def wsX11_reading_r1 : List Cond := [Cond.fieldLink RX11 12 "OilPush" "plant" "LOilPush$Plant;", Cond.fieldLink RX11 55 "OilPush" "readings" "LOilPush$Readings;", Cond.fieldLink RX11 256 "OilPush$Readings" "count" "I", Cond.methodLink RX11 90 yX4_at, Cond.instanceMethod yX4_at, Cond.selects RX4 yX4_at yX4_at, Cond.initialized RX4, Cond.code yX4_at cX4_at 2 (some (.object "OilPush$Cylinder")), Cond.fieldLink RX4 25 "OilPush$Plant" "count" "I", Cond.fieldLink RX4 17 "OilPush$Plant" "cylinders" "[LOilPush$Cylinder;", Cond.methodLink RX11 73 yX11_within, Cond.static yX11_within, Cond.initialized RX11, Cond.code yX11_within cX11_within 3 (some .boolean), Cond.methodLink RX11 145 yX0_room, Cond.instanceMethod yX0_room, Cond.selects RX0 yX0_room yX0_room, Cond.initialized RX0, Cond.code yX0_room cX0_room 1 (some .int), Cond.fieldLink RX0 25 "OilPush$Cylinder" "area" "I", Cond.fieldLink RX0 28 "OilPush$Cylinder" "stroke" "I", Cond.methodLink RX11 145 ⟨"OilPush$Cylinder", "room", "()I"⟩, Cond.sameMethod "OilPush$Cylinder" "OilPush$Cylinder" "room" "()I", Cond.selects RX2 ⟨"OilPush$Cylinder", "room", "()I"⟩ yX0_room]
def wsX11_reading_r2 : List Cond := [Cond.selects RX10 ⟨"OilPush$Cylinder", "room", "()I"⟩ yX0_room, Cond.methodLink RX11 255 yX5_add, Cond.instanceMethod yX5_add, Cond.selects RX5 yX5_add yX5_add, Cond.initialized RX5, Cond.code yX5_add cX5_add 4 (some .boolean), Cond.fieldLink RX5 21 "OilPush$Readings" "count" "I", Cond.fieldLink RX5 9 "OilPush$Readings" "time" "[I", Cond.fieldLink RX5 15 "OilPush$Readings" "of" "[I", Cond.fieldLink RX5 18 "OilPush$Readings" "oil" "[I", Cond.static yX11_set, Cond.code yX11_set cX11_set 3 none]
def wsX11_reading : List Cond := .code yX11_reading cX11_reading 5 (some .int) :: ((wsX11_reading_r1 ++ wsX11_reading_r2) ++ wsX110 ++ wsX50 ++ wsX40 ++ wsX00 ++ wsX20 ++ wsX100)
def wsX11_forget : List Cond := .code yX11_forget cX11_forget 2 (some .int) :: ([.fieldLink RX11 55 "OilPush" "readings" "LOilPush$Readings;", .fieldLink RX11 256 "OilPush$Readings" "count" "I"] ++ wsX110 ++ wsX50)
def wsX11_wouldTellAll_r1 : List Cond := [Cond.fieldLink RX11 42 "OilPush" "tried" "LOilPush$State;", Cond.fieldLink RX11 39 "OilPush" "atStart" "LOilPush$State;", Cond.fieldLink RX11 48 "OilPush" "triedLeaks" "[I", Cond.fieldLink RX11 55 "OilPush" "readings" "LOilPush$Readings;", Cond.fieldLink RX11 35 "OilPush" "orders" "LOilPush$Orders;", Cond.fieldLink RX11 12 "OilPush" "plant" "LOilPush$Plant;", Cond.fieldLink RX11 45 "OilPush" "trial" "LOilPush$Engine;", Cond.methodLink RX11 248 yX7_become, Cond.instanceMethod yX7_become, Cond.selects RX7 yX7_become yX7_become, Cond.initialized RX7, Cond.code yX7_become cX7_become 3 none, Cond.fieldLink RX7 9 "OilPush$State" "oil" "[I", Cond.fieldLink RX7 15 "OilPush$State" "valve" "[I", Cond.fieldLink RX7 18 "OilPush$State" "burst" "[I", Cond.fieldLink RX7 24 "OilPush$State" "store" "LOilPush$Store;", Cond.fieldLink RX7 40 "OilPush$State" "waits" "I", Cond.static yX11_get, Cond.initialized RX11, Cond.code yX11_get cX11_get 2 (some .int), Cond.static yX11_set, Cond.code yX11_set cX11_set 3 none, Cond.methodLink RX7 36 yX8_become, Cond.instanceMethod yX8_become]
def wsX11_wouldTellAll_r2 : List Cond := [Cond.selects RX8 yX8_become yX8_become, Cond.initialized RX8, Cond.code yX8_become cX8_become 2 none, Cond.fieldLink RX8 19 "OilPush$Store" "cap" "I", Cond.fieldLink RX8 13 "OilPush$Store" "first" "I", Cond.fieldLink RX8 7 "OilPush$Store" "stiff" "I", Cond.fieldLink RX8 16 "OilPush$Store" "oil" "I", Cond.methodLink RX11 266 yX11_set, Cond.methodLink RX11 257 yX5_latest, Cond.instanceMethod yX5_latest, Cond.selects RX5 yX5_latest yX5_latest, Cond.initialized RX5, Cond.code yX5_latest cX5_latest 3 (some .int), Cond.fieldLink RX5 21 "OilPush$Readings" "count" "I", Cond.fieldLink RX5 9 "OilPush$Readings" "time" "[I", Cond.methodLink RX5 33 Lib.Math.max.name, Cond.static Lib.Math.max.name, Cond.initialized "java/lang/Math", Cond.code Lib.Math.max.name Lib.Math.max.code 2 (some .int), Cond.methodLink RX11 269 yX5_areToldAt, Cond.instanceMethod yX5_areToldAt, Cond.selects RX5 yX5_areToldAt yX5_areToldAt, Cond.code yX5_areToldAt cX5_areToldAt 4 (some .boolean), Cond.fieldLink RX5 39 "OilPush$State" "oil" "[I"]
def wsX11_wouldTellAll_r3 : List Cond := [Cond.fieldLink RX5 15 "OilPush$Readings" "of" "[I", Cond.fieldLink RX5 18 "OilPush$Readings" "oil" "[I", Cond.methodLink RX11 200 yX3_obey, Cond.instanceMethod yX3_obey, Cond.selects RX3 yX3_obey yX3_obey, Cond.initialized RX3, Cond.code yX3_obey cX3_obey 5 none, Cond.fieldLink RX3 32 "OilPush$State" "waits" "I", Cond.fieldLink RX3 24 "OilPush$Orders" "count" "I", Cond.fieldLink RX3 9 "OilPush$Orders" "waitsFor" "[I", Cond.fieldLink RX3 15 "OilPush$Orders" "end" "[I", Cond.fieldLink RX3 47 "OilPush$State" "oil" "[I", Cond.fieldLink RX3 50 "OilPush$Cylinder" "number" "I", Cond.fieldLink RX3 59 "OilPush$State" "valve" "[I", Cond.fieldLink RX3 18 "OilPush$Orders" "turned" "[I", Cond.fieldLink RX3 21 "OilPush$Orders" "valve" "[I", Cond.methodLink RX3 41 yX4_at, Cond.instanceMethod yX4_at, Cond.selects RX4 yX4_at yX4_at, Cond.initialized RX4, Cond.code yX4_at cX4_at 2 (some (.object "OilPush$Cylinder")), Cond.fieldLink RX4 25 "OilPush$Plant" "count" "I", Cond.fieldLink RX4 17 "OilPush$Plant" "cylinders" "[LOilPush$Cylinder;", Cond.methodLink RX3 55 yX0_isAt]
def wsX11_wouldTellAll_r4 : List Cond := [Cond.instanceMethod yX0_isAt, Cond.selects RX0 yX0_isAt yX0_isAt, Cond.initialized RX0, Cond.code yX0_isAt cX0_isAt 3 (some .boolean), Cond.methodLink RX0 31 yX0_room, Cond.instanceMethod yX0_room, Cond.selects RX0 yX0_room yX0_room, Cond.code yX0_room cX0_room 1 (some .int), Cond.fieldLink RX0 25 "OilPush$Cylinder" "area" "I", Cond.fieldLink RX0 28 "OilPush$Cylinder" "stroke" "I", Cond.methodLink RX0 31 ⟨"OilPush$Cylinder", "room", "()I"⟩, Cond.sameMethod "OilPush$Cylinder" "OilPush$Cylinder" "room" "()I", Cond.selects RX2 ⟨"OilPush$Cylinder", "room", "()I"⟩ yX0_room, Cond.selects RX10 ⟨"OilPush$Cylinder", "room", "()I"⟩ yX0_room, Cond.methodLink RX3 55 ⟨"OilPush$Cylinder", "isAt", "(II)Z"⟩, Cond.sameMethod "OilPush$Cylinder" "OilPush$Cylinder" "isAt" "(II)Z", Cond.selects RX2 ⟨"OilPush$Cylinder", "isAt", "(II)Z"⟩ yX0_isAt, Cond.selects RX10 ⟨"OilPush$Cylinder", "isAt", "(II)Z"⟩ yX0_isAt, Cond.methodLink RX11 204 yX1_run, Cond.instanceMethod yX1_run, Cond.selects RX1 yX1_run yX1_run, Cond.initialized RX1, Cond.code yX1_run cX1_run 6 none, Cond.fieldLink RX1 9 "OilPush$Engine" "took" "[I"]
def wsX11_wouldTellAll_r5 : List Cond := [Cond.fieldLink RX1 45 "OilPush$Plant" "gives" "I", Cond.fieldLink RX1 53 "OilPush$State" "store" "LOilPush$Store;", Cond.fieldLink RX1 65 "OilPush$Plant" "limit" "I", Cond.fieldLink RX1 68 "OilPush$Store" "cap" "I", Cond.fieldLink RX1 71 "OilPush$Store" "oil" "I", Cond.methodLink RX1 74 Lib.Math.min.name, Cond.static Lib.Math.min.name, Cond.code Lib.Math.min.name Lib.Math.min.code 2 (some .int), Cond.fieldLink RX1 80 "OilPush$Engine" "storeTook" "I", Cond.fieldLink RX1 83 "OilPush$Engine" "over" "I", Cond.fieldLink RX1 86 "OilPush$Engine" "pressure" "I", Cond.methodLink RX1 88 Lib.Math.max.name, Cond.methodLink RX1 27 yX4_at, Cond.methodLink RX1 33 yX1_drain, Cond.instanceMethod yX1_drain, Cond.selects RX1 yX1_drain yX1_drain, Cond.code yX1_drain cX1_drain 6 (some .int), Cond.fieldLink RX1 99 "OilPush$State" "oil" "[I", Cond.fieldLink RX1 101 "OilPush$Cylinder" "number" "I", Cond.methodLink RX1 110 yX1_mostLost, Cond.instanceMethod yX1_mostLost, Cond.selects RX1 yX1_mostLost yX1_mostLost, Cond.code yX1_mostLost cX1_mostLost 7 (some .int), Cond.classLink RX1 114 "OilPush$Held"]
def wsX11_wouldTellAll_r6 : List Cond := [Cond.fieldLink RX1 116 "OilPush$State" "valve" "[I", Cond.fieldLink RX1 119 "OilPush$State" "burst" "[I", Cond.fieldLink RX1 122 "OilPush$Cylinder" "flow" "I", Cond.methodLink RX1 125 yX0_loadAt, Cond.instanceMethod yX0_loadAt, Cond.selects RX0 yX0_loadAt yX0_loadAt, Cond.code yX0_loadAt cX0_loadAt 3 (some .int), Cond.fieldLink RX0 9 "OilPush$Cylinder" "loads" "[I", Cond.fieldLink RX0 15 "OilPush$Cylinder" "loadCount" "I", Cond.methodLink RX0 35 Lib.Math.min.name, Cond.methodLink RX1 125 ⟨"OilPush$Cylinder", "loadAt", "(I)I"⟩, Cond.sameMethod "OilPush$Cylinder" "OilPush$Cylinder" "loadAt" "(I)I", Cond.selects RX2 ⟨"OilPush$Cylinder", "loadAt", "(I)I"⟩ yX0_loadAt, Cond.selects RX10 ⟨"OilPush$Cylinder", "loadAt", "(I)I"⟩ yX0_loadAt, Cond.methodLink RX1 41 yX1_lineUp, Cond.instanceMethod yX1_lineUp, Cond.selects RX1 yX1_lineUp yX1_lineUp, Cond.code yX1_lineUp cX1_lineUp 6 none, Cond.fieldLink RX1 129 "OilPush$Engine" "moving" "I", Cond.fieldLink RX1 132 "OilPush$Plant" "count" "I", Cond.fieldLink RX1 18 "OilPush$Engine" "need" "[I", Cond.fieldLink RX1 21 "OilPush$Engine" "most" "[I", Cond.methodLink RX1 135 yX0_needAt, Cond.instanceMethod yX0_needAt]
def wsX11_wouldTellAll_r7 : List Cond := [Cond.selects RX0 yX0_needAt yX0_needAt, Cond.code yX0_needAt cX0_needAt 2 (some .int), Cond.fieldLink RX0 52 "OilPush$Cylinder" "crack" "I", Cond.methodLink RX0 45 yX0_loadAt, Cond.methodLink RX0 45 ⟨"OilPush$Cylinder", "loadAt", "(I)I"⟩, Cond.methodLink RX0 49 yX0_pushAgainst, Cond.instanceMethod yX0_pushAgainst, Cond.selects RX0 yX0_pushAgainst yX0_pushAgainst, Cond.code yX0_pushAgainst cX0_pushAgainst 2 (some .int), Cond.methodLink RX0 49 ⟨"OilPush$Cylinder", "pushAgainst", "(I)I"⟩, Cond.sameMethod "OilPush$Cylinder" "OilPush$Cylinder" "pushAgainst" "(I)I", Cond.selects RX2 ⟨"OilPush$Cylinder", "pushAgainst", "(I)I"⟩ yX0_pushAgainst, Cond.instanceMethod ⟨"OilPush$Cylinder", "pushAgainst", "(I)I"⟩, Cond.selects RX10 ⟨"OilPush$Cylinder", "pushAgainst", "(I)I"⟩ yX10_pushAgainst, Cond.instanceMethod yX10_pushAgainst, Cond.initialized RX10, Cond.code yX10_pushAgainst cX10_pushAgainst 2 (some .int), Cond.methodLink RX1 135 ⟨"OilPush$Cylinder", "needAt", "(I)I"⟩, Cond.sameMethod "OilPush$Cylinder" "OilPush$Cylinder" "needAt" "(I)I", Cond.selects RX2 ⟨"OilPush$Cylinder", "needAt", "(I)I"⟩ yX0_needAt, Cond.selects RX10 ⟨"OilPush$Cylinder", "needAt", "(I)I"⟩ yX0_needAt, Cond.methodLink RX1 138 yX0_room, Cond.methodLink RX1 138 ⟨"OilPush$Cylinder", "room", "()I"⟩, Cond.methodLink RX1 141 yX1_queue]
def wsX11_wouldTellAll_r8 : List Cond := [Cond.instanceMethod yX1_queue, Cond.selects RX1 yX1_queue yX1_queue, Cond.code yX1_queue cX1_queue 3 none, Cond.fieldLink RX1 15 "OilPush$Engine" "line" "[I", Cond.methodLink RX1 49 yX1_takeFromPump, Cond.instanceMethod yX1_takeFromPump, Cond.selects RX1 yX1_takeFromPump yX1_takeFromPump, Cond.code yX1_takeFromPump cX1_takeFromPump 7 (some .int), Cond.fieldLink RX1 145 "OilPush$Engine" "takers" "I", Cond.fieldLink RX1 24 "OilPush$Engine" "taker" "[I", Cond.methodLink RX1 148 yX1_give, Cond.instanceMethod yX1_give, Cond.selects RX1 yX1_give yX1_give, Cond.code yX1_give cX1_give 4 none, Cond.methodLink RX1 59 yX8_pressure, Cond.instanceMethod yX8_pressure, Cond.selects RX8 yX8_pressure yX8_pressure, Cond.code yX8_pressure cX8_pressure 1 (some .int), Cond.methodLink RX1 91 yX1_addUp, Cond.instanceMethod yX1_addUp, Cond.selects RX1 yX1_addUp yX1_addUp, Cond.code yX1_addUp cX1_addUp 7 none, Cond.fieldLink RX1 152 "OilPush$Engine" "heat" "J", Cond.fieldLink RX1 156 "OilPush$Engine" "work" "J"]
def wsX11_wouldTellAll_r9 : List Cond := [Cond.fieldLink RX1 159 "OilPush$Engine" "given" "J", Cond.methodLink RX1 95 yX1_takeFromStore, Cond.instanceMethod yX1_takeFromStore, Cond.selects RX1 yX1_takeFromStore yX1_takeFromStore, Cond.code yX1_takeFromStore cX1_takeFromStore 5 none]
def wsX11_wouldTellAll : List Cond := .code yX11_wouldTellAll cX11_wouldTellAll 6 (some .boolean) :: ((wsX11_wouldTellAll_r1 ++ (wsX11_wouldTellAll_r2 ++ (wsX11_wouldTellAll_r3 ++ (wsX11_wouldTellAll_r4 ++ (wsX11_wouldTellAll_r5 ++ (wsX11_wouldTellAll_r6 ++ (wsX11_wouldTellAll_r7 ++ (wsX11_wouldTellAll_r8 ++ wsX11_wouldTellAll_r9)))))))) ++ wsX110 ++ wsX70 ++ wsX80 ++ wsX50 ++ wsX30 ++ wsX00 ++ wsX20 ++ wsX100 ++ wsX40 ++ wsX10)
def wsX11_leak_r1 : List Cond := [Cond.fieldLink RX11 252 "OilPush" "started" "Z", Cond.fieldLink RX11 197 "OilPush" "ticks" "I", Cond.fieldLink RX11 55 "OilPush" "readings" "LOilPush$Readings;", Cond.fieldLink RX11 12 "OilPush" "plant" "LOilPush$Plant;", Cond.fieldLink RX11 87 "OilPush$Plant" "count" "I", Cond.methodLink RX11 257 yX5_latest, Cond.instanceMethod yX5_latest, Cond.selects RX5 yX5_latest yX5_latest, Cond.initialized RX5, Cond.code yX5_latest cX5_latest 3 (some .int), Cond.fieldLink RX5 21 "OilPush$Readings" "count" "I", Cond.fieldLink RX5 9 "OilPush$Readings" "time" "[I", Cond.methodLink RX5 33 Lib.Math.max.name, Cond.static Lib.Math.max.name, Cond.initialized "java/lang/Math", Cond.code Lib.Math.max.name Lib.Math.max.code 2 (some .int), Cond.static yX11_get, Cond.initialized RX11, Cond.code yX11_get cX11_get 2 (some .int), Cond.methodLink RX11 260 yX4_isHeld, Cond.instanceMethod yX4_isHeld, Cond.selects RX4 yX4_isHeld yX4_isHeld, Cond.initialized RX4, Cond.code yX4_isHeld cX4_isHeld 2 (some .boolean)]
def wsX11_leak_r2 : List Cond := [Cond.classLink RX4 31 "OilPush$Held", Cond.methodLink RX4 37 yX4_at, Cond.instanceMethod yX4_at, Cond.selects RX4 yX4_at yX4_at, Cond.code yX4_at cX4_at 2 (some (.object "OilPush$Cylinder")), Cond.fieldLink RX4 25 "OilPush$Plant" "count" "I", Cond.fieldLink RX4 17 "OilPush$Plant" "cylinders" "[LOilPush$Cylinder;", Cond.methodLink RX11 263 yX11_wouldTellAll, Cond.instanceMethod yX11_wouldTellAll, Cond.selects RX11 yX11_wouldTellAll yX11_wouldTellAll, Cond.code yX11_wouldTellAll cX11_wouldTellAll 6 (some .boolean), Cond.fieldLink RX11 42 "OilPush" "tried" "LOilPush$State;", Cond.fieldLink RX11 39 "OilPush" "atStart" "LOilPush$State;", Cond.fieldLink RX11 48 "OilPush" "triedLeaks" "[I", Cond.fieldLink RX11 35 "OilPush" "orders" "LOilPush$Orders;", Cond.fieldLink RX11 45 "OilPush" "trial" "LOilPush$Engine;", Cond.methodLink RX11 248 yX7_become, Cond.instanceMethod yX7_become, Cond.selects RX7 yX7_become yX7_become, Cond.initialized RX7, Cond.code yX7_become cX7_become 3 none, Cond.fieldLink RX7 9 "OilPush$State" "oil" "[I", Cond.fieldLink RX7 15 "OilPush$State" "valve" "[I", Cond.fieldLink RX7 18 "OilPush$State" "burst" "[I"]
def wsX11_leak_r3 : List Cond := [Cond.fieldLink RX7 24 "OilPush$State" "store" "LOilPush$Store;", Cond.fieldLink RX7 40 "OilPush$State" "waits" "I", Cond.static yX11_set, Cond.code yX11_set cX11_set 3 none, Cond.methodLink RX7 36 yX8_become, Cond.instanceMethod yX8_become, Cond.selects RX8 yX8_become yX8_become, Cond.initialized RX8, Cond.code yX8_become cX8_become 2 none, Cond.fieldLink RX8 19 "OilPush$Store" "cap" "I", Cond.fieldLink RX8 13 "OilPush$Store" "first" "I", Cond.fieldLink RX8 7 "OilPush$Store" "stiff" "I", Cond.fieldLink RX8 16 "OilPush$Store" "oil" "I", Cond.methodLink RX11 266 yX11_set, Cond.methodLink RX11 269 yX5_areToldAt, Cond.instanceMethod yX5_areToldAt, Cond.selects RX5 yX5_areToldAt yX5_areToldAt, Cond.code yX5_areToldAt cX5_areToldAt 4 (some .boolean), Cond.fieldLink RX5 39 "OilPush$State" "oil" "[I", Cond.fieldLink RX5 15 "OilPush$Readings" "of" "[I", Cond.fieldLink RX5 18 "OilPush$Readings" "oil" "[I", Cond.methodLink RX11 200 yX3_obey, Cond.instanceMethod yX3_obey, Cond.selects RX3 yX3_obey yX3_obey]
def wsX11_leak_r4 : List Cond := [Cond.initialized RX3, Cond.code yX3_obey cX3_obey 5 none, Cond.fieldLink RX3 32 "OilPush$State" "waits" "I", Cond.fieldLink RX3 24 "OilPush$Orders" "count" "I", Cond.fieldLink RX3 9 "OilPush$Orders" "waitsFor" "[I", Cond.fieldLink RX3 15 "OilPush$Orders" "end" "[I", Cond.fieldLink RX3 47 "OilPush$State" "oil" "[I", Cond.fieldLink RX3 50 "OilPush$Cylinder" "number" "I", Cond.fieldLink RX3 59 "OilPush$State" "valve" "[I", Cond.fieldLink RX3 18 "OilPush$Orders" "turned" "[I", Cond.fieldLink RX3 21 "OilPush$Orders" "valve" "[I", Cond.methodLink RX3 41 yX4_at, Cond.methodLink RX3 55 yX0_isAt, Cond.instanceMethod yX0_isAt, Cond.selects RX0 yX0_isAt yX0_isAt, Cond.initialized RX0, Cond.code yX0_isAt cX0_isAt 3 (some .boolean), Cond.methodLink RX0 31 yX0_room, Cond.instanceMethod yX0_room, Cond.selects RX0 yX0_room yX0_room, Cond.code yX0_room cX0_room 1 (some .int), Cond.fieldLink RX0 25 "OilPush$Cylinder" "area" "I", Cond.fieldLink RX0 28 "OilPush$Cylinder" "stroke" "I", Cond.methodLink RX0 31 ⟨"OilPush$Cylinder", "room", "()I"⟩]
def wsX11_leak_r5 : List Cond := [Cond.sameMethod "OilPush$Cylinder" "OilPush$Cylinder" "room" "()I", Cond.selects RX2 ⟨"OilPush$Cylinder", "room", "()I"⟩ yX0_room, Cond.selects RX10 ⟨"OilPush$Cylinder", "room", "()I"⟩ yX0_room, Cond.methodLink RX3 55 ⟨"OilPush$Cylinder", "isAt", "(II)Z"⟩, Cond.sameMethod "OilPush$Cylinder" "OilPush$Cylinder" "isAt" "(II)Z", Cond.selects RX2 ⟨"OilPush$Cylinder", "isAt", "(II)Z"⟩ yX0_isAt, Cond.selects RX10 ⟨"OilPush$Cylinder", "isAt", "(II)Z"⟩ yX0_isAt, Cond.methodLink RX11 204 yX1_run, Cond.instanceMethod yX1_run, Cond.selects RX1 yX1_run yX1_run, Cond.initialized RX1, Cond.code yX1_run cX1_run 6 none, Cond.fieldLink RX1 9 "OilPush$Engine" "took" "[I", Cond.fieldLink RX1 45 "OilPush$Plant" "gives" "I", Cond.fieldLink RX1 53 "OilPush$State" "store" "LOilPush$Store;", Cond.fieldLink RX1 65 "OilPush$Plant" "limit" "I", Cond.fieldLink RX1 68 "OilPush$Store" "cap" "I", Cond.fieldLink RX1 71 "OilPush$Store" "oil" "I", Cond.methodLink RX1 74 Lib.Math.min.name, Cond.static Lib.Math.min.name, Cond.code Lib.Math.min.name Lib.Math.min.code 2 (some .int), Cond.fieldLink RX1 80 "OilPush$Engine" "storeTook" "I", Cond.fieldLink RX1 83 "OilPush$Engine" "over" "I", Cond.fieldLink RX1 86 "OilPush$Engine" "pressure" "I"]
def wsX11_leak_r6 : List Cond := [Cond.methodLink RX1 88 Lib.Math.max.name, Cond.methodLink RX1 27 yX4_at, Cond.methodLink RX1 33 yX1_drain, Cond.instanceMethod yX1_drain, Cond.selects RX1 yX1_drain yX1_drain, Cond.code yX1_drain cX1_drain 6 (some .int), Cond.fieldLink RX1 99 "OilPush$State" "oil" "[I", Cond.fieldLink RX1 101 "OilPush$Cylinder" "number" "I", Cond.methodLink RX1 110 yX1_mostLost, Cond.instanceMethod yX1_mostLost, Cond.selects RX1 yX1_mostLost yX1_mostLost, Cond.code yX1_mostLost cX1_mostLost 7 (some .int), Cond.classLink RX1 114 "OilPush$Held", Cond.fieldLink RX1 116 "OilPush$State" "valve" "[I", Cond.fieldLink RX1 119 "OilPush$State" "burst" "[I", Cond.fieldLink RX1 122 "OilPush$Cylinder" "flow" "I", Cond.methodLink RX1 125 yX0_loadAt, Cond.instanceMethod yX0_loadAt, Cond.selects RX0 yX0_loadAt yX0_loadAt, Cond.code yX0_loadAt cX0_loadAt 3 (some .int), Cond.fieldLink RX0 9 "OilPush$Cylinder" "loads" "[I", Cond.fieldLink RX0 15 "OilPush$Cylinder" "loadCount" "I", Cond.methodLink RX0 35 Lib.Math.min.name, Cond.methodLink RX1 125 ⟨"OilPush$Cylinder", "loadAt", "(I)I"⟩]
def wsX11_leak_r7 : List Cond := [Cond.sameMethod "OilPush$Cylinder" "OilPush$Cylinder" "loadAt" "(I)I", Cond.selects RX2 ⟨"OilPush$Cylinder", "loadAt", "(I)I"⟩ yX0_loadAt, Cond.selects RX10 ⟨"OilPush$Cylinder", "loadAt", "(I)I"⟩ yX0_loadAt, Cond.methodLink RX1 41 yX1_lineUp, Cond.instanceMethod yX1_lineUp, Cond.selects RX1 yX1_lineUp yX1_lineUp, Cond.code yX1_lineUp cX1_lineUp 6 none, Cond.fieldLink RX1 129 "OilPush$Engine" "moving" "I", Cond.fieldLink RX1 132 "OilPush$Plant" "count" "I", Cond.fieldLink RX1 18 "OilPush$Engine" "need" "[I", Cond.fieldLink RX1 21 "OilPush$Engine" "most" "[I", Cond.methodLink RX1 135 yX0_needAt, Cond.instanceMethod yX0_needAt, Cond.selects RX0 yX0_needAt yX0_needAt, Cond.code yX0_needAt cX0_needAt 2 (some .int), Cond.fieldLink RX0 52 "OilPush$Cylinder" "crack" "I", Cond.methodLink RX0 45 yX0_loadAt, Cond.methodLink RX0 45 ⟨"OilPush$Cylinder", "loadAt", "(I)I"⟩, Cond.methodLink RX0 49 yX0_pushAgainst, Cond.instanceMethod yX0_pushAgainst, Cond.selects RX0 yX0_pushAgainst yX0_pushAgainst, Cond.code yX0_pushAgainst cX0_pushAgainst 2 (some .int), Cond.methodLink RX0 49 ⟨"OilPush$Cylinder", "pushAgainst", "(I)I"⟩, Cond.sameMethod "OilPush$Cylinder" "OilPush$Cylinder" "pushAgainst" "(I)I"]
def wsX11_leak_r8 : List Cond := [Cond.selects RX2 ⟨"OilPush$Cylinder", "pushAgainst", "(I)I"⟩ yX0_pushAgainst, Cond.instanceMethod ⟨"OilPush$Cylinder", "pushAgainst", "(I)I"⟩, Cond.selects RX10 ⟨"OilPush$Cylinder", "pushAgainst", "(I)I"⟩ yX10_pushAgainst, Cond.instanceMethod yX10_pushAgainst, Cond.initialized RX10, Cond.code yX10_pushAgainst cX10_pushAgainst 2 (some .int), Cond.methodLink RX1 135 ⟨"OilPush$Cylinder", "needAt", "(I)I"⟩, Cond.sameMethod "OilPush$Cylinder" "OilPush$Cylinder" "needAt" "(I)I", Cond.selects RX2 ⟨"OilPush$Cylinder", "needAt", "(I)I"⟩ yX0_needAt, Cond.selects RX10 ⟨"OilPush$Cylinder", "needAt", "(I)I"⟩ yX0_needAt, Cond.methodLink RX1 138 yX0_room, Cond.methodLink RX1 138 ⟨"OilPush$Cylinder", "room", "()I"⟩, Cond.methodLink RX1 141 yX1_queue, Cond.instanceMethod yX1_queue, Cond.selects RX1 yX1_queue yX1_queue, Cond.code yX1_queue cX1_queue 3 none, Cond.fieldLink RX1 15 "OilPush$Engine" "line" "[I", Cond.methodLink RX1 49 yX1_takeFromPump, Cond.instanceMethod yX1_takeFromPump, Cond.selects RX1 yX1_takeFromPump yX1_takeFromPump, Cond.code yX1_takeFromPump cX1_takeFromPump 7 (some .int), Cond.fieldLink RX1 145 "OilPush$Engine" "takers" "I", Cond.fieldLink RX1 24 "OilPush$Engine" "taker" "[I", Cond.methodLink RX1 148 yX1_give]
def wsX11_leak_r9 : List Cond := [Cond.instanceMethod yX1_give, Cond.selects RX1 yX1_give yX1_give, Cond.code yX1_give cX1_give 4 none, Cond.methodLink RX1 59 yX8_pressure, Cond.instanceMethod yX8_pressure, Cond.selects RX8 yX8_pressure yX8_pressure, Cond.code yX8_pressure cX8_pressure 1 (some .int), Cond.methodLink RX1 91 yX1_addUp, Cond.instanceMethod yX1_addUp, Cond.selects RX1 yX1_addUp yX1_addUp, Cond.code yX1_addUp cX1_addUp 7 none, Cond.fieldLink RX1 152 "OilPush$Engine" "heat" "J", Cond.fieldLink RX1 156 "OilPush$Engine" "work" "J", Cond.fieldLink RX1 159 "OilPush$Engine" "given" "J", Cond.methodLink RX1 95 yX1_takeFromStore, Cond.instanceMethod yX1_takeFromStore, Cond.selects RX1 yX1_takeFromStore yX1_takeFromStore, Cond.code yX1_takeFromStore cX1_takeFromStore 5 none]
def wsX11_leak : List Cond := .code yX11_leak cX11_leak 4 (some .int) :: ((wsX11_leak_r1 ++ (wsX11_leak_r2 ++ (wsX11_leak_r3 ++ (wsX11_leak_r4 ++ (wsX11_leak_r5 ++ (wsX11_leak_r6 ++ (wsX11_leak_r7 ++ (wsX11_leak_r8 ++ wsX11_leak_r9)))))))) ++ wsX110 ++ wsX40 ++ wsX50 ++ wsX70 ++ wsX80 ++ wsX30 ++ wsX00 ++ wsX20 ++ wsX100 ++ wsX10)
def wsX11_sheet_r1 : List Cond := [Cond.fieldLink RX11 110 "OilPush" "latestFault" "I", Cond.methodLink RX11 113 yX11_sheetAt, Cond.instanceMethod yX11_sheetAt, Cond.selects RX11 yX11_sheetAt yX11_sheetAt, Cond.initialized RX11, Cond.code yX11_sheetAt cX11_sheetAt 2 (some (.object "OilPush$Sheet")), Cond.fieldLink RX11 61 "OilPush" "sheets" "[LOilPush$Sheet;", Cond.methodLink RX11 117 yX11_isLane, Cond.static yX11_isLane, Cond.code yX11_isLane cX11_isLane 1 (some .boolean), Cond.methodLink RX11 73 yX11_within, Cond.static yX11_within, Cond.code yX11_within cX11_within 3 (some .boolean), Cond.methodLink RX11 124 yX11_faulted, Cond.instanceMethod yX11_faulted, Cond.selects RX11 yX11_faulted yX11_faulted, Cond.code yX11_faulted cX11_faulted 2 (some .int), Cond.methodLink RX11 273 yX6_renew, Cond.instanceMethod yX6_renew, Cond.selects RX6 yX6_renew yX6_renew, Cond.initialized RX6, Cond.code yX6_renew cX6_renew 3 none, Cond.fieldLink RX6 9 "OilPush$Sheet" "cells" "[I", Cond.fieldLink RX6 21 "OilPush$Sheet" "has" "Z"]
def wsX11_sheet_r2 : List Cond := [Cond.fieldLink RX6 25 "OilPush$Sheet" "lane" "I", Cond.methodLink RX6 29 Lib.Math.min.name, Cond.static Lib.Math.min.name, Cond.initialized "java/lang/Math", Cond.code Lib.Math.min.name Lib.Math.min.code 2 (some .int), Cond.fieldLink RX6 35 "OilPush$Sheet" "length" "I", Cond.methodLink RX6 15 yJ7_fill_53178, Cond.static yJ7_fill_53178, Cond.initialized RJ7, Cond.code yJ7_fill_53178 cJ7_fill_53178 4 none]
def wsX11_sheet : List Cond := .code yX11_sheet cX11_sheet 5 (some .int) :: ((wsX11_sheet_r1 ++ wsX11_sheet_r2) ++ wsX110 ++ wsX60)
def wsX11_lose : List Cond := .code yX11_lose cX11_lose 4 (some .int) :: ([.fieldLink RX11 277 "OilPush$Sheet" "has" "Z", .methodLink RX11 113 yX11_sheetAt, .instanceMethod yX11_sheetAt, .selects RX11 yX11_sheetAt yX11_sheetAt, .initialized RX11, .code yX11_sheetAt cX11_sheetAt 2 (some (.object "OilPush$Sheet")), .fieldLink RX11 61 "OilPush" "sheets" "[LOilPush$Sheet;"] ++ wsX60 ++ wsX110)
def wsX11_put_r1 : List Cond := [Cond.fieldLink RX11 110 "OilPush" "latestFault" "I", Cond.fieldLink RX11 277 "OilPush$Sheet" "has" "Z", Cond.methodLink RX11 113 yX11_sheetAt, Cond.instanceMethod yX11_sheetAt, Cond.selects RX11 yX11_sheetAt yX11_sheetAt, Cond.initialized RX11, Cond.code yX11_sheetAt cX11_sheetAt 2 (some (.object "OilPush$Sheet")), Cond.fieldLink RX11 61 "OilPush" "sheets" "[LOilPush$Sheet;", Cond.methodLink RX11 124 yX11_faulted, Cond.instanceMethod yX11_faulted, Cond.selects RX11 yX11_faulted yX11_faulted, Cond.code yX11_faulted cX11_faulted 2 (some .int), Cond.methodLink RX11 127 yX6_holds, Cond.instanceMethod yX6_holds, Cond.selects RX6 yX6_holds yX6_holds, Cond.initialized RX6, Cond.code yX6_holds cX6_holds 3 (some .boolean), Cond.fieldLink RX6 35 "OilPush$Sheet" "length" "I", Cond.methodLink RX11 280 yX6_write, Cond.instanceMethod yX6_write, Cond.selects RX6 yX6_write yX6_write, Cond.code yX6_write cX6_write 3 none, Cond.fieldLink RX6 9 "OilPush$Sheet" "cells" "[I", Cond.fieldLink RX6 25 "OilPush$Sheet" "lane" "I"]
def wsX11_put_r2 : List Cond := [Cond.static yX11_set, Cond.code yX11_set cX11_set 3 none]
def wsX11_put : List Cond := .code yX11_put cX11_put 5 (some .int) :: ((wsX11_put_r1 ++ wsX11_put_r2) ++ wsX110 ++ wsX60)
def wsX11_cell_r1 : List Cond := [Cond.fieldLink RX11 110 "OilPush" "latestFault" "I", Cond.constantLong RX11 239 (-9223372036854775808), Cond.fieldLink RX11 135 "OilPush$Sheet" "cells" "[I", Cond.methodLink RX11 113 yX11_sheetAt, Cond.instanceMethod yX11_sheetAt, Cond.selects RX11 yX11_sheetAt yX11_sheetAt, Cond.initialized RX11, Cond.code yX11_sheetAt cX11_sheetAt 2 (some (.object "OilPush$Sheet")), Cond.fieldLink RX11 61 "OilPush" "sheets" "[LOilPush$Sheet;", Cond.methodLink RX11 117 yX11_isLane, Cond.static yX11_isLane, Cond.code yX11_isLane cX11_isLane 1 (some .boolean), Cond.methodLink RX11 73 yX11_within, Cond.static yX11_within, Cond.code yX11_within cX11_within 3 (some .boolean), Cond.methodLink RX11 121 yX6_faultTakenAs, Cond.instanceMethod yX6_faultTakenAs, Cond.selects RX6 yX6_faultTakenAs yX6_faultTakenAs, Cond.initialized RX6, Cond.code yX6_faultTakenAs cX6_faultTakenAs 2 (some .int), Cond.fieldLink RX6 21 "OilPush$Sheet" "has" "Z", Cond.fieldLink RX6 25 "OilPush$Sheet" "lane" "I", Cond.methodLink RX11 127 yX6_holds, Cond.instanceMethod yX6_holds]
def wsX11_cell_r2 : List Cond := [Cond.selects RX6 yX6_holds yX6_holds, Cond.code yX6_holds cX6_holds 3 (some .boolean), Cond.fieldLink RX6 35 "OilPush$Sheet" "length" "I", Cond.methodLink RX11 181 yX11_get, Cond.static yX11_get, Cond.code yX11_get cX11_get 2 (some .int)]
def wsX11_cell : List Cond := .code yX11_cell cX11_cell 5 (some .long) :: ((wsX11_cell_r1 ++ wsX11_cell_r2) ++ wsX110 ++ wsX60)
def wsX11_copy : List Cond := .code yX11_copy cX11_copy 8 (some .int) :: ([.fieldLink RX11 110 "OilPush" "latestFault" "I", .fieldLink RX11 277 "OilPush$Sheet" "has" "Z", .fieldLink RX11 283 "OilPush$Sheet" "lane" "I", .fieldLink RX11 135 "OilPush$Sheet" "cells" "[I", .methodLink RX11 286 arraycopyName, .native arraycopyName, .static arraycopyName, .initialized "java/lang/System", .methodLink RX11 113 yX11_sheetAt, .instanceMethod yX11_sheetAt, .selects RX11 yX11_sheetAt yX11_sheetAt, .initialized RX11, .code yX11_sheetAt cX11_sheetAt 2 (some (.object "OilPush$Sheet")), .fieldLink RX11 61 "OilPush" "sheets" "[LOilPush$Sheet;", .methodLink RX11 124 yX11_faulted, .instanceMethod yX11_faulted, .selects RX11 yX11_faulted yX11_faulted, .code yX11_faulted cX11_faulted 2 (some .int), .methodLink RX11 127 yX6_holds, .instanceMethod yX6_holds, .selects RX6 yX6_holds yX6_holds, .initialized RX6, .code yX6_holds cX6_holds 3 (some .boolean), .fieldLink RX6 35 "OilPush$Sheet" "length" "I"] ++ wsX110 ++ wsX60)
def wsX11_tell_r1 : List Cond := [Cond.fieldLink RX11 12 "OilPush" "plant" "LOilPush$Plant;", Cond.fieldLink RX11 68 "OilPush" "trace" "LOilPush$Trace;", Cond.fieldLink RX11 21 "OilPush" "now" "LOilPush$State;", Cond.fieldLink RX11 149 "OilPush$State" "oil" "[I", Cond.methodLink RX11 90 yX4_at, Cond.instanceMethod yX4_at, Cond.selects RX4 yX4_at yX4_at, Cond.initialized RX4, Cond.code yX4_at cX4_at 2 (some (.object "OilPush$Cylinder")), Cond.fieldLink RX4 25 "OilPush$Plant" "count" "I", Cond.fieldLink RX4 17 "OilPush$Plant" "cylinders" "[LOilPush$Cylinder;", Cond.methodLink RX11 181 yX11_get, Cond.static yX11_get, Cond.initialized RX11, Cond.code yX11_get cX11_get 2 (some .int), Cond.methodLink RX11 292 yX0_toldBy, Cond.instanceMethod yX0_toldBy, Cond.selects RX0 yX0_toldBy yX0_toldBy, Cond.initialized RX0, Cond.code yX0_toldBy cX0_toldBy 3 (some .int), Cond.methodLink RX0 59 yX0_plainlyTold, Cond.instanceMethod yX0_plainlyTold, Cond.selects RX0 yX0_plainlyTold yX0_plainlyTold, Cond.code yX0_plainlyTold cX0_plainlyTold 3 (some .int)]
def wsX11_tell_r2 : List Cond := [Cond.methodLink RX0 63 yX9_leave, Cond.instanceMethod yX9_leave, Cond.selects RX9 yX9_leave yX9_leave, Cond.initialized RX9, Cond.code yX9_leave cX9_leave 2 none, Cond.fieldLink RX9 7 "OilPush$Trace" "value" "I", Cond.methodLink RX0 59 ⟨"OilPush$Cylinder", "plainlyTold", "(LOilPush$Trace;I)I"⟩, Cond.sameMethod "OilPush$Cylinder" "OilPush$Cylinder" "plainlyTold" "(LOilPush$Trace;I)I", Cond.selects RX2 ⟨"OilPush$Cylinder", "plainlyTold", "(LOilPush$Trace;I)I"⟩ yX0_plainlyTold, Cond.selects RX10 ⟨"OilPush$Cylinder", "plainlyTold", "(LOilPush$Trace;I)I"⟩ yX0_plainlyTold, Cond.methodLink RX11 292 ⟨"OilPush$Cylinder", "toldBy", "(LOilPush$Trace;I)I"⟩, Cond.sameMethod "OilPush$Cylinder" "OilPush$Cylinder" "toldBy" "(LOilPush$Trace;I)I", Cond.instanceMethod ⟨"OilPush$Cylinder", "toldBy", "(LOilPush$Trace;I)I"⟩, Cond.selects RX2 ⟨"OilPush$Cylinder", "toldBy", "(LOilPush$Trace;I)I"⟩ yX2_toldBy, Cond.instanceMethod yX2_toldBy, Cond.initialized RX2, Cond.code yX2_toldBy cX2_toldBy 3 (some .int), Cond.constant RX2 19 (1000000), Cond.methodLink RX2 7 yX9_leave, Cond.methodLink RX2 13 ⟨"OilPush$Held", "plainlyTold", "(LOilPush$Trace;I)I"⟩, Cond.sameMethod "OilPush$Held" "OilPush$Cylinder" "plainlyTold" "(LOilPush$Trace;I)I", Cond.selects RX2 ⟨"OilPush$Held", "plainlyTold", "(LOilPush$Trace;I)I"⟩ yX0_plainlyTold, Cond.selects RX10 ⟨"OilPush$Held", "plainlyTold", "(LOilPush$Trace;I)I"⟩ yX0_plainlyTold, Cond.selects RX10 ⟨"OilPush$Cylinder", "toldBy", "(LOilPush$Trace;I)I"⟩ yX10_toldBy]
def wsX11_tell_r3 : List Cond := [Cond.instanceMethod yX10_toldBy, Cond.initialized RX10, Cond.code yX10_toldBy cX10_toldBy 3 (some .int), Cond.methodLink RX10 11 yX9_leave, Cond.methodLink RX10 17 ⟨"OilPush$Twin", "plainlyTold", "(LOilPush$Trace;I)I"⟩, Cond.sameMethod "OilPush$Twin" "OilPush$Cylinder" "plainlyTold" "(LOilPush$Trace;I)I", Cond.selects RX10 ⟨"OilPush$Twin", "plainlyTold", "(LOilPush$Trace;I)I"⟩ yX0_plainlyTold]
def wsX11_tell : List Cond := .code yX11_tell cX11_tell 3 (some .int) :: ((wsX11_tell_r1 ++ (wsX11_tell_r2 ++ wsX11_tell_r3)) ++ wsX110 ++ wsX70 ++ wsX40 ++ wsX90)
def wsX11_look_r1 : List Cond := [Cond.fieldLink RX11 12 "OilPush" "plant" "LOilPush$Plant;", Cond.fieldLink RX11 68 "OilPush" "trace" "LOilPush$Trace;", Cond.methodLink RX11 90 yX4_at, Cond.instanceMethod yX4_at, Cond.selects RX4 yX4_at yX4_at, Cond.initialized RX4, Cond.code yX4_at cX4_at 2 (some (.object "OilPush$Cylinder")), Cond.fieldLink RX4 25 "OilPush$Plant" "count" "I", Cond.fieldLink RX4 17 "OilPush$Plant" "cylinders" "[LOilPush$Cylinder;", Cond.methodLink RX11 296 yX0_seenBy, Cond.instanceMethod yX0_seenBy, Cond.selects RX0 yX0_seenBy yX0_seenBy, Cond.initialized RX0, Cond.code yX0_seenBy cX0_seenBy 2 (some .int), Cond.fieldLink RX0 22 "OilPush$Cylinder" "number" "I", Cond.methodLink RX0 63 yX9_leave, Cond.instanceMethod yX9_leave, Cond.selects RX9 yX9_leave yX9_leave, Cond.initialized RX9, Cond.code yX9_leave cX9_leave 2 none, Cond.fieldLink RX9 7 "OilPush$Trace" "value" "I", Cond.methodLink RX11 296 ⟨"OilPush$Cylinder", "seenBy", "(LOilPush$Trace;)I"⟩, Cond.sameMethod "OilPush$Cylinder" "OilPush$Cylinder" "seenBy" "(LOilPush$Trace;)I", Cond.selects RX2 ⟨"OilPush$Cylinder", "seenBy", "(LOilPush$Trace;)I"⟩ yX0_seenBy]
def wsX11_look_r2 : List Cond := [Cond.instanceMethod ⟨"OilPush$Cylinder", "seenBy", "(LOilPush$Trace;)I"⟩, Cond.selects RX10 ⟨"OilPush$Cylinder", "seenBy", "(LOilPush$Trace;)I"⟩ yX10_seenBy, Cond.instanceMethod yX10_seenBy, Cond.initialized RX10, Cond.code yX10_seenBy cX10_seenBy 2 (some .int), Cond.methodLink RX10 11 yX9_leave]
def wsX11_look : List Cond := .code yX11_look cX11_look 3 (some .int) :: ((wsX11_look_r1 ++ wsX11_look_r2) ++ wsX110 ++ wsX40 ++ wsX00 ++ wsX20 ++ wsX100 ++ wsX90)
def wsX11_as : List Cond := .code yX11_as cX11_as 5 (some .int) :: ([.fieldLink RX11 110 "OilPush" "latestFault" "I", .fieldLink RX11 12 "OilPush" "plant" "LOilPush$Plant;", .classLink RX11 300 "OilPush$Held", .classLink RX11 302 "OilPush$Twin", .methodLink RX11 90 yX4_at, .instanceMethod yX4_at, .selects RX4 yX4_at yX4_at, .initialized RX4, .code yX4_at cX4_at 2 (some (.object "OilPush$Cylinder")), .fieldLink RX4 25 "OilPush$Plant" "count" "I", .fieldLink RX4 17 "OilPush$Plant" "cylinders" "[LOilPush$Cylinder;", .methodLink RX11 73 yX11_within, .static yX11_within, .initialized RX11, .code yX11_within cX11_within 3 (some .boolean), .methodLink RX11 124 yX11_faulted, .instanceMethod yX11_faulted, .selects RX11 yX11_faulted yX11_faulted, .code yX11_faulted cX11_faulted 2 (some .int)] ++ wsX110 ++ wsX40)
def wsX11_trace : List Cond := .code yX11_trace cX11_trace 1 (some .int) :: ([.fieldLink RX11 68 "OilPush" "trace" "LOilPush$Trace;", .fieldLink RX11 304 "OilPush$Trace" "value" "I"] ++ wsX110 ++ wsX90)
def wsX11_fault : List Cond := .code yX11_fault cX11_fault 1 (some .int) :: ([.fieldLink RX11 110 "OilPush" "latestFault" "I"] ++ wsX110)
def wsX11_told_r1 : List Cond := [Cond.fieldLink RX11 12 "OilPush" "plant" "LOilPush$Plant;", Cond.fieldLink RX11 87 "OilPush$Plant" "count" "I", Cond.fieldLink RX11 35 "OilPush" "orders" "LOilPush$Orders;", Cond.fieldLink RX11 244 "OilPush$Orders" "count" "I", Cond.fieldLink RX11 55 "OilPush" "readings" "LOilPush$Readings;", Cond.fieldLink RX11 256 "OilPush$Readings" "count" "I", Cond.fieldLink RX11 197 "OilPush" "ticks" "I", Cond.fieldLink RX11 21 "OilPush" "now" "LOilPush$State;", Cond.methodLink RX11 307 yX4_howManyAt, Cond.instanceMethod yX4_howManyAt, Cond.selects RX4 yX4_howManyAt yX4_howManyAt, Cond.initialized RX4, Cond.code yX4_howManyAt cX4_howManyAt 6 (some .int), Cond.fieldLink RX4 25 "OilPush$Plant" "count" "I", Cond.fieldLink RX4 41 "OilPush$State" "oil" "[I", Cond.methodLink RX4 37 yX4_at, Cond.instanceMethod yX4_at, Cond.selects RX4 yX4_at yX4_at, Cond.code yX4_at cX4_at 2 (some (.object "OilPush$Cylinder")), Cond.fieldLink RX4 17 "OilPush$Plant" "cylinders" "[LOilPush$Cylinder;", Cond.static yX11_get, Cond.initialized RX11, Cond.code yX11_get cX11_get 2 (some .int), Cond.methodLink RX4 50 yX0_isAt]
def wsX11_told_r2 : List Cond := [Cond.instanceMethod yX0_isAt, Cond.selects RX0 yX0_isAt yX0_isAt, Cond.initialized RX0, Cond.code yX0_isAt cX0_isAt 3 (some .boolean), Cond.methodLink RX0 31 yX0_room, Cond.instanceMethod yX0_room, Cond.selects RX0 yX0_room yX0_room, Cond.code yX0_room cX0_room 1 (some .int), Cond.fieldLink RX0 25 "OilPush$Cylinder" "area" "I", Cond.fieldLink RX0 28 "OilPush$Cylinder" "stroke" "I", Cond.methodLink RX0 31 ⟨"OilPush$Cylinder", "room", "()I"⟩, Cond.sameMethod "OilPush$Cylinder" "OilPush$Cylinder" "room" "()I", Cond.selects RX2 ⟨"OilPush$Cylinder", "room", "()I"⟩ yX0_room, Cond.selects RX10 ⟨"OilPush$Cylinder", "room", "()I"⟩ yX0_room, Cond.methodLink RX4 50 ⟨"OilPush$Cylinder", "isAt", "(II)Z"⟩, Cond.sameMethod "OilPush$Cylinder" "OilPush$Cylinder" "isAt" "(II)Z", Cond.selects RX2 ⟨"OilPush$Cylinder", "isAt", "(II)Z"⟩ yX0_isAt, Cond.selects RX10 ⟨"OilPush$Cylinder", "isAt", "(II)Z"⟩ yX0_isAt]
def wsX11_told : List Cond := .code yX11_told cX11_told 2 (some .int) :: ((wsX11_told_r1 ++ wsX11_told_r2) ++ wsX110 ++ wsX40 ++ wsX30 ++ wsX50 ++ wsX70 ++ wsX00 ++ wsX20 ++ wsX100)
def wsX12_init_r1 : List Cond := [Cond.methodLink RX12 1 objectInit, Cond.instanceMethod objectInit, Cond.code objectInit ⟨#[0xb1]⟩ 1 none, Cond.arrayClass .int, Cond.fieldLink RX12 7 "OilPushModel" "sheetSize" "[I", Cond.fieldLink RX12 13 "OilPushModel" "sheetLane" "[I", Cond.fieldLink RX12 16 "OilPushModel" "sheet" "[I", Cond.fieldLink RX12 19 "OilPushModel" "hands" "[I", Cond.fieldLink RX12 22 "OilPushModel" "kind" "[I", Cond.fieldLink RX12 25 "OilPushModel" "area" "[I", Cond.fieldLink RX12 28 "OilPushModel" "stroke" "[I", Cond.fieldLink RX12 31 "OilPushModel" "oil" "[I", Cond.fieldLink RX12 34 "OilPushModel" "loadMany" "[I", Cond.fieldLink RX12 37 "OilPushModel" "load" "[I", Cond.fieldLink RX12 40 "OilPushModel" "crack" "[I", Cond.fieldLink RX12 43 "OilPushModel" "flow" "[I", Cond.fieldLink RX12 46 "OilPushModel" "leaks" "[I", Cond.fieldLink RX12 49 "OilPushModel" "valves" "[I", Cond.arrayClass .boolean, Cond.fieldLink RX12 52 "OilPushModel" "isBurst" "[Z", Cond.fieldLink RX12 56 "OilPushModel" "took" "[I", Cond.fieldLink RX12 59 "OilPushModel" "orderC" "[I", Cond.fieldLink RX12 62 "OilPushModel" "orderEnd" "[I", Cond.fieldLink RX12 65 "OilPushModel" "orderD" "[I"]
def wsX12_init_r2 : List Cond := [Cond.fieldLink RX12 68 "OilPushModel" "orderV" "[I", Cond.fieldLink RX12 71 "OilPushModel" "mover" "[I", Cond.fieldLink RX12 74 "OilPushModel" "row" "[I", Cond.fieldLink RX12 77 "OilPushModel" "need" "[I", Cond.fieldLink RX12 80 "OilPushModel" "mayTake" "[I", Cond.fieldLink RX12 83 "OilPushModel" "pumped" "[I", Cond.fieldLink RX12 86 "OilPushModel" "startOil" "[I", Cond.fieldLink RX12 89 "OilPushModel" "startValves" "[I", Cond.fieldLink RX12 92 "OilPushModel" "startBurst" "[Z", Cond.fieldLink RX12 95 "OilPushModel" "readT" "[I", Cond.fieldLink RX12 98 "OilPushModel" "readC" "[I", Cond.fieldLink RX12 101 "OilPushModel" "readX" "[I", Cond.fieldLink RX12 104 "OilPushModel" "asideOil" "[I", Cond.fieldLink RX12 107 "OilPushModel" "asideValves" "[I", Cond.fieldLink RX12 110 "OilPushModel" "asideLeaks" "[I", Cond.fieldLink RX12 113 "OilPushModel" "asideTook" "[I", Cond.fieldLink RX12 116 "OilPushModel" "asideMover" "[I", Cond.fieldLink RX12 119 "OilPushModel" "asideBurst" "[Z", Cond.fieldLink RX12 122 "OilPushModel" "asideNumbers" "[I", Cond.arrayClass .long, Cond.fieldLink RX12 125 "OilPushModel" "asideSums" "[J", Cond.fieldLink RX12 129 "OilPushModel" "limit" "I", Cond.fieldLink RX12 133 "OilPushModel" "stiff" "I", Cond.fieldLink RX12 136 "OilPushModel" "sinceStart" "I"]
def wsX12_init : List Cond := .code yX12_init cX12_init 2 none :: ((wsX12_init_r1 ++ wsX12_init_r2) ++ wsX120)
def wsX12_in : List Cond := .code yX12_in cX12_in 6 (some .boolean) :: ([])
def wsX12_lost : List Cond := .code yX12_lost cX12_lost 0 (some .long) :: ([.constantLong RX12 139 (-9223372036854775808)])
def wsX12_refused : List Cond := .code yX12_refused cX12_refused 2 (some .int) :: ([.fieldLink RX12 141 "OilPushModel" "fault" "I"] ++ wsX120)
def wsX12_failed : List Cond := .code yX12_failed cX12_failed 2 (some .int) :: ([.fieldLink RX12 141 "OilPushModel" "fault" "I"] ++ wsX120)
def wsX12_failedLong : List Cond := .code yX12_failedLong cX12_failedLong 2 (some .long) :: ([.fieldLink RX12 141 "OilPushModel" "fault" "I", .methodLink RX12 144 yX12_lost, .static yX12_lost, .initialized RX12, .code yX12_lost cX12_lost 0 (some .long), .constantLong RX12 139 (-9223372036854775808)] ++ wsX120)
def wsX12_lesser : List Cond := .code yX12_lesser cX12_lesser 2 (some .int) :: ([])
def wsX12_noSheet : List Cond := .code yX12_noSheet cX12_noSheet 1 (some .boolean) :: ([.constantLong RX12 148 (3), .methodLink RX12 150 yX12_in, .static yX12_in, .initialized RX12, .code yX12_in cX12_in 6 (some .boolean)])
def wsX12_sheet : List Cond := .code yX12_sheet cX12_sheet 5 (some .int) :: ([.constantLong RX12 162 (2), .fieldLink RX12 7 "OilPushModel" "sheetSize" "[I", .fieldLink RX12 13 "OilPushModel" "sheetLane" "[I", .fieldLink RX12 16 "OilPushModel" "sheet" "[I", .methodLink RX12 154 yX12_noSheet, .static yX12_noSheet, .initialized RX12, .code yX12_noSheet cX12_noSheet 1 (some .boolean), .constantLong RX12 148 (3), .methodLink RX12 150 yX12_in, .static yX12_in, .code yX12_in cX12_in 6 (some .boolean), .methodLink RX12 158 yX12_refused, .instanceMethod yX12_refused, .selects RX12 yX12_refused yX12_refused, .code yX12_refused cX12_refused 2 (some .int), .fieldLink RX12 141 "OilPushModel" "fault" "I", .methodLink RX12 164 yX12_failed, .instanceMethod yX12_failed, .selects RX12 yX12_failed yX12_failed, .code yX12_failed cX12_failed 2 (some .int)] ++ wsX120)
def wsX12_lose : List Cond := .code yX12_lose cX12_lose 3 (some .int) :: ([.fieldLink RX12 7 "OilPushModel" "sheetSize" "[I", .methodLink RX12 154 yX12_noSheet, .static yX12_noSheet, .initialized RX12, .code yX12_noSheet cX12_noSheet 1 (some .boolean), .constantLong RX12 148 (3), .methodLink RX12 150 yX12_in, .static yX12_in, .code yX12_in cX12_in 6 (some .boolean)] ++ wsX120)
def wsX12_noCell : List Cond := .code yX12_noCell cX12_noCell 3 (some .int) :: ([.fieldLink RX12 7 "OilPushModel" "sheetSize" "[I", .methodLink RX12 150 yX12_in, .static yX12_in, .initialized RX12, .code yX12_in cX12_in 6 (some .boolean)] ++ wsX120)
def wsX12_put : List Cond := .code yX12_put cX12_put 4 (some .int) :: ([.fieldLink RX12 16 "OilPushModel" "sheet" "[I", .fieldLink RX12 13 "OilPushModel" "sheetLane" "[I", .methodLink RX12 154 yX12_noSheet, .static yX12_noSheet, .initialized RX12, .code yX12_noSheet cX12_noSheet 1 (some .boolean), .constantLong RX12 148 (3), .methodLink RX12 150 yX12_in, .static yX12_in, .code yX12_in cX12_in 6 (some .boolean), .methodLink RX12 158 yX12_refused, .instanceMethod yX12_refused, .selects RX12 yX12_refused yX12_refused, .code yX12_refused cX12_refused 2 (some .int), .fieldLink RX12 141 "OilPushModel" "fault" "I", .methodLink RX12 167 yX12_noCell, .instanceMethod yX12_noCell, .selects RX12 yX12_noCell yX12_noCell, .code yX12_noCell cX12_noCell 3 (some .int), .fieldLink RX12 7 "OilPushModel" "sheetSize" "[I", .methodLink RX12 164 yX12_failed, .instanceMethod yX12_failed, .selects RX12 yX12_failed yX12_failed, .code yX12_failed cX12_failed 2 (some .int)] ++ wsX120)
def wsX12_cell_r1 : List Cond := [Cond.fieldLink RX12 141 "OilPushModel" "fault" "I", Cond.constantLong RX12 162 (2), Cond.fieldLink RX12 7 "OilPushModel" "sheetSize" "[I", Cond.fieldLink RX12 13 "OilPushModel" "sheetLane" "[I", Cond.fieldLink RX12 16 "OilPushModel" "sheet" "[I", Cond.methodLink RX12 154 yX12_noSheet, Cond.static yX12_noSheet, Cond.initialized RX12, Cond.code yX12_noSheet cX12_noSheet 1 (some .boolean), Cond.constantLong RX12 148 (3), Cond.methodLink RX12 150 yX12_in, Cond.static yX12_in, Cond.code yX12_in cX12_in 6 (some .boolean), Cond.methodLink RX12 144 yX12_lost, Cond.static yX12_lost, Cond.code yX12_lost cX12_lost 0 (some .long), Cond.constantLong RX12 139 (-9223372036854775808), Cond.methodLink RX12 171 yX12_failedLong, Cond.instanceMethod yX12_failedLong, Cond.selects RX12 yX12_failedLong yX12_failedLong, Cond.code yX12_failedLong cX12_failedLong 2 (some .long), Cond.methodLink RX12 167 yX12_noCell, Cond.instanceMethod yX12_noCell, Cond.selects RX12 yX12_noCell yX12_noCell]
def wsX12_cell_r2 : List Cond := [Cond.code yX12_noCell cX12_noCell 3 (some .int)]
def wsX12_cell : List Cond := .code yX12_cell cX12_cell 4 (some .long) :: ((wsX12_cell_r1 ++ wsX12_cell_r2) ++ wsX120)
def wsX12_isBeyond : List Cond := .code yX12_isBeyond cX12_isBeyond 3 (some .boolean) :: ([])
def wsX12_copy : List Cond := .code yX12_copy cX12_copy 7 (some .int) :: ([.fieldLink RX12 7 "OilPushModel" "sheetSize" "[I", .fieldLink RX12 13 "OilPushModel" "sheetLane" "[I", .fieldLink RX12 19 "OilPushModel" "hands" "[I", .fieldLink RX12 16 "OilPushModel" "sheet" "[I", .methodLink RX12 154 yX12_noSheet, .static yX12_noSheet, .initialized RX12, .code yX12_noSheet cX12_noSheet 1 (some .boolean), .constantLong RX12 148 (3), .methodLink RX12 150 yX12_in, .static yX12_in, .code yX12_in cX12_in 6 (some .boolean), .methodLink RX12 158 yX12_refused, .instanceMethod yX12_refused, .selects RX12 yX12_refused yX12_refused, .code yX12_refused cX12_refused 2 (some .int), .fieldLink RX12 141 "OilPushModel" "fault" "I", .methodLink RX12 164 yX12_failed, .instanceMethod yX12_failed, .selects RX12 yX12_failed yX12_failed, .code yX12_failed cX12_failed 2 (some .int), .methodLink RX12 175 yX12_isBeyond, .static yX12_isBeyond, .code yX12_isBeyond cX12_isBeyond 3 (some .boolean)] ++ wsX120)
def wsX12_noCylinder : List Cond := .code yX12_noCylinder cX12_noCylinder 2 (some .boolean) :: ([.fieldLink RX12 179 "OilPushModel" "cylinders" "I", .methodLink RX12 150 yX12_in, .static yX12_in, .initialized RX12, .code yX12_in cX12_in 6 (some .boolean)] ++ wsX120)
def wsX12_pump : List Cond := .code yX12_pump cX12_pump 4 (some .int) :: ([.constantLong RX12 182 (1000), .fieldLink RX12 184 "OilPushModel" "gives" "I", .fieldLink RX12 129 "OilPushModel" "limit" "I", .methodLink RX12 150 yX12_in, .static yX12_in, .initialized RX12, .code yX12_in cX12_in 6 (some .boolean)] ++ wsX120)
def wsX12_cylinder : List Cond := .code yX12_cylinder cX12_cylinder 4 (some .int) :: ([.constantLong RX12 162 (2), .constantLong RX12 187 (100), .fieldLink RX12 179 "OilPushModel" "cylinders" "I", .fieldLink RX12 22 "OilPushModel" "kind" "[I", .fieldLink RX12 25 "OilPushModel" "area" "[I", .fieldLink RX12 28 "OilPushModel" "stroke" "[I", .fieldLink RX12 34 "OilPushModel" "loadMany" "[I", .fieldLink RX12 43 "OilPushModel" "flow" "[I", .methodLink RX12 150 yX12_in, .static yX12_in, .initialized RX12, .code yX12_in cX12_in 6 (some .boolean)] ++ wsX120)
def wsX12_rule : List Cond := .code yX12_rule cX12_rule 5 (some .int) :: ([.constantLong RX12 162 (2), .constantLong RX12 192 (500), .constantLong RX12 182 (1000), .constantLong RX12 187 (100), .fieldLink RX12 40 "OilPushModel" "crack" "[I", .fieldLink RX12 43 "OilPushModel" "flow" "[I", .fieldLink RX12 46 "OilPushModel" "leaks" "[I", .methodLink RX12 189 yX12_noCylinder, .instanceMethod yX12_noCylinder, .selects RX12 yX12_noCylinder yX12_noCylinder, .initialized RX12, .code yX12_noCylinder cX12_noCylinder 2 (some .boolean), .fieldLink RX12 179 "OilPushModel" "cylinders" "I", .methodLink RX12 150 yX12_in, .static yX12_in, .code yX12_in cX12_in 6 (some .boolean)] ++ wsX120)
def wsX12_loads_r1 : List Cond := [Cond.constantLong RX12 162 (2), Cond.fieldLink RX12 7 "OilPushModel" "sheetSize" "[I", Cond.fieldLink RX12 13 "OilPushModel" "sheetLane" "[I", Cond.constantLong RX12 194 (10), Cond.fieldLink RX12 16 "OilPushModel" "sheet" "[I", Cond.constantLong RX12 196 (100000), Cond.fieldLink RX12 34 "OilPushModel" "loadMany" "[I", Cond.fieldLink RX12 37 "OilPushModel" "load" "[I", Cond.methodLink RX12 189 yX12_noCylinder, Cond.instanceMethod yX12_noCylinder, Cond.selects RX12 yX12_noCylinder yX12_noCylinder, Cond.initialized RX12, Cond.code yX12_noCylinder cX12_noCylinder 2 (some .boolean), Cond.fieldLink RX12 179 "OilPushModel" "cylinders" "I", Cond.methodLink RX12 150 yX12_in, Cond.static yX12_in, Cond.code yX12_in cX12_in 6 (some .boolean), Cond.methodLink RX12 154 yX12_noSheet, Cond.static yX12_noSheet, Cond.code yX12_noSheet cX12_noSheet 1 (some .boolean), Cond.constantLong RX12 148 (3), Cond.methodLink RX12 158 yX12_refused, Cond.instanceMethod yX12_refused, Cond.selects RX12 yX12_refused yX12_refused]
def wsX12_loads_r2 : List Cond := [Cond.code yX12_refused cX12_refused 2 (some .int), Cond.fieldLink RX12 141 "OilPushModel" "fault" "I", Cond.methodLink RX12 164 yX12_failed, Cond.instanceMethod yX12_failed, Cond.selects RX12 yX12_failed yX12_failed, Cond.code yX12_failed cX12_failed 2 (some .int), Cond.methodLink RX12 175 yX12_isBeyond, Cond.static yX12_isBeyond, Cond.code yX12_isBeyond cX12_isBeyond 3 (some .boolean)]
def wsX12_loads : List Cond := .code yX12_loads cX12_loads 7 (some .int) :: ((wsX12_loads_r1 ++ wsX12_loads_r2) ++ wsX120)
def wsX12_valve : List Cond := .code yX12_valve cX12_valve 4 (some .int) :: ([.constantLong RX12 162 (2), .fieldLink RX12 49 "OilPushModel" "valves" "[I", .methodLink RX12 189 yX12_noCylinder, .instanceMethod yX12_noCylinder, .selects RX12 yX12_noCylinder yX12_noCylinder, .initialized RX12, .code yX12_noCylinder cX12_noCylinder 2 (some .boolean), .fieldLink RX12 179 "OilPushModel" "cylinders" "I", .methodLink RX12 150 yX12_in, .static yX12_in, .code yX12_in cX12_in 6 (some .boolean)] ++ wsX120)
def wsX12_room : List Cond := .code yX12_room cX12_room 2 (some .int) :: ([.fieldLink RX12 25 "OilPushModel" "area" "[I", .fieldLink RX12 28 "OilPushModel" "stroke" "[I"] ++ wsX120)
def wsX12_fill : List Cond := .code yX12_fill cX12_fill 4 (some .int) :: ([.fieldLink RX12 31 "OilPushModel" "oil" "[I", .methodLink RX12 189 yX12_noCylinder, .instanceMethod yX12_noCylinder, .selects RX12 yX12_noCylinder yX12_noCylinder, .initialized RX12, .code yX12_noCylinder cX12_noCylinder 2 (some .boolean), .fieldLink RX12 179 "OilPushModel" "cylinders" "I", .methodLink RX12 150 yX12_in, .static yX12_in, .code yX12_in cX12_in 6 (some .boolean), .methodLink RX12 198 yX12_room, .instanceMethod yX12_room, .selects RX12 yX12_room yX12_room, .code yX12_room cX12_room 2 (some .int), .fieldLink RX12 25 "OilPushModel" "area" "[I", .fieldLink RX12 28 "OilPushModel" "stroke" "[I"] ++ wsX120)
def wsX12_burst : List Cond := .code yX12_burst cX12_burst 4 (some .int) :: ([.fieldLink RX12 52 "OilPushModel" "isBurst" "[Z", .methodLink RX12 189 yX12_noCylinder, .instanceMethod yX12_noCylinder, .selects RX12 yX12_noCylinder yX12_noCylinder, .initialized RX12, .code yX12_noCylinder cX12_noCylinder 2 (some .boolean), .fieldLink RX12 179 "OilPushModel" "cylinders" "I", .methodLink RX12 150 yX12_in, .static yX12_in, .code yX12_in cX12_in 6 (some .boolean)] ++ wsX120)
def wsX12_store : List Cond := .code yX12_store cX12_store 4 (some .int) :: ([.constantLong RX12 201 (5000), .constantLong RX12 182 (1000), .constantLong RX12 187 (100), .fieldLink RX12 203 "OilPushModel" "kept" "I", .fieldLink RX12 206 "OilPushModel" "cap" "I", .fieldLink RX12 209 "OilPushModel" "first" "I", .fieldLink RX12 133 "OilPushModel" "stiff" "I", .methodLink RX12 150 yX12_in, .static yX12_in, .initialized RX12, .code yX12_in cX12_in 6 (some .boolean)] ++ wsX120)
def wsX12_loadOf : List Cond := .code yX12_loadOf cX12_loadOf 3 (some .int) :: ([.fieldLink RX12 31 "OilPushModel" "oil" "[I", .fieldLink RX12 34 "OilPushModel" "loadMany" "[I", .fieldLink RX12 37 "OilPushModel" "load" "[I", .methodLink RX12 198 yX12_room, .instanceMethod yX12_room, .selects RX12 yX12_room yX12_room, .initialized RX12, .code yX12_room cX12_room 2 (some .int), .fieldLink RX12 25 "OilPushModel" "area" "[I", .fieldLink RX12 28 "OilPushModel" "stroke" "[I", .methodLink RX12 212 yX12_lesser, .static yX12_lesser, .code yX12_lesser cX12_lesser 2 (some .int)] ++ wsX120)
def wsX12_needOf : List Cond := .code yX12_needOf cX12_needOf 3 (some .int) :: ([.fieldLink RX12 25 "OilPushModel" "area" "[I", .fieldLink RX12 22 "OilPushModel" "kind" "[I", .fieldLink RX12 40 "OilPushModel" "crack" "[I", .methodLink RX12 215 yX12_loadOf, .instanceMethod yX12_loadOf, .selects RX12 yX12_loadOf yX12_loadOf, .initialized RX12, .code yX12_loadOf cX12_loadOf 3 (some .int), .fieldLink RX12 31 "OilPushModel" "oil" "[I", .fieldLink RX12 34 "OilPushModel" "loadMany" "[I", .fieldLink RX12 37 "OilPushModel" "load" "[I", .methodLink RX12 198 yX12_room, .instanceMethod yX12_room, .selects RX12 yX12_room yX12_room, .code yX12_room cX12_room 2 (some .int), .fieldLink RX12 28 "OilPushModel" "stroke" "[I", .methodLink RX12 212 yX12_lesser, .static yX12_lesser, .code yX12_lesser cX12_lesser 2 (some .int)] ++ wsX120)
def wsX12_storePressure : List Cond := .code yX12_storePressure cX12_storePressure 1 (some .int) :: ([.fieldLink RX12 209 "OilPushModel" "first" "I", .fieldLink RX12 203 "OilPushModel" "kept" "I", .fieldLink RX12 133 "OilPushModel" "stiff" "I"] ++ wsX120)
def wsX12_about_r1 : List Cond := [Cond.fieldLink RX12 22 "OilPushModel" "kind" "[I", Cond.fieldLink RX12 25 "OilPushModel" "area" "[I", Cond.fieldLink RX12 28 "OilPushModel" "stroke" "[I", Cond.fieldLink RX12 31 "OilPushModel" "oil" "[I", Cond.fieldLink RX12 49 "OilPushModel" "valves" "[I", Cond.fieldLink RX12 34 "OilPushModel" "loadMany" "[I", Cond.fieldLink RX12 52 "OilPushModel" "isBurst" "[Z", Cond.fieldLink RX12 56 "OilPushModel" "took" "[I", Cond.methodLink RX12 189 yX12_noCylinder, Cond.instanceMethod yX12_noCylinder, Cond.selects RX12 yX12_noCylinder yX12_noCylinder, Cond.initialized RX12, Cond.code yX12_noCylinder cX12_noCylinder 2 (some .boolean), Cond.fieldLink RX12 179 "OilPushModel" "cylinders" "I", Cond.methodLink RX12 150 yX12_in, Cond.static yX12_in, Cond.code yX12_in cX12_in 6 (some .boolean), Cond.methodLink RX12 215 yX12_loadOf, Cond.instanceMethod yX12_loadOf, Cond.selects RX12 yX12_loadOf yX12_loadOf, Cond.code yX12_loadOf cX12_loadOf 3 (some .int), Cond.fieldLink RX12 37 "OilPushModel" "load" "[I", Cond.methodLink RX12 198 yX12_room, Cond.instanceMethod yX12_room]
def wsX12_about_r2 : List Cond := [Cond.selects RX12 yX12_room yX12_room, Cond.code yX12_room cX12_room 2 (some .int), Cond.methodLink RX12 212 yX12_lesser, Cond.static yX12_lesser, Cond.code yX12_lesser cX12_lesser 2 (some .int), Cond.methodLink RX12 218 yX12_needOf, Cond.instanceMethod yX12_needOf, Cond.selects RX12 yX12_needOf yX12_needOf, Cond.code yX12_needOf cX12_needOf 3 (some .int), Cond.fieldLink RX12 40 "OilPushModel" "crack" "[I"]
def wsX12_about : List Cond := .code yX12_about cX12_about 3 (some .int) :: ((wsX12_about_r1 ++ wsX12_about_r2) ++ wsX120)
def wsX12_order : List Cond := .code yX12_order cX12_order 5 (some .int) :: ([.constantLong RX12 162 (2), .fieldLink RX12 221 "OilPushModel" "orders" "I", .fieldLink RX12 59 "OilPushModel" "orderC" "[I", .fieldLink RX12 62 "OilPushModel" "orderEnd" "[I", .fieldLink RX12 65 "OilPushModel" "orderD" "[I", .fieldLink RX12 68 "OilPushModel" "orderV" "[I", .methodLink RX12 189 yX12_noCylinder, .instanceMethod yX12_noCylinder, .selects RX12 yX12_noCylinder yX12_noCylinder, .initialized RX12, .code yX12_noCylinder cX12_noCylinder 2 (some .boolean), .fieldLink RX12 179 "OilPushModel" "cylinders" "I", .methodLink RX12 150 yX12_in, .static yX12_in, .code yX12_in cX12_in 6 (some .boolean)] ++ wsX120)
def wsX12_waits : List Cond := .code yX12_waits cX12_waits 1 (some .int) :: ([.fieldLink RX12 224 "OilPushModel" "waiting" "I"] ++ wsX120)
def wsX12_mayBeDone : List Cond := .code yX12_mayBeDone cX12_mayBeDone 3 (some .boolean) :: ([.fieldLink RX12 59 "OilPushModel" "orderC" "[I", .fieldLink RX12 62 "OilPushModel" "orderEnd" "[I", .fieldLink RX12 31 "OilPushModel" "oil" "[I", .methodLink RX12 198 yX12_room, .instanceMethod yX12_room, .selects RX12 yX12_room yX12_room, .initialized RX12, .code yX12_room cX12_room 2 (some .int), .fieldLink RX12 25 "OilPushModel" "area" "[I", .fieldLink RX12 28 "OilPushModel" "stroke" "[I"] ++ wsX120)
def wsX12_loseFrom : List Cond := .code yX12_loseFrom cX12_loseFrom 4 none :: ([.fieldLink RX12 31 "OilPushModel" "oil" "[I", .fieldLink RX12 56 "OilPushModel" "took" "[I", .methodLink RX12 212 yX12_lesser, .static yX12_lesser, .initialized RX12, .code yX12_lesser cX12_lesser 2 (some .int)] ++ wsX120)
def wsX12_loseAll_r1 : List Cond := [Cond.fieldLink RX12 179 "OilPushModel" "cylinders" "I", Cond.fieldLink RX12 56 "OilPushModel" "took" "[I", Cond.fieldLink RX12 52 "OilPushModel" "isBurst" "[Z", Cond.fieldLink RX12 22 "OilPushModel" "kind" "[I", Cond.fieldLink RX12 43 "OilPushModel" "flow" "[I", Cond.fieldLink RX12 49 "OilPushModel" "valves" "[I", Cond.fieldLink RX12 46 "OilPushModel" "leaks" "[I", Cond.methodLink RX12 227 yX12_loseFrom, Cond.instanceMethod yX12_loseFrom, Cond.selects RX12 yX12_loseFrom yX12_loseFrom, Cond.initialized RX12, Cond.code yX12_loseFrom cX12_loseFrom 4 none, Cond.fieldLink RX12 31 "OilPushModel" "oil" "[I", Cond.methodLink RX12 212 yX12_lesser, Cond.static yX12_lesser, Cond.code yX12_lesser cX12_lesser 2 (some .int), Cond.methodLink RX12 215 yX12_loadOf, Cond.instanceMethod yX12_loadOf, Cond.selects RX12 yX12_loadOf yX12_loadOf, Cond.code yX12_loadOf cX12_loadOf 3 (some .int), Cond.fieldLink RX12 34 "OilPushModel" "loadMany" "[I", Cond.fieldLink RX12 37 "OilPushModel" "load" "[I", Cond.methodLink RX12 198 yX12_room, Cond.instanceMethod yX12_room]
def wsX12_loseAll_r2 : List Cond := [Cond.selects RX12 yX12_room yX12_room, Cond.code yX12_room cX12_room 2 (some .int), Cond.fieldLink RX12 25 "OilPushModel" "area" "[I", Cond.fieldLink RX12 28 "OilPushModel" "stroke" "[I"]
def wsX12_loseAll : List Cond := .code yX12_loseAll cX12_loseAll 2 none :: ((wsX12_loseAll_r1 ++ wsX12_loseAll_r2) ++ wsX120)
def wsX12_findMoving_r1 : List Cond := [Cond.fieldLink RX12 231 "OilPushModel" "moving" "I", Cond.fieldLink RX12 179 "OilPushModel" "cylinders" "I", Cond.fieldLink RX12 77 "OilPushModel" "need" "[I", Cond.fieldLink RX12 80 "OilPushModel" "mayTake" "[I", Cond.fieldLink RX12 43 "OilPushModel" "flow" "[I", Cond.fieldLink RX12 31 "OilPushModel" "oil" "[I", Cond.fieldLink RX12 83 "OilPushModel" "pumped" "[I", Cond.fieldLink RX12 49 "OilPushModel" "valves" "[I", Cond.fieldLink RX12 52 "OilPushModel" "isBurst" "[Z", Cond.fieldLink RX12 129 "OilPushModel" "limit" "I", Cond.fieldLink RX12 74 "OilPushModel" "row" "[I", Cond.methodLink RX12 218 yX12_needOf, Cond.instanceMethod yX12_needOf, Cond.selects RX12 yX12_needOf yX12_needOf, Cond.initialized RX12, Cond.code yX12_needOf cX12_needOf 3 (some .int), Cond.fieldLink RX12 25 "OilPushModel" "area" "[I", Cond.fieldLink RX12 22 "OilPushModel" "kind" "[I", Cond.fieldLink RX12 40 "OilPushModel" "crack" "[I", Cond.methodLink RX12 215 yX12_loadOf, Cond.instanceMethod yX12_loadOf, Cond.selects RX12 yX12_loadOf yX12_loadOf, Cond.code yX12_loadOf cX12_loadOf 3 (some .int), Cond.fieldLink RX12 34 "OilPushModel" "loadMany" "[I"]
def wsX12_findMoving_r2 : List Cond := [Cond.fieldLink RX12 37 "OilPushModel" "load" "[I", Cond.methodLink RX12 198 yX12_room, Cond.instanceMethod yX12_room, Cond.selects RX12 yX12_room yX12_room, Cond.code yX12_room cX12_room 2 (some .int), Cond.fieldLink RX12 28 "OilPushModel" "stroke" "[I", Cond.methodLink RX12 212 yX12_lesser, Cond.static yX12_lesser, Cond.code yX12_lesser cX12_lesser 2 (some .int)]
def wsX12_findMoving : List Cond := .code yX12_findMoving cX12_findMoving 3 none :: ((wsX12_findMoving_r1 ++ wsX12_findMoving_r2) ++ wsX120)
def wsX12_tickOnce_r1 : List Cond := [Cond.fieldLink RX12 224 "OilPushModel" "waiting" "I", Cond.fieldLink RX12 221 "OilPushModel" "orders" "I", Cond.fieldLink RX12 49 "OilPushModel" "valves" "[I", Cond.fieldLink RX12 65 "OilPushModel" "orderD" "[I", Cond.fieldLink RX12 68 "OilPushModel" "orderV" "[I", Cond.fieldLink RX12 184 "OilPushModel" "gives" "I", Cond.fieldLink RX12 243 "OilPushModel" "pressure" "I", Cond.fieldLink RX12 246 "OilPushModel" "movers" "I", Cond.fieldLink RX12 231 "OilPushModel" "moving" "I", Cond.fieldLink RX12 74 "OilPushModel" "row" "[I", Cond.fieldLink RX12 83 "OilPushModel" "pumped" "[I", Cond.fieldLink RX12 80 "OilPushModel" "mayTake" "[I", Cond.fieldLink RX12 31 "OilPushModel" "oil" "[I", Cond.fieldLink RX12 56 "OilPushModel" "took" "[I", Cond.fieldLink RX12 77 "OilPushModel" "need" "[I", Cond.fieldLink RX12 71 "OilPushModel" "mover" "[I", Cond.fieldLink RX12 129 "OilPushModel" "limit" "I", Cond.fieldLink RX12 206 "OilPushModel" "cap" "I", Cond.fieldLink RX12 203 "OilPushModel" "kept" "I", Cond.fieldLink RX12 253 "OilPushModel" "storeTook" "I", Cond.fieldLink RX12 256 "OilPushModel" "over" "I", Cond.fieldLink RX12 259 "OilPushModel" "heat" "J", Cond.fieldLink RX12 263 "OilPushModel" "work" "J", Cond.fieldLink RX12 266 "OilPushModel" "given" "J"]
def wsX12_tickOnce_r2 : List Cond := [Cond.fieldLink RX12 269 "OilPushModel" "isTicked" "Z", Cond.methodLink RX12 234 yX12_mayBeDone, Cond.instanceMethod yX12_mayBeDone, Cond.selects RX12 yX12_mayBeDone yX12_mayBeDone, Cond.initialized RX12, Cond.code yX12_mayBeDone cX12_mayBeDone 3 (some .boolean), Cond.fieldLink RX12 59 "OilPushModel" "orderC" "[I", Cond.fieldLink RX12 62 "OilPushModel" "orderEnd" "[I", Cond.methodLink RX12 198 yX12_room, Cond.instanceMethod yX12_room, Cond.selects RX12 yX12_room yX12_room, Cond.code yX12_room cX12_room 2 (some .int), Cond.fieldLink RX12 25 "OilPushModel" "area" "[I", Cond.fieldLink RX12 28 "OilPushModel" "stroke" "[I", Cond.methodLink RX12 237 yX12_loseAll, Cond.instanceMethod yX12_loseAll, Cond.selects RX12 yX12_loseAll yX12_loseAll, Cond.code yX12_loseAll cX12_loseAll 2 none, Cond.fieldLink RX12 179 "OilPushModel" "cylinders" "I", Cond.fieldLink RX12 52 "OilPushModel" "isBurst" "[Z", Cond.fieldLink RX12 22 "OilPushModel" "kind" "[I", Cond.fieldLink RX12 43 "OilPushModel" "flow" "[I", Cond.fieldLink RX12 46 "OilPushModel" "leaks" "[I", Cond.methodLink RX12 227 yX12_loseFrom]
def wsX12_tickOnce_r3 : List Cond := [Cond.instanceMethod yX12_loseFrom, Cond.selects RX12 yX12_loseFrom yX12_loseFrom, Cond.code yX12_loseFrom cX12_loseFrom 4 none, Cond.methodLink RX12 212 yX12_lesser, Cond.static yX12_lesser, Cond.code yX12_lesser cX12_lesser 2 (some .int), Cond.methodLink RX12 215 yX12_loadOf, Cond.instanceMethod yX12_loadOf, Cond.selects RX12 yX12_loadOf yX12_loadOf, Cond.code yX12_loadOf cX12_loadOf 3 (some .int), Cond.fieldLink RX12 34 "OilPushModel" "loadMany" "[I", Cond.fieldLink RX12 37 "OilPushModel" "load" "[I", Cond.methodLink RX12 240 yX12_findMoving, Cond.instanceMethod yX12_findMoving, Cond.selects RX12 yX12_findMoving yX12_findMoving, Cond.code yX12_findMoving cX12_findMoving 3 none, Cond.methodLink RX12 218 yX12_needOf, Cond.instanceMethod yX12_needOf, Cond.selects RX12 yX12_needOf yX12_needOf, Cond.code yX12_needOf cX12_needOf 3 (some .int), Cond.fieldLink RX12 40 "OilPushModel" "crack" "[I", Cond.methodLink RX12 249 yX12_storePressure, Cond.instanceMethod yX12_storePressure, Cond.selects RX12 yX12_storePressure yX12_storePressure]
def wsX12_tickOnce_r4 : List Cond := [Cond.code yX12_storePressure cX12_storePressure 1 (some .int), Cond.fieldLink RX12 209 "OilPushModel" "first" "I", Cond.fieldLink RX12 133 "OilPushModel" "stiff" "I"]
def wsX12_tickOnce : List Cond := .code yX12_tickOnce cX12_tickOnce 7 none :: ((wsX12_tickOnce_r1 ++ (wsX12_tickOnce_r2 ++ (wsX12_tickOnce_r3 ++ wsX12_tickOnce_r4))) ++ wsX120)
def wsX12_tick_r1 : List Cond := [Cond.constantLong RX12 273 (200), Cond.fieldLink RX12 136 "OilPushModel" "sinceStart" "I", Cond.constant RX12 275 (100000), Cond.methodLink RX12 150 yX12_in, Cond.static yX12_in, Cond.initialized RX12, Cond.code yX12_in cX12_in 6 (some .boolean), Cond.methodLink RX12 276 yX12_tickOnce, Cond.instanceMethod yX12_tickOnce, Cond.selects RX12 yX12_tickOnce yX12_tickOnce, Cond.code yX12_tickOnce cX12_tickOnce 7 none, Cond.fieldLink RX12 224 "OilPushModel" "waiting" "I", Cond.fieldLink RX12 221 "OilPushModel" "orders" "I", Cond.fieldLink RX12 49 "OilPushModel" "valves" "[I", Cond.fieldLink RX12 65 "OilPushModel" "orderD" "[I", Cond.fieldLink RX12 68 "OilPushModel" "orderV" "[I", Cond.fieldLink RX12 184 "OilPushModel" "gives" "I", Cond.fieldLink RX12 243 "OilPushModel" "pressure" "I", Cond.fieldLink RX12 246 "OilPushModel" "movers" "I", Cond.fieldLink RX12 231 "OilPushModel" "moving" "I", Cond.fieldLink RX12 74 "OilPushModel" "row" "[I", Cond.fieldLink RX12 83 "OilPushModel" "pumped" "[I", Cond.fieldLink RX12 80 "OilPushModel" "mayTake" "[I", Cond.fieldLink RX12 31 "OilPushModel" "oil" "[I"]
def wsX12_tick_r2 : List Cond := [Cond.fieldLink RX12 56 "OilPushModel" "took" "[I", Cond.fieldLink RX12 77 "OilPushModel" "need" "[I", Cond.fieldLink RX12 71 "OilPushModel" "mover" "[I", Cond.fieldLink RX12 129 "OilPushModel" "limit" "I", Cond.fieldLink RX12 206 "OilPushModel" "cap" "I", Cond.fieldLink RX12 203 "OilPushModel" "kept" "I", Cond.fieldLink RX12 253 "OilPushModel" "storeTook" "I", Cond.fieldLink RX12 256 "OilPushModel" "over" "I", Cond.fieldLink RX12 259 "OilPushModel" "heat" "J", Cond.fieldLink RX12 263 "OilPushModel" "work" "J", Cond.fieldLink RX12 266 "OilPushModel" "given" "J", Cond.fieldLink RX12 269 "OilPushModel" "isTicked" "Z", Cond.methodLink RX12 234 yX12_mayBeDone, Cond.instanceMethod yX12_mayBeDone, Cond.selects RX12 yX12_mayBeDone yX12_mayBeDone, Cond.code yX12_mayBeDone cX12_mayBeDone 3 (some .boolean), Cond.fieldLink RX12 59 "OilPushModel" "orderC" "[I", Cond.fieldLink RX12 62 "OilPushModel" "orderEnd" "[I", Cond.methodLink RX12 198 yX12_room, Cond.instanceMethod yX12_room, Cond.selects RX12 yX12_room yX12_room, Cond.code yX12_room cX12_room 2 (some .int), Cond.fieldLink RX12 25 "OilPushModel" "area" "[I", Cond.fieldLink RX12 28 "OilPushModel" "stroke" "[I"]
def wsX12_tick_r3 : List Cond := [Cond.methodLink RX12 237 yX12_loseAll, Cond.instanceMethod yX12_loseAll, Cond.selects RX12 yX12_loseAll yX12_loseAll, Cond.code yX12_loseAll cX12_loseAll 2 none, Cond.fieldLink RX12 179 "OilPushModel" "cylinders" "I", Cond.fieldLink RX12 52 "OilPushModel" "isBurst" "[Z", Cond.fieldLink RX12 22 "OilPushModel" "kind" "[I", Cond.fieldLink RX12 43 "OilPushModel" "flow" "[I", Cond.fieldLink RX12 46 "OilPushModel" "leaks" "[I", Cond.methodLink RX12 227 yX12_loseFrom, Cond.instanceMethod yX12_loseFrom, Cond.selects RX12 yX12_loseFrom yX12_loseFrom, Cond.code yX12_loseFrom cX12_loseFrom 4 none, Cond.methodLink RX12 212 yX12_lesser, Cond.static yX12_lesser, Cond.code yX12_lesser cX12_lesser 2 (some .int), Cond.methodLink RX12 215 yX12_loadOf, Cond.instanceMethod yX12_loadOf, Cond.selects RX12 yX12_loadOf yX12_loadOf, Cond.code yX12_loadOf cX12_loadOf 3 (some .int), Cond.fieldLink RX12 34 "OilPushModel" "loadMany" "[I", Cond.fieldLink RX12 37 "OilPushModel" "load" "[I", Cond.methodLink RX12 240 yX12_findMoving, Cond.instanceMethod yX12_findMoving]
def wsX12_tick_r4 : List Cond := [Cond.selects RX12 yX12_findMoving yX12_findMoving, Cond.code yX12_findMoving cX12_findMoving 3 none, Cond.methodLink RX12 218 yX12_needOf, Cond.instanceMethod yX12_needOf, Cond.selects RX12 yX12_needOf yX12_needOf, Cond.code yX12_needOf cX12_needOf 3 (some .int), Cond.fieldLink RX12 40 "OilPushModel" "crack" "[I", Cond.methodLink RX12 249 yX12_storePressure, Cond.instanceMethod yX12_storePressure, Cond.selects RX12 yX12_storePressure yX12_storePressure, Cond.code yX12_storePressure cX12_storePressure 1 (some .int), Cond.fieldLink RX12 209 "OilPushModel" "first" "I", Cond.fieldLink RX12 133 "OilPushModel" "stiff" "I"]
def wsX12_tick : List Cond := .code yX12_tick cX12_tick 3 (some .int) :: ((wsX12_tick_r1 ++ (wsX12_tick_r2 ++ (wsX12_tick_r3 ++ wsX12_tick_r4))) ++ wsX120)
def wsX12_gauge : List Cond := .code yX12_gauge cX12_gauge 2 (some .int) :: ([.constantLong RX12 148 (3), .fieldLink RX12 269 "OilPushModel" "isTicked" "Z", .fieldLink RX12 243 "OilPushModel" "pressure" "I", .fieldLink RX12 256 "OilPushModel" "over" "I", .fieldLink RX12 253 "OilPushModel" "storeTook" "I", .fieldLink RX12 246 "OilPushModel" "movers" "I", .methodLink RX12 150 yX12_in, .static yX12_in, .initialized RX12, .code yX12_in cX12_in 6 (some .boolean)] ++ wsX120)
def wsX12_mover : List Cond := .code yX12_mover cX12_mover 2 (some .int) :: ([.fieldLink RX12 246 "OilPushModel" "movers" "I", .fieldLink RX12 71 "OilPushModel" "mover" "[I", .methodLink RX12 150 yX12_in, .static yX12_in, .initialized RX12, .code yX12_in cX12_in 6 (some .boolean)] ++ wsX120)
def wsX12_sum : List Cond := .code yX12_sum cX12_sum 2 (some .long) :: ([.fieldLink RX12 259 "OilPushModel" "heat" "J", .fieldLink RX12 263 "OilPushModel" "work" "J", .fieldLink RX12 266 "OilPushModel" "given" "J", .fieldLink RX12 203 "OilPushModel" "kept" "I", .methodLink RX12 249 yX12_storePressure, .instanceMethod yX12_storePressure, .selects RX12 yX12_storePressure yX12_storePressure, .initialized RX12, .code yX12_storePressure cX12_storePressure 1 (some .int), .fieldLink RX12 209 "OilPushModel" "first" "I", .fieldLink RX12 133 "OilPushModel" "stiff" "I", .methodLink RX12 144 yX12_lost, .static yX12_lost, .code yX12_lost cX12_lost 0 (some .long), .constantLong RX12 139 (-9223372036854775808)] ++ wsX120)
def wsX12_start : List Cond := .code yX12_start cX12_start 2 (some .int) :: ([.fieldLink RX12 279 "OilPushModel" "isStarted" "Z", .fieldLink RX12 179 "OilPushModel" "cylinders" "I", .fieldLink RX12 282 "OilPushModel" "startMany" "I", .fieldLink RX12 86 "OilPushModel" "startOil" "[I", .fieldLink RX12 31 "OilPushModel" "oil" "[I", .fieldLink RX12 89 "OilPushModel" "startValves" "[I", .fieldLink RX12 49 "OilPushModel" "valves" "[I", .fieldLink RX12 92 "OilPushModel" "startBurst" "[Z", .fieldLink RX12 52 "OilPushModel" "isBurst" "[Z", .fieldLink RX12 203 "OilPushModel" "kept" "I", .fieldLink RX12 285 "OilPushModel" "startKept" "I", .fieldLink RX12 224 "OilPushModel" "waiting" "I", .fieldLink RX12 288 "OilPushModel" "startWaiting" "I", .fieldLink RX12 136 "OilPushModel" "sinceStart" "I"] ++ wsX120)
def wsX12_reading : List Cond := .code yX12_reading cX12_reading 4 (some .int) :: ([.constantLong RX12 273 (200), .fieldLink RX12 291 "OilPushModel" "readings" "I", .fieldLink RX12 95 "OilPushModel" "readT" "[I", .fieldLink RX12 98 "OilPushModel" "readC" "[I", .fieldLink RX12 101 "OilPushModel" "readX" "[I", .methodLink RX12 189 yX12_noCylinder, .instanceMethod yX12_noCylinder, .selects RX12 yX12_noCylinder yX12_noCylinder, .initialized RX12, .code yX12_noCylinder cX12_noCylinder 2 (some .boolean), .fieldLink RX12 179 "OilPushModel" "cylinders" "I", .methodLink RX12 150 yX12_in, .static yX12_in, .code yX12_in cX12_in 6 (some .boolean), .methodLink RX12 198 yX12_room, .instanceMethod yX12_room, .selects RX12 yX12_room yX12_room, .code yX12_room cX12_room 2 (some .int), .fieldLink RX12 25 "OilPushModel" "area" "[I", .fieldLink RX12 28 "OilPushModel" "stroke" "[I"] ++ wsX120)
def wsX12_forget : List Cond := .code yX12_forget cX12_forget 2 (some .int) :: ([.fieldLink RX12 291 "OilPushModel" "readings" "I"] ++ wsX120)
def wsX12_putAside_r1 : List Cond := [Cond.fieldLink RX12 104 "OilPushModel" "asideOil" "[I", Cond.fieldLink RX12 31 "OilPushModel" "oil" "[I", Cond.fieldLink RX12 107 "OilPushModel" "asideValves" "[I", Cond.fieldLink RX12 49 "OilPushModel" "valves" "[I", Cond.fieldLink RX12 110 "OilPushModel" "asideLeaks" "[I", Cond.fieldLink RX12 46 "OilPushModel" "leaks" "[I", Cond.fieldLink RX12 113 "OilPushModel" "asideTook" "[I", Cond.fieldLink RX12 56 "OilPushModel" "took" "[I", Cond.fieldLink RX12 116 "OilPushModel" "asideMover" "[I", Cond.fieldLink RX12 71 "OilPushModel" "mover" "[I", Cond.fieldLink RX12 119 "OilPushModel" "asideBurst" "[Z", Cond.fieldLink RX12 52 "OilPushModel" "isBurst" "[Z", Cond.fieldLink RX12 122 "OilPushModel" "asideNumbers" "[I", Cond.fieldLink RX12 203 "OilPushModel" "kept" "I", Cond.fieldLink RX12 224 "OilPushModel" "waiting" "I", Cond.fieldLink RX12 243 "OilPushModel" "pressure" "I", Cond.fieldLink RX12 256 "OilPushModel" "over" "I", Cond.fieldLink RX12 253 "OilPushModel" "storeTook" "I", Cond.fieldLink RX12 246 "OilPushModel" "movers" "I", Cond.fieldLink RX12 125 "OilPushModel" "asideSums" "[J", Cond.fieldLink RX12 259 "OilPushModel" "heat" "J", Cond.fieldLink RX12 263 "OilPushModel" "work" "J", Cond.fieldLink RX12 266 "OilPushModel" "given" "J", Cond.fieldLink RX12 269 "OilPushModel" "isTicked" "Z"]
def wsX12_putAside_r2 : List Cond := [Cond.fieldLink RX12 294 "OilPushModel" "asideTicked" "Z"]
def wsX12_putAside : List Cond := .code yX12_putAside cX12_putAside 2 none :: ((wsX12_putAside_r1 ++ wsX12_putAside_r2) ++ wsX120)
def wsX12_putBack_r1 : List Cond := [Cond.fieldLink RX12 31 "OilPushModel" "oil" "[I", Cond.fieldLink RX12 104 "OilPushModel" "asideOil" "[I", Cond.fieldLink RX12 49 "OilPushModel" "valves" "[I", Cond.fieldLink RX12 107 "OilPushModel" "asideValves" "[I", Cond.fieldLink RX12 46 "OilPushModel" "leaks" "[I", Cond.fieldLink RX12 110 "OilPushModel" "asideLeaks" "[I", Cond.fieldLink RX12 56 "OilPushModel" "took" "[I", Cond.fieldLink RX12 113 "OilPushModel" "asideTook" "[I", Cond.fieldLink RX12 71 "OilPushModel" "mover" "[I", Cond.fieldLink RX12 116 "OilPushModel" "asideMover" "[I", Cond.fieldLink RX12 52 "OilPushModel" "isBurst" "[Z", Cond.fieldLink RX12 119 "OilPushModel" "asideBurst" "[Z", Cond.fieldLink RX12 122 "OilPushModel" "asideNumbers" "[I", Cond.fieldLink RX12 203 "OilPushModel" "kept" "I", Cond.fieldLink RX12 224 "OilPushModel" "waiting" "I", Cond.fieldLink RX12 243 "OilPushModel" "pressure" "I", Cond.fieldLink RX12 256 "OilPushModel" "over" "I", Cond.fieldLink RX12 253 "OilPushModel" "storeTook" "I", Cond.fieldLink RX12 246 "OilPushModel" "movers" "I", Cond.fieldLink RX12 125 "OilPushModel" "asideSums" "[J", Cond.fieldLink RX12 259 "OilPushModel" "heat" "J", Cond.fieldLink RX12 263 "OilPushModel" "work" "J", Cond.fieldLink RX12 266 "OilPushModel" "given" "J", Cond.fieldLink RX12 294 "OilPushModel" "asideTicked" "Z"]
def wsX12_putBack_r2 : List Cond := [Cond.fieldLink RX12 269 "OilPushModel" "isTicked" "Z"]
def wsX12_putBack : List Cond := .code yX12_putBack cX12_putBack 2 none :: ((wsX12_putBack_r1 ++ wsX12_putBack_r2) ++ wsX120)
def wsX12_tells : List Cond := .code yX12_tells cX12_tells 4 (some .boolean) :: ([.fieldLink RX12 291 "OilPushModel" "readings" "I", .fieldLink RX12 95 "OilPushModel" "readT" "[I", .fieldLink RX12 31 "OilPushModel" "oil" "[I", .fieldLink RX12 98 "OilPushModel" "readC" "[I", .fieldLink RX12 101 "OilPushModel" "readX" "[I"] ++ wsX120)
def wsX12_tellsAll_r1 : List Cond := [Cond.fieldLink RX12 179 "OilPushModel" "cylinders" "I", Cond.fieldLink RX12 31 "OilPushModel" "oil" "[I", Cond.fieldLink RX12 282 "OilPushModel" "startMany" "I", Cond.fieldLink RX12 86 "OilPushModel" "startOil" "[I", Cond.fieldLink RX12 49 "OilPushModel" "valves" "[I", Cond.fieldLink RX12 89 "OilPushModel" "startValves" "[I", Cond.fieldLink RX12 52 "OilPushModel" "isBurst" "[Z", Cond.fieldLink RX12 92 "OilPushModel" "startBurst" "[Z", Cond.fieldLink RX12 46 "OilPushModel" "leaks" "[I", Cond.fieldLink RX12 285 "OilPushModel" "startKept" "I", Cond.fieldLink RX12 203 "OilPushModel" "kept" "I", Cond.fieldLink RX12 288 "OilPushModel" "startWaiting" "I", Cond.fieldLink RX12 224 "OilPushModel" "waiting" "I", Cond.fieldLink RX12 136 "OilPushModel" "sinceStart" "I", Cond.methodLink RX12 297 yX12_tells, Cond.instanceMethod yX12_tells, Cond.selects RX12 yX12_tells yX12_tells, Cond.initialized RX12, Cond.code yX12_tells cX12_tells 4 (some .boolean), Cond.fieldLink RX12 291 "OilPushModel" "readings" "I", Cond.fieldLink RX12 95 "OilPushModel" "readT" "[I", Cond.fieldLink RX12 98 "OilPushModel" "readC" "[I", Cond.fieldLink RX12 101 "OilPushModel" "readX" "[I", Cond.methodLink RX12 276 yX12_tickOnce]
def wsX12_tellsAll_r2 : List Cond := [Cond.instanceMethod yX12_tickOnce, Cond.selects RX12 yX12_tickOnce yX12_tickOnce, Cond.code yX12_tickOnce cX12_tickOnce 7 none, Cond.fieldLink RX12 221 "OilPushModel" "orders" "I", Cond.fieldLink RX12 65 "OilPushModel" "orderD" "[I", Cond.fieldLink RX12 68 "OilPushModel" "orderV" "[I", Cond.fieldLink RX12 184 "OilPushModel" "gives" "I", Cond.fieldLink RX12 243 "OilPushModel" "pressure" "I", Cond.fieldLink RX12 246 "OilPushModel" "movers" "I", Cond.fieldLink RX12 231 "OilPushModel" "moving" "I", Cond.fieldLink RX12 74 "OilPushModel" "row" "[I", Cond.fieldLink RX12 83 "OilPushModel" "pumped" "[I", Cond.fieldLink RX12 80 "OilPushModel" "mayTake" "[I", Cond.fieldLink RX12 56 "OilPushModel" "took" "[I", Cond.fieldLink RX12 77 "OilPushModel" "need" "[I", Cond.fieldLink RX12 71 "OilPushModel" "mover" "[I", Cond.fieldLink RX12 129 "OilPushModel" "limit" "I", Cond.fieldLink RX12 206 "OilPushModel" "cap" "I", Cond.fieldLink RX12 253 "OilPushModel" "storeTook" "I", Cond.fieldLink RX12 256 "OilPushModel" "over" "I", Cond.fieldLink RX12 259 "OilPushModel" "heat" "J", Cond.fieldLink RX12 263 "OilPushModel" "work" "J", Cond.fieldLink RX12 266 "OilPushModel" "given" "J", Cond.fieldLink RX12 269 "OilPushModel" "isTicked" "Z"]
def wsX12_tellsAll_r3 : List Cond := [Cond.methodLink RX12 234 yX12_mayBeDone, Cond.instanceMethod yX12_mayBeDone, Cond.selects RX12 yX12_mayBeDone yX12_mayBeDone, Cond.code yX12_mayBeDone cX12_mayBeDone 3 (some .boolean), Cond.fieldLink RX12 59 "OilPushModel" "orderC" "[I", Cond.fieldLink RX12 62 "OilPushModel" "orderEnd" "[I", Cond.methodLink RX12 198 yX12_room, Cond.instanceMethod yX12_room, Cond.selects RX12 yX12_room yX12_room, Cond.code yX12_room cX12_room 2 (some .int), Cond.fieldLink RX12 25 "OilPushModel" "area" "[I", Cond.fieldLink RX12 28 "OilPushModel" "stroke" "[I", Cond.methodLink RX12 237 yX12_loseAll, Cond.instanceMethod yX12_loseAll, Cond.selects RX12 yX12_loseAll yX12_loseAll, Cond.code yX12_loseAll cX12_loseAll 2 none, Cond.fieldLink RX12 22 "OilPushModel" "kind" "[I", Cond.fieldLink RX12 43 "OilPushModel" "flow" "[I", Cond.methodLink RX12 227 yX12_loseFrom, Cond.instanceMethod yX12_loseFrom, Cond.selects RX12 yX12_loseFrom yX12_loseFrom, Cond.code yX12_loseFrom cX12_loseFrom 4 none, Cond.methodLink RX12 212 yX12_lesser, Cond.static yX12_lesser]
def wsX12_tellsAll_r4 : List Cond := [Cond.code yX12_lesser cX12_lesser 2 (some .int), Cond.methodLink RX12 215 yX12_loadOf, Cond.instanceMethod yX12_loadOf, Cond.selects RX12 yX12_loadOf yX12_loadOf, Cond.code yX12_loadOf cX12_loadOf 3 (some .int), Cond.fieldLink RX12 34 "OilPushModel" "loadMany" "[I", Cond.fieldLink RX12 37 "OilPushModel" "load" "[I", Cond.methodLink RX12 240 yX12_findMoving, Cond.instanceMethod yX12_findMoving, Cond.selects RX12 yX12_findMoving yX12_findMoving, Cond.code yX12_findMoving cX12_findMoving 3 none, Cond.methodLink RX12 218 yX12_needOf, Cond.instanceMethod yX12_needOf, Cond.selects RX12 yX12_needOf yX12_needOf, Cond.code yX12_needOf cX12_needOf 3 (some .int), Cond.fieldLink RX12 40 "OilPushModel" "crack" "[I", Cond.methodLink RX12 249 yX12_storePressure, Cond.instanceMethod yX12_storePressure, Cond.selects RX12 yX12_storePressure yX12_storePressure, Cond.code yX12_storePressure cX12_storePressure 1 (some .int), Cond.fieldLink RX12 209 "OilPushModel" "first" "I", Cond.fieldLink RX12 133 "OilPushModel" "stiff" "I"]
def wsX12_tellsAll : List Cond := .code yX12_tellsAll cX12_tellsAll 5 (some .boolean) :: ((wsX12_tellsAll_r1 ++ (wsX12_tellsAll_r2 ++ (wsX12_tellsAll_r3 ++ wsX12_tellsAll_r4))) ++ wsX120)
def wsX12_lastReading : List Cond := .code yX12_lastReading cX12_lastReading 3 (some .int) :: ([.fieldLink RX12 291 "OilPushModel" "readings" "I", .fieldLink RX12 95 "OilPushModel" "readT" "[I"] ++ wsX120)
def wsX12_leak_r1 : List Cond := [Cond.fieldLink RX12 279 "OilPushModel" "isStarted" "Z", Cond.fieldLink RX12 136 "OilPushModel" "sinceStart" "I", Cond.fieldLink RX12 179 "OilPushModel" "cylinders" "I", Cond.fieldLink RX12 22 "OilPushModel" "kind" "[I", Cond.methodLink RX12 150 yX12_in, Cond.static yX12_in, Cond.initialized RX12, Cond.code yX12_in cX12_in 6 (some .boolean), Cond.methodLink RX12 300 yX12_lastReading, Cond.instanceMethod yX12_lastReading, Cond.selects RX12 yX12_lastReading yX12_lastReading, Cond.code yX12_lastReading cX12_lastReading 3 (some .int), Cond.fieldLink RX12 291 "OilPushModel" "readings" "I", Cond.fieldLink RX12 95 "OilPushModel" "readT" "[I", Cond.methodLink RX12 303 yX12_putAside, Cond.instanceMethod yX12_putAside, Cond.selects RX12 yX12_putAside yX12_putAside, Cond.code yX12_putAside cX12_putAside 2 none, Cond.fieldLink RX12 104 "OilPushModel" "asideOil" "[I", Cond.fieldLink RX12 31 "OilPushModel" "oil" "[I", Cond.fieldLink RX12 107 "OilPushModel" "asideValves" "[I", Cond.fieldLink RX12 49 "OilPushModel" "valves" "[I", Cond.fieldLink RX12 110 "OilPushModel" "asideLeaks" "[I", Cond.fieldLink RX12 46 "OilPushModel" "leaks" "[I"]
def wsX12_leak_r2 : List Cond := [Cond.fieldLink RX12 113 "OilPushModel" "asideTook" "[I", Cond.fieldLink RX12 56 "OilPushModel" "took" "[I", Cond.fieldLink RX12 116 "OilPushModel" "asideMover" "[I", Cond.fieldLink RX12 71 "OilPushModel" "mover" "[I", Cond.fieldLink RX12 119 "OilPushModel" "asideBurst" "[Z", Cond.fieldLink RX12 52 "OilPushModel" "isBurst" "[Z", Cond.fieldLink RX12 122 "OilPushModel" "asideNumbers" "[I", Cond.fieldLink RX12 203 "OilPushModel" "kept" "I", Cond.fieldLink RX12 224 "OilPushModel" "waiting" "I", Cond.fieldLink RX12 243 "OilPushModel" "pressure" "I", Cond.fieldLink RX12 256 "OilPushModel" "over" "I", Cond.fieldLink RX12 253 "OilPushModel" "storeTook" "I", Cond.fieldLink RX12 246 "OilPushModel" "movers" "I", Cond.fieldLink RX12 125 "OilPushModel" "asideSums" "[J", Cond.fieldLink RX12 259 "OilPushModel" "heat" "J", Cond.fieldLink RX12 263 "OilPushModel" "work" "J", Cond.fieldLink RX12 266 "OilPushModel" "given" "J", Cond.fieldLink RX12 269 "OilPushModel" "isTicked" "Z", Cond.fieldLink RX12 294 "OilPushModel" "asideTicked" "Z", Cond.methodLink RX12 306 yX12_tellsAll, Cond.instanceMethod yX12_tellsAll, Cond.selects RX12 yX12_tellsAll yX12_tellsAll, Cond.code yX12_tellsAll cX12_tellsAll 5 (some .boolean), Cond.fieldLink RX12 282 "OilPushModel" "startMany" "I"]
def wsX12_leak_r3 : List Cond := [Cond.fieldLink RX12 86 "OilPushModel" "startOil" "[I", Cond.fieldLink RX12 89 "OilPushModel" "startValves" "[I", Cond.fieldLink RX12 92 "OilPushModel" "startBurst" "[Z", Cond.fieldLink RX12 285 "OilPushModel" "startKept" "I", Cond.fieldLink RX12 288 "OilPushModel" "startWaiting" "I", Cond.methodLink RX12 297 yX12_tells, Cond.instanceMethod yX12_tells, Cond.selects RX12 yX12_tells yX12_tells, Cond.code yX12_tells cX12_tells 4 (some .boolean), Cond.fieldLink RX12 98 "OilPushModel" "readC" "[I", Cond.fieldLink RX12 101 "OilPushModel" "readX" "[I", Cond.methodLink RX12 276 yX12_tickOnce, Cond.instanceMethod yX12_tickOnce, Cond.selects RX12 yX12_tickOnce yX12_tickOnce, Cond.code yX12_tickOnce cX12_tickOnce 7 none, Cond.fieldLink RX12 221 "OilPushModel" "orders" "I", Cond.fieldLink RX12 65 "OilPushModel" "orderD" "[I", Cond.fieldLink RX12 68 "OilPushModel" "orderV" "[I", Cond.fieldLink RX12 184 "OilPushModel" "gives" "I", Cond.fieldLink RX12 231 "OilPushModel" "moving" "I", Cond.fieldLink RX12 74 "OilPushModel" "row" "[I", Cond.fieldLink RX12 83 "OilPushModel" "pumped" "[I", Cond.fieldLink RX12 80 "OilPushModel" "mayTake" "[I", Cond.fieldLink RX12 77 "OilPushModel" "need" "[I"]
def wsX12_leak_r4 : List Cond := [Cond.fieldLink RX12 129 "OilPushModel" "limit" "I", Cond.fieldLink RX12 206 "OilPushModel" "cap" "I", Cond.methodLink RX12 234 yX12_mayBeDone, Cond.instanceMethod yX12_mayBeDone, Cond.selects RX12 yX12_mayBeDone yX12_mayBeDone, Cond.code yX12_mayBeDone cX12_mayBeDone 3 (some .boolean), Cond.fieldLink RX12 59 "OilPushModel" "orderC" "[I", Cond.fieldLink RX12 62 "OilPushModel" "orderEnd" "[I", Cond.methodLink RX12 198 yX12_room, Cond.instanceMethod yX12_room, Cond.selects RX12 yX12_room yX12_room, Cond.code yX12_room cX12_room 2 (some .int), Cond.fieldLink RX12 25 "OilPushModel" "area" "[I", Cond.fieldLink RX12 28 "OilPushModel" "stroke" "[I", Cond.methodLink RX12 237 yX12_loseAll, Cond.instanceMethod yX12_loseAll, Cond.selects RX12 yX12_loseAll yX12_loseAll, Cond.code yX12_loseAll cX12_loseAll 2 none, Cond.fieldLink RX12 43 "OilPushModel" "flow" "[I", Cond.methodLink RX12 227 yX12_loseFrom, Cond.instanceMethod yX12_loseFrom, Cond.selects RX12 yX12_loseFrom yX12_loseFrom, Cond.code yX12_loseFrom cX12_loseFrom 4 none, Cond.methodLink RX12 212 yX12_lesser]
def wsX12_leak_r5 : List Cond := [Cond.static yX12_lesser, Cond.code yX12_lesser cX12_lesser 2 (some .int), Cond.methodLink RX12 215 yX12_loadOf, Cond.instanceMethod yX12_loadOf, Cond.selects RX12 yX12_loadOf yX12_loadOf, Cond.code yX12_loadOf cX12_loadOf 3 (some .int), Cond.fieldLink RX12 34 "OilPushModel" "loadMany" "[I", Cond.fieldLink RX12 37 "OilPushModel" "load" "[I", Cond.methodLink RX12 240 yX12_findMoving, Cond.instanceMethod yX12_findMoving, Cond.selects RX12 yX12_findMoving yX12_findMoving, Cond.code yX12_findMoving cX12_findMoving 3 none, Cond.methodLink RX12 218 yX12_needOf, Cond.instanceMethod yX12_needOf, Cond.selects RX12 yX12_needOf yX12_needOf, Cond.code yX12_needOf cX12_needOf 3 (some .int), Cond.fieldLink RX12 40 "OilPushModel" "crack" "[I", Cond.methodLink RX12 249 yX12_storePressure, Cond.instanceMethod yX12_storePressure, Cond.selects RX12 yX12_storePressure yX12_storePressure, Cond.code yX12_storePressure cX12_storePressure 1 (some .int), Cond.fieldLink RX12 209 "OilPushModel" "first" "I", Cond.fieldLink RX12 133 "OilPushModel" "stiff" "I", Cond.methodLink RX12 310 yX12_putBack]
def wsX12_leak_r6 : List Cond := [Cond.instanceMethod yX12_putBack, Cond.selects RX12 yX12_putBack yX12_putBack, Cond.code yX12_putBack cX12_putBack 2 none]
def wsX12_leak : List Cond := .code yX12_leak cX12_leak 5 (some .int) :: ((wsX12_leak_r1 ++ (wsX12_leak_r2 ++ (wsX12_leak_r3 ++ (wsX12_leak_r4 ++ (wsX12_leak_r5 ++ wsX12_leak_r6))))) ++ wsX120)
def wsX12_traced : List Cond := .code yX12_traced cX12_traced 2 none :: ([.fieldLink RX12 313 "OilPushModel" "trace" "I"] ++ wsX120)
def wsX12_tell : List Cond := .code yX12_tell cX12_tell 2 (some .int) :: ([.fieldLink RX12 22 "OilPushModel" "kind" "[I", .fieldLink RX12 31 "OilPushModel" "oil" "[I", .constant RX12 320 (1000000), .methodLink RX12 189 yX12_noCylinder, .instanceMethod yX12_noCylinder, .selects RX12 yX12_noCylinder yX12_noCylinder, .initialized RX12, .code yX12_noCylinder cX12_noCylinder 2 (some .boolean), .fieldLink RX12 179 "OilPushModel" "cylinders" "I", .methodLink RX12 150 yX12_in, .static yX12_in, .code yX12_in cX12_in 6 (some .boolean), .methodLink RX12 316 yX12_traced, .instanceMethod yX12_traced, .selects RX12 yX12_traced yX12_traced, .code yX12_traced cX12_traced 2 none, .fieldLink RX12 313 "OilPushModel" "trace" "I"] ++ wsX120)
def wsX12_look : List Cond := .code yX12_look cX12_look 2 (some .int) :: ([.fieldLink RX12 22 "OilPushModel" "kind" "[I", .methodLink RX12 189 yX12_noCylinder, .instanceMethod yX12_noCylinder, .selects RX12 yX12_noCylinder yX12_noCylinder, .initialized RX12, .code yX12_noCylinder cX12_noCylinder 2 (some .boolean), .fieldLink RX12 179 "OilPushModel" "cylinders" "I", .methodLink RX12 150 yX12_in, .static yX12_in, .code yX12_in cX12_in 6 (some .boolean), .methodLink RX12 316 yX12_traced, .instanceMethod yX12_traced, .selects RX12 yX12_traced yX12_traced, .code yX12_traced cX12_traced 2 none, .fieldLink RX12 313 "OilPushModel" "trace" "I"] ++ wsX120)
def wsX12_as : List Cond := .code yX12_as cX12_as 3 (some .int) :: ([.constantLong RX12 162 (2), .fieldLink RX12 22 "OilPushModel" "kind" "[I", .methodLink RX12 189 yX12_noCylinder, .instanceMethod yX12_noCylinder, .selects RX12 yX12_noCylinder yX12_noCylinder, .initialized RX12, .code yX12_noCylinder cX12_noCylinder 2 (some .boolean), .fieldLink RX12 179 "OilPushModel" "cylinders" "I", .methodLink RX12 150 yX12_in, .static yX12_in, .code yX12_in cX12_in 6 (some .boolean), .methodLink RX12 158 yX12_refused, .instanceMethod yX12_refused, .selects RX12 yX12_refused yX12_refused, .code yX12_refused cX12_refused 2 (some .int), .fieldLink RX12 141 "OilPushModel" "fault" "I", .methodLink RX12 164 yX12_failed, .instanceMethod yX12_failed, .selects RX12 yX12_failed yX12_failed, .code yX12_failed cX12_failed 2 (some .int)] ++ wsX120)
def wsX12_trace : List Cond := .code yX12_trace cX12_trace 1 (some .int) :: ([.fieldLink RX12 313 "OilPushModel" "trace" "I"] ++ wsX120)
def wsX12_fault : List Cond := .code yX12_fault cX12_fault 1 (some .int) :: ([.fieldLink RX12 141 "OilPushModel" "fault" "I"] ++ wsX120)
def wsX12_told : List Cond := .code yX12_told cX12_told 4 (some .int) :: ([.fieldLink RX12 179 "OilPushModel" "cylinders" "I", .fieldLink RX12 31 "OilPushModel" "oil" "[I", .fieldLink RX12 221 "OilPushModel" "orders" "I", .fieldLink RX12 291 "OilPushModel" "readings" "I", .fieldLink RX12 136 "OilPushModel" "sinceStart" "I", .methodLink RX12 198 yX12_room, .instanceMethod yX12_room, .selects RX12 yX12_room yX12_room, .initialized RX12, .code yX12_room cX12_room 2 (some .int), .fieldLink RX12 25 "OilPushModel" "area" "[I", .fieldLink RX12 28 "OilPushModel" "stroke" "[I"] ++ wsX120)
def wsJ9_max_7cf53 : List Cond := .code yJ9_max_7cf53 cJ9_max_7cf53 2 (some .int) :: ([])
def wsJ9_min_7cf53 : List Cond := .code yJ9_min_7cf53 cJ9_min_7cf53 2 (some .int) :: ([])
def wsL_law_r1 : List Cond := [Cond.classLink RL 7 RX11, Cond.instantiable RX11 15, Cond.initialized RX11, Cond.classLink RL 10 RX12, Cond.instantiable RX12 66, Cond.initialized RX12, Cond.methodLink RL 9 yX11_init, Cond.instanceMethod yX11_init, Cond.code yX11_init cX11_init 2 none, Cond.methodLink RX11 3 objectInit, Cond.instanceMethod objectInit, Cond.code objectInit ⟨#[0xb1]⟩ 1 none, Cond.classLink RX11 9 RX4, Cond.instantiable RX4 5, Cond.initialized RX4, Cond.fieldLink RX11 12 "OilPush" "plant" "LOilPush$Plant;", Cond.classLink RX11 18 RX7, Cond.instantiable RX7 5, Cond.initialized RX7, Cond.fieldLink RX11 21 "OilPush" "now" "LOilPush$State;", Cond.classLink RX11 25 RX1, Cond.instantiable RX1 13, Cond.initialized RX1, Cond.fieldLink RX11 28 "OilPush" "engine" "LOilPush$Engine;"]
def wsL_law_r2 : List Cond := [Cond.classLink RX11 32 RX3, Cond.instantiable RX3 5, Cond.initialized RX3, Cond.fieldLink RX11 35 "OilPush" "orders" "LOilPush$Orders;", Cond.fieldLink RX11 39 "OilPush" "atStart" "LOilPush$State;", Cond.fieldLink RX11 42 "OilPush" "tried" "LOilPush$State;", Cond.fieldLink RX11 45 "OilPush" "trial" "LOilPush$Engine;", Cond.arrayClass .int, Cond.fieldLink RX11 48 "OilPush" "triedLeaks" "[I", Cond.classLink RX11 52 RX5, Cond.instantiable RX5 4, Cond.initialized RX5, Cond.fieldLink RX11 55 "OilPush" "readings" "LOilPush$Readings;", Cond.classLink RX11 59 RX6, Cond.fieldLink RX11 61 "OilPush" "sheets" "[LOilPush$Sheet;", Cond.classLink RX11 65 RX9, Cond.instantiable RX9 1, Cond.initialized RX9, Cond.fieldLink RX11 68 "OilPush" "trace" "LOilPush$Trace;", Cond.instantiable RX6 4, Cond.initialized RX6, Cond.instanceMethod yX4_init, Cond.code yX4_init cX4_init 1 none, Cond.methodLink RX4 3 objectInit]
def wsL_law_r3 : List Cond := [Cond.fieldLink RX4 9 "OilPush$Plant" "limit" "I", Cond.classLink RX4 15 RX0, Cond.fieldLink RX4 17 "OilPush$Plant" "cylinders" "[LOilPush$Cylinder;", Cond.fieldLink RX4 21 "OilPush$Plant" "leaks" "[I", Cond.instanceMethod yX7_init, Cond.code yX7_init cX7_init 1 none, Cond.methodLink RX7 3 objectInit, Cond.fieldLink RX7 9 "OilPush$State" "oil" "[I", Cond.fieldLink RX7 15 "OilPush$State" "valve" "[I", Cond.fieldLink RX7 18 "OilPush$State" "burst" "[I", Cond.classLink RX7 21 RX8, Cond.instantiable RX8 4, Cond.initialized RX8, Cond.fieldLink RX7 24 "OilPush$State" "store" "LOilPush$Store;", Cond.instanceMethod yX8_init, Cond.code yX8_init cX8_init 1 none, Cond.methodLink RX8 1 objectInit, Cond.fieldLink RX8 7 "OilPush$Store" "stiff" "I", Cond.instanceMethod yX1_init, Cond.code yX1_init cX1_init 1 none, Cond.methodLink RX1 3 objectInit, Cond.fieldLink RX1 9 "OilPush$Engine" "took" "[I", Cond.fieldLink RX1 15 "OilPush$Engine" "line" "[I", Cond.fieldLink RX1 18 "OilPush$Engine" "need" "[I"]
def wsL_law_r4 : List Cond := [Cond.fieldLink RX1 21 "OilPush$Engine" "most" "[I", Cond.fieldLink RX1 24 "OilPush$Engine" "taker" "[I", Cond.instanceMethod yX3_init, Cond.code yX3_init cX3_init 1 none, Cond.methodLink RX3 3 objectInit, Cond.fieldLink RX3 9 "OilPush$Orders" "waitsFor" "[I", Cond.fieldLink RX3 15 "OilPush$Orders" "end" "[I", Cond.fieldLink RX3 18 "OilPush$Orders" "turned" "[I", Cond.fieldLink RX3 21 "OilPush$Orders" "valve" "[I", Cond.instanceMethod yX5_init, Cond.code yX5_init cX5_init 1 none, Cond.methodLink RX5 3 objectInit, Cond.fieldLink RX5 9 "OilPush$Readings" "time" "[I", Cond.fieldLink RX5 15 "OilPush$Readings" "of" "[I", Cond.fieldLink RX5 18 "OilPush$Readings" "oil" "[I", Cond.instanceMethod yX9_init, Cond.code yX9_init cX9_init 1 none, Cond.methodLink RX9 1 objectInit, Cond.instanceMethod yX6_init, Cond.code yX6_init cX6_init 1 none, Cond.methodLink RX6 3 objectInit, Cond.fieldLink RX6 9 "OilPush$Sheet" "cells" "[I", Cond.methodLink RL 12 yX12_init, Cond.instanceMethod yX12_init]
def wsL_law_r5 : List Cond := [Cond.code yX12_init cX12_init 2 none, Cond.methodLink RX12 1 objectInit, Cond.fieldLink RX12 7 "OilPushModel" "sheetSize" "[I", Cond.fieldLink RX12 13 "OilPushModel" "sheetLane" "[I", Cond.fieldLink RX12 16 "OilPushModel" "sheet" "[I", Cond.fieldLink RX12 19 "OilPushModel" "hands" "[I", Cond.fieldLink RX12 22 "OilPushModel" "kind" "[I", Cond.fieldLink RX12 25 "OilPushModel" "area" "[I", Cond.fieldLink RX12 28 "OilPushModel" "stroke" "[I", Cond.fieldLink RX12 31 "OilPushModel" "oil" "[I", Cond.fieldLink RX12 34 "OilPushModel" "loadMany" "[I", Cond.fieldLink RX12 37 "OilPushModel" "load" "[I", Cond.fieldLink RX12 40 "OilPushModel" "crack" "[I", Cond.fieldLink RX12 43 "OilPushModel" "flow" "[I", Cond.fieldLink RX12 46 "OilPushModel" "leaks" "[I", Cond.fieldLink RX12 49 "OilPushModel" "valves" "[I", Cond.arrayClass .boolean, Cond.fieldLink RX12 52 "OilPushModel" "isBurst" "[Z", Cond.fieldLink RX12 56 "OilPushModel" "took" "[I", Cond.fieldLink RX12 59 "OilPushModel" "orderC" "[I", Cond.fieldLink RX12 62 "OilPushModel" "orderEnd" "[I", Cond.fieldLink RX12 65 "OilPushModel" "orderD" "[I", Cond.fieldLink RX12 68 "OilPushModel" "orderV" "[I", Cond.fieldLink RX12 71 "OilPushModel" "mover" "[I"]
def wsL_law_r6 : List Cond := [Cond.fieldLink RX12 74 "OilPushModel" "row" "[I", Cond.fieldLink RX12 77 "OilPushModel" "need" "[I", Cond.fieldLink RX12 80 "OilPushModel" "mayTake" "[I", Cond.fieldLink RX12 83 "OilPushModel" "pumped" "[I", Cond.fieldLink RX12 86 "OilPushModel" "startOil" "[I", Cond.fieldLink RX12 89 "OilPushModel" "startValves" "[I", Cond.fieldLink RX12 92 "OilPushModel" "startBurst" "[Z", Cond.fieldLink RX12 95 "OilPushModel" "readT" "[I", Cond.fieldLink RX12 98 "OilPushModel" "readC" "[I", Cond.fieldLink RX12 101 "OilPushModel" "readX" "[I", Cond.fieldLink RX12 104 "OilPushModel" "asideOil" "[I", Cond.fieldLink RX12 107 "OilPushModel" "asideValves" "[I", Cond.fieldLink RX12 110 "OilPushModel" "asideLeaks" "[I", Cond.fieldLink RX12 113 "OilPushModel" "asideTook" "[I", Cond.fieldLink RX12 116 "OilPushModel" "asideMover" "[I", Cond.fieldLink RX12 119 "OilPushModel" "asideBurst" "[Z", Cond.fieldLink RX12 122 "OilPushModel" "asideNumbers" "[I", Cond.arrayClass .long, Cond.fieldLink RX12 125 "OilPushModel" "asideSums" "[J", Cond.fieldLink RX12 129 "OilPushModel" "limit" "I", Cond.fieldLink RX12 133 "OilPushModel" "stiff" "I", Cond.fieldLink RX12 136 "OilPushModel" "sinceStart" "I", Cond.methodLink RL 13 yX11_pump, Cond.instanceMethod yX11_pump]
def wsL_law_r7 : List Cond := [Cond.selects RX11 yX11_pump yX11_pump, Cond.code yX11_pump cX11_pump 4 (some .int), Cond.fieldLink RX11 77 "OilPush$Plant" "gives" "I", Cond.fieldLink RX11 81 "OilPush$Plant" "limit" "I", Cond.methodLink RX11 73 yX11_within, Cond.static yX11_within, Cond.code yX11_within cX11_within 3 (some .boolean), Cond.methodLink RL 17 yX12_pump, Cond.instanceMethod yX12_pump, Cond.selects RX12 yX12_pump yX12_pump, Cond.code yX12_pump cX12_pump 4 (some .int), Cond.constantLong RX12 182 (1000), Cond.fieldLink RX12 184 "OilPushModel" "gives" "I", Cond.methodLink RX12 150 yX12_in, Cond.static yX12_in, Cond.code yX12_in cX12_in 6 (some .boolean), Cond.methodLink RL 18 yX11_cylinder, Cond.instanceMethod yX11_cylinder, Cond.selects RX11 yX11_cylinder yX11_cylinder, Cond.code yX11_cylinder cX11_cylinder 4 (some .int), Cond.fieldLink RX11 87 "OilPush$Plant" "count" "I", Cond.methodLink RX11 84 yX4_add, Cond.instanceMethod yX4_add, Cond.selects RX4 yX4_add yX4_add]
def wsL_law_r8 : List Cond := [Cond.code yX4_add cX4_add 4 (some .boolean), Cond.fieldLink RX4 25 "OilPush$Plant" "count" "I", Cond.instantiable RX0 7, Cond.initialized RX0, Cond.classLink RX4 31 RX2, Cond.instantiable RX2 7, Cond.initialized RX2, Cond.classLink RX4 34 RX10, Cond.instantiable RX10 7, Cond.initialized RX10, Cond.methodLink RX4 28 yX0_init, Cond.instanceMethod yX0_init, Cond.code yX0_init cX0_init 4 none, Cond.methodLink RX0 3 objectInit, Cond.fieldLink RX0 9 "OilPush$Cylinder" "loads" "[I", Cond.fieldLink RX0 15 "OilPush$Cylinder" "loadCount" "I", Cond.fieldLink RX0 19 "OilPush$Cylinder" "flow" "I", Cond.fieldLink RX0 22 "OilPush$Cylinder" "number" "I", Cond.fieldLink RX0 25 "OilPush$Cylinder" "area" "I", Cond.fieldLink RX0 28 "OilPush$Cylinder" "stroke" "I", Cond.methodLink RX4 33 yX2_init, Cond.instanceMethod yX2_init, Cond.code yX2_init cX2_init 4 none, Cond.methodLink RX2 1 yX0_init]
def wsL_law_r9 : List Cond := [Cond.methodLink RX4 36 yX10_init, Cond.instanceMethod yX10_init, Cond.code yX10_init cX10_init 4 none, Cond.methodLink RX10 1 yX2_init, Cond.methodLink RL 22 yX12_cylinder, Cond.instanceMethod yX12_cylinder, Cond.selects RX12 yX12_cylinder yX12_cylinder, Cond.code yX12_cylinder cX12_cylinder 4 (some .int), Cond.constantLong RX12 162 (2), Cond.constantLong RX12 187 (100), Cond.fieldLink RX12 179 "OilPushModel" "cylinders" "I", Cond.methodLink RL 23 yX11_rule, Cond.instanceMethod yX11_rule, Cond.selects RX11 yX11_rule yX11_rule, Cond.code yX11_rule cX11_rule 5 (some .int), Cond.fieldLink RX11 103 "OilPush$Plant" "leaks" "[I", Cond.methodLink RX11 90 yX4_at, Cond.instanceMethod yX4_at, Cond.selects RX4 yX4_at yX4_at, Cond.code yX4_at cX4_at 2 (some (.object "OilPush$Cylinder")), Cond.methodLink RX11 94 yX0_newCrack, Cond.instanceMethod yX0_newCrack, Cond.selects RX0 yX0_newCrack yX0_newCrack, Cond.code yX0_newCrack cX0_newCrack 3 (some .int)]
def wsL_law_r10 : List Cond := [Cond.fieldLink RX0 52 "OilPush$Cylinder" "crack" "I", Cond.methodLink RX11 94 ⟨"OilPush$Cylinder", "newCrack", "(I)I"⟩, Cond.sameMethod "OilPush$Cylinder" "OilPush$Cylinder" "newCrack" "(I)I", Cond.selects RX2 ⟨"OilPush$Cylinder", "newCrack", "(I)I"⟩ yX0_newCrack, Cond.selects RX10 ⟨"OilPush$Cylinder", "newCrack", "(I)I"⟩ yX0_newCrack, Cond.methodLink RX11 100 yX0_newFlow, Cond.instanceMethod yX0_newFlow, Cond.selects RX0 yX0_newFlow yX0_newFlow, Cond.code yX0_newFlow cX0_newFlow 3 (some .int), Cond.methodLink RX11 100 ⟨"OilPush$Cylinder", "newFlow", "(I)I"⟩, Cond.sameMethod "OilPush$Cylinder" "OilPush$Cylinder" "newFlow" "(I)I", Cond.selects RX2 ⟨"OilPush$Cylinder", "newFlow", "(I)I"⟩ yX0_newFlow, Cond.selects RX10 ⟨"OilPush$Cylinder", "newFlow", "(I)I"⟩ yX0_newFlow, Cond.methodLink RX11 106 yX11_swap, Cond.static yX11_swap, Cond.code yX11_swap cX11_swap 4 (some .int), Cond.methodLink RX11 181 yX11_get, Cond.static yX11_get, Cond.code yX11_get cX11_get 2 (some .int), Cond.methodLink RX11 266 yX11_set, Cond.static yX11_set, Cond.code yX11_set cX11_set 3 none, Cond.methodLink RL 26 yX12_rule, Cond.instanceMethod yX12_rule]
def wsL_law_r11 : List Cond := [Cond.selects RX12 yX12_rule yX12_rule, Cond.code yX12_rule cX12_rule 5 (some .int), Cond.constantLong RX12 192 (500), Cond.methodLink RX12 189 yX12_noCylinder, Cond.instanceMethod yX12_noCylinder, Cond.selects RX12 yX12_noCylinder yX12_noCylinder, Cond.code yX12_noCylinder cX12_noCylinder 2 (some .boolean), Cond.methodLink RL 27 yX11_loads, Cond.instanceMethod yX11_loads, Cond.selects RX11 yX11_loads yX11_loads, Cond.code yX11_loads cX11_loads 9 (some .int), Cond.fieldLink RX11 110 "OilPush" "latestFault" "I", Cond.constant RX11 131 (100000), Cond.fieldLink RX11 135 "OilPush$Sheet" "cells" "[I", Cond.methodLink RX11 113 yX11_sheetAt, Cond.instanceMethod yX11_sheetAt, Cond.selects RX11 yX11_sheetAt yX11_sheetAt, Cond.code yX11_sheetAt cX11_sheetAt 2 (some (.object "OilPush$Sheet")), Cond.methodLink RX11 117 yX11_isLane, Cond.static yX11_isLane, Cond.code yX11_isLane cX11_isLane 1 (some .boolean), Cond.methodLink RX11 121 yX6_faultTakenAs, Cond.instanceMethod yX6_faultTakenAs, Cond.selects RX6 yX6_faultTakenAs yX6_faultTakenAs]
def wsL_law_r12 : List Cond := [Cond.code yX6_faultTakenAs cX6_faultTakenAs 2 (some .int), Cond.fieldLink RX6 21 "OilPush$Sheet" "has" "Z", Cond.fieldLink RX6 25 "OilPush$Sheet" "lane" "I", Cond.methodLink RX11 124 yX11_faulted, Cond.instanceMethod yX11_faulted, Cond.selects RX11 yX11_faulted yX11_faulted, Cond.code yX11_faulted cX11_faulted 2 (some .int), Cond.methodLink RX11 127 yX6_holds, Cond.instanceMethod yX6_holds, Cond.selects RX6 yX6_holds yX6_holds, Cond.code yX6_holds cX6_holds 3 (some .boolean), Cond.fieldLink RX6 35 "OilPush$Sheet" "length" "I", Cond.methodLink RX11 132 yX6_areAllWithin, Cond.instanceMethod yX6_areAllWithin, Cond.selects RX6 yX6_areAllWithin yX6_areAllWithin, Cond.code yX6_areAllWithin cX6_areAllWithin 5 (some .boolean), Cond.methodLink RX11 138 yX0_newLoads, Cond.instanceMethod yX0_newLoads, Cond.selects RX0 yX0_newLoads yX0_newLoads, Cond.code yX0_newLoads cX0_newLoads 5 none, Cond.methodLink RX11 138 ⟨"OilPush$Cylinder", "newLoads", "([III)V"⟩, Cond.sameMethod "OilPush$Cylinder" "OilPush$Cylinder" "newLoads" "([III)V", Cond.selects RX2 ⟨"OilPush$Cylinder", "newLoads", "([III)V"⟩ yX0_newLoads, Cond.selects RX10 ⟨"OilPush$Cylinder", "newLoads", "([III)V"⟩ yX0_newLoads]
def wsL_law_r13 : List Cond := [Cond.methodLink RL 31 yX12_loads, Cond.instanceMethod yX12_loads, Cond.selects RX12 yX12_loads yX12_loads, Cond.code yX12_loads cX12_loads 7 (some .int), Cond.constantLong RX12 194 (10), Cond.constantLong RX12 196 (100000), Cond.methodLink RX12 154 yX12_noSheet, Cond.static yX12_noSheet, Cond.code yX12_noSheet cX12_noSheet 1 (some .boolean), Cond.constantLong RX12 148 (3), Cond.methodLink RX12 158 yX12_refused, Cond.instanceMethod yX12_refused, Cond.selects RX12 yX12_refused yX12_refused, Cond.code yX12_refused cX12_refused 2 (some .int), Cond.fieldLink RX12 141 "OilPushModel" "fault" "I", Cond.methodLink RX12 164 yX12_failed, Cond.instanceMethod yX12_failed, Cond.selects RX12 yX12_failed yX12_failed, Cond.code yX12_failed cX12_failed 2 (some .int), Cond.methodLink RX12 175 yX12_isBeyond, Cond.static yX12_isBeyond, Cond.code yX12_isBeyond cX12_isBeyond 3 (some .boolean), Cond.methodLink RL 32 yX11_valve, Cond.instanceMethod yX11_valve]
def wsL_law_r14 : List Cond := [Cond.selects RX11 yX11_valve yX11_valve, Cond.code yX11_valve cX11_valve 3 (some .int), Cond.fieldLink RX11 142 "OilPush$State" "valve" "[I", Cond.methodLink RL 35 yX12_valve, Cond.instanceMethod yX12_valve, Cond.selects RX12 yX12_valve yX12_valve, Cond.code yX12_valve cX12_valve 4 (some .int), Cond.methodLink RL 36 yX11_fill, Cond.instanceMethod yX11_fill, Cond.selects RX11 yX11_fill yX11_fill, Cond.code yX11_fill cX11_fill 4 (some .int), Cond.fieldLink RX11 149 "OilPush$State" "oil" "[I", Cond.methodLink RX11 145 yX0_room, Cond.instanceMethod yX0_room, Cond.selects RX0 yX0_room yX0_room, Cond.code yX0_room cX0_room 1 (some .int), Cond.methodLink RX11 145 ⟨"OilPush$Cylinder", "room", "()I"⟩, Cond.sameMethod "OilPush$Cylinder" "OilPush$Cylinder" "room" "()I", Cond.selects RX2 ⟨"OilPush$Cylinder", "room", "()I"⟩ yX0_room, Cond.selects RX10 ⟨"OilPush$Cylinder", "room", "()I"⟩ yX0_room, Cond.methodLink RL 39 yX12_fill, Cond.instanceMethod yX12_fill, Cond.selects RX12 yX12_fill yX12_fill, Cond.code yX12_fill cX12_fill 4 (some .int)]
def wsL_law_r15 : List Cond := [Cond.methodLink RX12 198 yX12_room, Cond.instanceMethod yX12_room, Cond.selects RX12 yX12_room yX12_room, Cond.code yX12_room cX12_room 2 (some .int), Cond.methodLink RL 40 yX11_burst, Cond.instanceMethod yX11_burst, Cond.selects RX11 yX11_burst yX11_burst, Cond.code yX11_burst cX11_burst 4 (some .int), Cond.fieldLink RX11 152 "OilPush$State" "burst" "[I", Cond.methodLink RL 44 yX12_burst, Cond.instanceMethod yX12_burst, Cond.selects RX12 yX12_burst yX12_burst, Cond.code yX12_burst cX12_burst 4 (some .int), Cond.methodLink RL 45 yX11_store, Cond.instanceMethod yX11_store, Cond.selects RX11 yX11_store yX11_store, Cond.code yX11_store cX11_store 4 (some .int), Cond.fieldLink RX11 155 "OilPush$State" "store" "LOilPush$Store;", Cond.fieldLink RX11 159 "OilPush$Store" "oil" "I", Cond.fieldLink RX11 163 "OilPush$Store" "cap" "I", Cond.fieldLink RX11 166 "OilPush$Store" "first" "I", Cond.fieldLink RX11 169 "OilPush$Store" "stiff" "I", Cond.methodLink RL 48 yX12_store, Cond.instanceMethod yX12_store]
def wsL_law_r16 : List Cond := [Cond.selects RX12 yX12_store yX12_store, Cond.code yX12_store cX12_store 4 (some .int), Cond.constantLong RX12 201 (5000), Cond.fieldLink RX12 203 "OilPushModel" "kept" "I", Cond.fieldLink RX12 206 "OilPushModel" "cap" "I", Cond.fieldLink RX12 209 "OilPushModel" "first" "I", Cond.methodLink RL 49 yX11_about, Cond.instanceMethod yX11_about, Cond.selects RX11 yX11_about yX11_about, Cond.code yX11_about cX11_about 4 (some .int), Cond.fieldLink RX11 175 "OilPush$Cylinder" "area" "I", Cond.fieldLink RX11 178 "OilPush$Cylinder" "stroke" "I", Cond.fieldLink RX11 191 "OilPush$Cylinder" "loadCount" "I", Cond.fieldLink RX11 194 "OilPush$Engine" "took" "[I", Cond.methodLink RX11 172 yX0_kind, Cond.instanceMethod yX0_kind, Cond.selects RX0 yX0_kind yX0_kind, Cond.code yX0_kind cX0_kind 1 (some .int), Cond.methodLink RX11 172 ⟨"OilPush$Cylinder", "kind", "()I"⟩, Cond.sameMethod "OilPush$Cylinder" "OilPush$Cylinder" "kind" "()I", Cond.instanceMethod ⟨"OilPush$Cylinder", "kind", "()I"⟩, Cond.selects RX2 ⟨"OilPush$Cylinder", "kind", "()I"⟩ yX2_kind, Cond.instanceMethod yX2_kind, Cond.code yX2_kind cX2_kind 1 (some .int)]
def wsL_law_r17 : List Cond := [Cond.selects RX10 ⟨"OilPush$Cylinder", "kind", "()I"⟩ yX10_kind, Cond.instanceMethod yX10_kind, Cond.code yX10_kind cX10_kind 1 (some .int), Cond.methodLink RX11 185 yX0_loadAt, Cond.instanceMethod yX0_loadAt, Cond.selects RX0 yX0_loadAt yX0_loadAt, Cond.code yX0_loadAt cX0_loadAt 3 (some .int), Cond.methodLink RX0 35 Lib.Math.min.name, Cond.static Lib.Math.min.name, Cond.initialized "java/lang/Math", Cond.code Lib.Math.min.name Lib.Math.min.code 2 (some .int), Cond.methodLink RX0 31 yX0_room, Cond.methodLink RX0 31 ⟨"OilPush$Cylinder", "room", "()I"⟩, Cond.methodLink RX11 185 ⟨"OilPush$Cylinder", "loadAt", "(I)I"⟩, Cond.sameMethod "OilPush$Cylinder" "OilPush$Cylinder" "loadAt" "(I)I", Cond.selects RX2 ⟨"OilPush$Cylinder", "loadAt", "(I)I"⟩ yX0_loadAt, Cond.selects RX10 ⟨"OilPush$Cylinder", "loadAt", "(I)I"⟩ yX0_loadAt, Cond.methodLink RX11 188 yX0_needAt, Cond.instanceMethod yX0_needAt, Cond.selects RX0 yX0_needAt yX0_needAt, Cond.code yX0_needAt cX0_needAt 2 (some .int), Cond.methodLink RX0 45 yX0_loadAt, Cond.methodLink RX0 45 ⟨"OilPush$Cylinder", "loadAt", "(I)I"⟩, Cond.methodLink RX0 49 yX0_pushAgainst]
def wsL_law_r18 : List Cond := [Cond.instanceMethod yX0_pushAgainst, Cond.selects RX0 yX0_pushAgainst yX0_pushAgainst, Cond.code yX0_pushAgainst cX0_pushAgainst 2 (some .int), Cond.methodLink RX0 49 ⟨"OilPush$Cylinder", "pushAgainst", "(I)I"⟩, Cond.sameMethod "OilPush$Cylinder" "OilPush$Cylinder" "pushAgainst" "(I)I", Cond.selects RX2 ⟨"OilPush$Cylinder", "pushAgainst", "(I)I"⟩ yX0_pushAgainst, Cond.instanceMethod ⟨"OilPush$Cylinder", "pushAgainst", "(I)I"⟩, Cond.selects RX10 ⟨"OilPush$Cylinder", "pushAgainst", "(I)I"⟩ yX10_pushAgainst, Cond.instanceMethod yX10_pushAgainst, Cond.code yX10_pushAgainst cX10_pushAgainst 2 (some .int), Cond.methodLink RX11 188 ⟨"OilPush$Cylinder", "needAt", "(I)I"⟩, Cond.sameMethod "OilPush$Cylinder" "OilPush$Cylinder" "needAt" "(I)I", Cond.selects RX2 ⟨"OilPush$Cylinder", "needAt", "(I)I"⟩ yX0_needAt, Cond.selects RX10 ⟨"OilPush$Cylinder", "needAt", "(I)I"⟩ yX0_needAt, Cond.methodLink RL 52 yX12_about, Cond.instanceMethod yX12_about, Cond.selects RX12 yX12_about yX12_about, Cond.code yX12_about cX12_about 3 (some .int), Cond.methodLink RX12 215 yX12_loadOf, Cond.instanceMethod yX12_loadOf, Cond.selects RX12 yX12_loadOf yX12_loadOf, Cond.code yX12_loadOf cX12_loadOf 3 (some .int), Cond.methodLink RX12 212 yX12_lesser, Cond.static yX12_lesser]
def wsL_law_r19 : List Cond := [Cond.code yX12_lesser cX12_lesser 2 (some .int), Cond.methodLink RX12 218 yX12_needOf, Cond.instanceMethod yX12_needOf, Cond.selects RX12 yX12_needOf yX12_needOf, Cond.code yX12_needOf cX12_needOf 3 (some .int), Cond.methodLink RL 53 yX11_tick, Cond.instanceMethod yX11_tick, Cond.selects RX11 yX11_tick yX11_tick, Cond.code yX11_tick cX11_tick 3 (some .int), Cond.fieldLink RX11 197 "OilPush" "ticks" "I", Cond.fieldLink RX11 208 "OilPush" "ticked" "Z", Cond.methodLink RX11 200 yX3_obey, Cond.instanceMethod yX3_obey, Cond.selects RX3 yX3_obey yX3_obey, Cond.code yX3_obey cX3_obey 5 none, Cond.fieldLink RX3 32 "OilPush$State" "waits" "I", Cond.fieldLink RX3 24 "OilPush$Orders" "count" "I", Cond.fieldLink RX3 47 "OilPush$State" "oil" "[I", Cond.fieldLink RX3 50 "OilPush$Cylinder" "number" "I", Cond.fieldLink RX3 59 "OilPush$State" "valve" "[I", Cond.methodLink RX3 41 yX4_at, Cond.methodLink RX3 55 yX0_isAt, Cond.instanceMethod yX0_isAt, Cond.selects RX0 yX0_isAt yX0_isAt]
def wsL_law_r20 : List Cond := [Cond.code yX0_isAt cX0_isAt 3 (some .boolean), Cond.methodLink RX3 55 ⟨"OilPush$Cylinder", "isAt", "(II)Z"⟩, Cond.sameMethod "OilPush$Cylinder" "OilPush$Cylinder" "isAt" "(II)Z", Cond.selects RX2 ⟨"OilPush$Cylinder", "isAt", "(II)Z"⟩ yX0_isAt, Cond.selects RX10 ⟨"OilPush$Cylinder", "isAt", "(II)Z"⟩ yX0_isAt, Cond.methodLink RX11 204 yX1_run, Cond.instanceMethod yX1_run, Cond.selects RX1 yX1_run yX1_run, Cond.code yX1_run cX1_run 6 none, Cond.fieldLink RX1 45 "OilPush$Plant" "gives" "I", Cond.fieldLink RX1 53 "OilPush$State" "store" "LOilPush$Store;", Cond.fieldLink RX1 65 "OilPush$Plant" "limit" "I", Cond.fieldLink RX1 68 "OilPush$Store" "cap" "I", Cond.fieldLink RX1 71 "OilPush$Store" "oil" "I", Cond.methodLink RX1 74 Lib.Math.min.name, Cond.fieldLink RX1 80 "OilPush$Engine" "storeTook" "I", Cond.fieldLink RX1 83 "OilPush$Engine" "over" "I", Cond.fieldLink RX1 86 "OilPush$Engine" "pressure" "I", Cond.methodLink RX1 88 Lib.Math.max.name, Cond.static Lib.Math.max.name, Cond.code Lib.Math.max.name Lib.Math.max.code 2 (some .int), Cond.methodLink RX1 27 yX4_at, Cond.methodLink RX1 33 yX1_drain, Cond.instanceMethod yX1_drain]
def wsL_law_r21 : List Cond := [Cond.selects RX1 yX1_drain yX1_drain, Cond.code yX1_drain cX1_drain 6 (some .int), Cond.fieldLink RX1 99 "OilPush$State" "oil" "[I", Cond.fieldLink RX1 101 "OilPush$Cylinder" "number" "I", Cond.methodLink RX1 110 yX1_mostLost, Cond.instanceMethod yX1_mostLost, Cond.selects RX1 yX1_mostLost yX1_mostLost, Cond.code yX1_mostLost cX1_mostLost 7 (some .int), Cond.classLink RX1 114 "OilPush$Held", Cond.fieldLink RX1 116 "OilPush$State" "valve" "[I", Cond.fieldLink RX1 119 "OilPush$State" "burst" "[I", Cond.fieldLink RX1 122 "OilPush$Cylinder" "flow" "I", Cond.methodLink RX1 125 yX0_loadAt, Cond.methodLink RX1 125 ⟨"OilPush$Cylinder", "loadAt", "(I)I"⟩, Cond.methodLink RX1 41 yX1_lineUp, Cond.instanceMethod yX1_lineUp, Cond.selects RX1 yX1_lineUp yX1_lineUp, Cond.code yX1_lineUp cX1_lineUp 6 none, Cond.fieldLink RX1 129 "OilPush$Engine" "moving" "I", Cond.fieldLink RX1 132 "OilPush$Plant" "count" "I", Cond.methodLink RX1 135 yX0_needAt, Cond.methodLink RX1 135 ⟨"OilPush$Cylinder", "needAt", "(I)I"⟩, Cond.methodLink RX1 138 yX0_room, Cond.methodLink RX1 138 ⟨"OilPush$Cylinder", "room", "()I"⟩]
def wsL_law_r22 : List Cond := [Cond.methodLink RX1 141 yX1_queue, Cond.instanceMethod yX1_queue, Cond.selects RX1 yX1_queue yX1_queue, Cond.code yX1_queue cX1_queue 3 none, Cond.methodLink RX1 49 yX1_takeFromPump, Cond.instanceMethod yX1_takeFromPump, Cond.selects RX1 yX1_takeFromPump yX1_takeFromPump, Cond.code yX1_takeFromPump cX1_takeFromPump 7 (some .int), Cond.fieldLink RX1 145 "OilPush$Engine" "takers" "I", Cond.methodLink RX1 148 yX1_give, Cond.instanceMethod yX1_give, Cond.selects RX1 yX1_give yX1_give, Cond.code yX1_give cX1_give 4 none, Cond.methodLink RX1 59 yX8_pressure, Cond.instanceMethod yX8_pressure, Cond.selects RX8 yX8_pressure yX8_pressure, Cond.code yX8_pressure cX8_pressure 1 (some .int), Cond.fieldLink RX8 13 "OilPush$Store" "first" "I", Cond.fieldLink RX8 16 "OilPush$Store" "oil" "I", Cond.methodLink RX1 91 yX1_addUp, Cond.instanceMethod yX1_addUp, Cond.selects RX1 yX1_addUp yX1_addUp, Cond.code yX1_addUp cX1_addUp 7 none, Cond.fieldLink RX1 152 "OilPush$Engine" "heat" "J"]
def wsL_law_r23 : List Cond := [Cond.fieldLink RX1 156 "OilPush$Engine" "work" "J", Cond.fieldLink RX1 159 "OilPush$Engine" "given" "J", Cond.methodLink RX1 95 yX1_takeFromStore, Cond.instanceMethod yX1_takeFromStore, Cond.selects RX1 yX1_takeFromStore yX1_takeFromStore, Cond.code yX1_takeFromStore cX1_takeFromStore 5 none, Cond.methodLink RL 57 yX12_tick, Cond.instanceMethod yX12_tick, Cond.selects RX12 yX12_tick yX12_tick, Cond.code yX12_tick cX12_tick 3 (some .int), Cond.constantLong RX12 273 (200), Cond.constant RX12 275 (100000), Cond.methodLink RX12 276 yX12_tickOnce, Cond.instanceMethod yX12_tickOnce, Cond.selects RX12 yX12_tickOnce yX12_tickOnce, Cond.code yX12_tickOnce cX12_tickOnce 7 none, Cond.fieldLink RX12 224 "OilPushModel" "waiting" "I", Cond.fieldLink RX12 221 "OilPushModel" "orders" "I", Cond.fieldLink RX12 243 "OilPushModel" "pressure" "I", Cond.fieldLink RX12 246 "OilPushModel" "movers" "I", Cond.fieldLink RX12 231 "OilPushModel" "moving" "I", Cond.fieldLink RX12 253 "OilPushModel" "storeTook" "I", Cond.fieldLink RX12 256 "OilPushModel" "over" "I", Cond.fieldLink RX12 259 "OilPushModel" "heat" "J"]
def wsL_law_r24 : List Cond := [Cond.fieldLink RX12 263 "OilPushModel" "work" "J", Cond.fieldLink RX12 266 "OilPushModel" "given" "J", Cond.fieldLink RX12 269 "OilPushModel" "isTicked" "Z", Cond.methodLink RX12 234 yX12_mayBeDone, Cond.instanceMethod yX12_mayBeDone, Cond.selects RX12 yX12_mayBeDone yX12_mayBeDone, Cond.code yX12_mayBeDone cX12_mayBeDone 3 (some .boolean), Cond.methodLink RX12 237 yX12_loseAll, Cond.instanceMethod yX12_loseAll, Cond.selects RX12 yX12_loseAll yX12_loseAll, Cond.code yX12_loseAll cX12_loseAll 2 none, Cond.methodLink RX12 227 yX12_loseFrom, Cond.instanceMethod yX12_loseFrom, Cond.selects RX12 yX12_loseFrom yX12_loseFrom, Cond.code yX12_loseFrom cX12_loseFrom 4 none, Cond.methodLink RX12 240 yX12_findMoving, Cond.instanceMethod yX12_findMoving, Cond.selects RX12 yX12_findMoving yX12_findMoving, Cond.code yX12_findMoving cX12_findMoving 3 none, Cond.methodLink RX12 249 yX12_storePressure, Cond.instanceMethod yX12_storePressure, Cond.selects RX12 yX12_storePressure yX12_storePressure, Cond.code yX12_storePressure cX12_storePressure 1 (some .int), Cond.methodLink RL 58 yX11_gauge]
def wsL_law_r25 : List Cond := [Cond.instanceMethod yX11_gauge, Cond.selects RX11 yX11_gauge yX11_gauge, Cond.code yX11_gauge cX11_gauge 2 (some .int), Cond.fieldLink RX11 212 "OilPush$Engine" "pressure" "I", Cond.fieldLink RX11 215 "OilPush$Engine" "over" "I", Cond.fieldLink RX11 218 "OilPush$Engine" "storeTook" "I", Cond.fieldLink RX11 221 "OilPush$Engine" "takers" "I", Cond.methodLink RL 61 yX12_gauge, Cond.instanceMethod yX12_gauge, Cond.selects RX12 yX12_gauge yX12_gauge, Cond.code yX12_gauge cX12_gauge 2 (some .int), Cond.methodLink RL 62 yX11_mover, Cond.instanceMethod yX11_mover, Cond.selects RX11 yX11_mover yX11_mover, Cond.code yX11_mover cX11_mover 2 (some .int), Cond.fieldLink RX11 224 "OilPush$Engine" "taker" "[I", Cond.methodLink RL 65 yX12_mover, Cond.instanceMethod yX12_mover, Cond.selects RX12 yX12_mover yX12_mover, Cond.code yX12_mover cX12_mover 2 (some .int), Cond.methodLink RL 66 yX11_sum, Cond.instanceMethod yX11_sum, Cond.selects RX11 yX11_sum yX11_sum, Cond.code yX11_sum cX11_sum 2 (some .long)]
def wsL_law_r26 : List Cond := [Cond.fieldLink RX11 227 "OilPush$Engine" "heat" "J", Cond.fieldLink RX11 231 "OilPush$Engine" "work" "J", Cond.fieldLink RX11 234 "OilPush$Engine" "given" "J", Cond.constantLong RX11 239 (-9223372036854775808), Cond.methodLink RX11 237 yX8_pressure, Cond.methodLink RL 70 yX12_sum, Cond.instanceMethod yX12_sum, Cond.selects RX12 yX12_sum yX12_sum, Cond.code yX12_sum cX12_sum 2 (some .long), Cond.methodLink RX12 144 yX12_lost, Cond.static yX12_lost, Cond.code yX12_lost cX12_lost 0 (some .long), Cond.constantLong RX12 139 (-9223372036854775808), Cond.methodLink RL 71 yX11_order, Cond.instanceMethod yX11_order, Cond.selects RX11 yX11_order yX11_order, Cond.code yX11_order cX11_order 5 (some .int), Cond.fieldLink RX11 244 "OilPush$Orders" "count" "I", Cond.methodLink RX11 241 yX3_add, Cond.instanceMethod yX3_add, Cond.selects RX3 yX3_add yX3_add, Cond.code yX3_add cX3_add 5 (some .boolean), Cond.methodLink RL 75 yX12_order, Cond.instanceMethod yX12_order]
def wsL_law_r27 : List Cond := [Cond.selects RX12 yX12_order yX12_order, Cond.code yX12_order cX12_order 5 (some .int), Cond.methodLink RL 76 yX11_waits, Cond.instanceMethod yX11_waits, Cond.selects RX11 yX11_waits yX11_waits, Cond.code yX11_waits cX11_waits 1 (some .int), Cond.fieldLink RX11 245 "OilPush$State" "waits" "I", Cond.methodLink RL 80 yX12_waits, Cond.instanceMethod yX12_waits, Cond.selects RX12 yX12_waits yX12_waits, Cond.code yX12_waits cX12_waits 1 (some .int), Cond.methodLink RL 81 yX11_start, Cond.instanceMethod yX11_start, Cond.selects RX11 yX11_start yX11_start, Cond.code yX11_start cX11_start 1 (some .int), Cond.fieldLink RX11 252 "OilPush" "started" "Z", Cond.methodLink RX11 248 yX7_become, Cond.instanceMethod yX7_become, Cond.selects RX7 yX7_become yX7_become, Cond.code yX7_become cX7_become 3 none, Cond.fieldLink RX7 40 "OilPush$State" "waits" "I", Cond.methodLink RX7 36 yX8_become, Cond.instanceMethod yX8_become, Cond.selects RX8 yX8_become yX8_become]
def wsL_law_r28 : List Cond := [Cond.code yX8_become cX8_become 2 none, Cond.fieldLink RX8 19 "OilPush$Store" "cap" "I", Cond.methodLink RL 84 yX12_start, Cond.instanceMethod yX12_start, Cond.selects RX12 yX12_start yX12_start, Cond.code yX12_start cX12_start 2 (some .int), Cond.fieldLink RX12 279 "OilPushModel" "isStarted" "Z", Cond.fieldLink RX12 282 "OilPushModel" "startMany" "I", Cond.fieldLink RX12 285 "OilPushModel" "startKept" "I", Cond.fieldLink RX12 288 "OilPushModel" "startWaiting" "I", Cond.methodLink RL 85 yX11_reading, Cond.instanceMethod yX11_reading, Cond.selects RX11 yX11_reading yX11_reading, Cond.code yX11_reading cX11_reading 5 (some .int), Cond.fieldLink RX11 256 "OilPush$Readings" "count" "I", Cond.methodLink RX11 255 yX5_add, Cond.instanceMethod yX5_add, Cond.selects RX5 yX5_add yX5_add, Cond.code yX5_add cX5_add 4 (some .boolean), Cond.fieldLink RX5 21 "OilPush$Readings" "count" "I", Cond.methodLink RL 88 yX12_reading, Cond.instanceMethod yX12_reading, Cond.selects RX12 yX12_reading yX12_reading, Cond.code yX12_reading cX12_reading 4 (some .int)]
def wsL_law_r29 : List Cond := [Cond.fieldLink RX12 291 "OilPushModel" "readings" "I", Cond.methodLink RL 89 yX11_forget, Cond.instanceMethod yX11_forget, Cond.selects RX11 yX11_forget yX11_forget, Cond.code yX11_forget cX11_forget 2 (some .int), Cond.methodLink RL 92 yX12_forget, Cond.instanceMethod yX12_forget, Cond.selects RX12 yX12_forget yX12_forget, Cond.code yX12_forget cX12_forget 2 (some .int), Cond.methodLink RL 93 yX11_leak, Cond.instanceMethod yX11_leak, Cond.selects RX11 yX11_leak yX11_leak, Cond.code yX11_leak cX11_leak 4 (some .int), Cond.methodLink RX11 257 yX5_latest, Cond.instanceMethod yX5_latest, Cond.selects RX5 yX5_latest yX5_latest, Cond.code yX5_latest cX5_latest 3 (some .int), Cond.methodLink RX5 33 Lib.Math.max.name, Cond.methodLink RX11 260 yX4_isHeld, Cond.instanceMethod yX4_isHeld, Cond.selects RX4 yX4_isHeld yX4_isHeld, Cond.code yX4_isHeld cX4_isHeld 2 (some .boolean), Cond.classLink RX4 31 "OilPush$Held", Cond.methodLink RX4 37 yX4_at]
def wsL_law_r30 : List Cond := [Cond.methodLink RX11 263 yX11_wouldTellAll, Cond.instanceMethod yX11_wouldTellAll, Cond.selects RX11 yX11_wouldTellAll yX11_wouldTellAll, Cond.code yX11_wouldTellAll cX11_wouldTellAll 6 (some .boolean), Cond.methodLink RX11 269 yX5_areToldAt, Cond.instanceMethod yX5_areToldAt, Cond.selects RX5 yX5_areToldAt yX5_areToldAt, Cond.code yX5_areToldAt cX5_areToldAt 4 (some .boolean), Cond.fieldLink RX5 39 "OilPush$State" "oil" "[I", Cond.methodLink RL 96 yX12_leak, Cond.instanceMethod yX12_leak, Cond.selects RX12 yX12_leak yX12_leak, Cond.code yX12_leak cX12_leak 5 (some .int), Cond.methodLink RX12 300 yX12_lastReading, Cond.instanceMethod yX12_lastReading, Cond.selects RX12 yX12_lastReading yX12_lastReading, Cond.code yX12_lastReading cX12_lastReading 3 (some .int), Cond.methodLink RX12 303 yX12_putAside, Cond.instanceMethod yX12_putAside, Cond.selects RX12 yX12_putAside yX12_putAside, Cond.code yX12_putAside cX12_putAside 2 none, Cond.fieldLink RX12 294 "OilPushModel" "asideTicked" "Z", Cond.methodLink RX12 306 yX12_tellsAll, Cond.instanceMethod yX12_tellsAll]
def wsL_law_r31 : List Cond := [Cond.selects RX12 yX12_tellsAll yX12_tellsAll, Cond.code yX12_tellsAll cX12_tellsAll 5 (some .boolean), Cond.methodLink RX12 297 yX12_tells, Cond.instanceMethod yX12_tells, Cond.selects RX12 yX12_tells yX12_tells, Cond.code yX12_tells cX12_tells 4 (some .boolean), Cond.methodLink RX12 310 yX12_putBack, Cond.instanceMethod yX12_putBack, Cond.selects RX12 yX12_putBack yX12_putBack, Cond.code yX12_putBack cX12_putBack 2 none, Cond.methodLink RL 97 yX11_sheet, Cond.instanceMethod yX11_sheet, Cond.selects RX11 yX11_sheet yX11_sheet, Cond.code yX11_sheet cX11_sheet 5 (some .int), Cond.methodLink RX11 273 yX6_renew, Cond.instanceMethod yX6_renew, Cond.selects RX6 yX6_renew yX6_renew, Cond.code yX6_renew cX6_renew 3 none, Cond.methodLink RX6 29 Lib.Math.min.name, Cond.methodLink RX6 15 yJ7_fill_53178, Cond.static yJ7_fill_53178, Cond.initialized RJ7, Cond.code yJ7_fill_53178 cJ7_fill_53178 4 none, Cond.methodLink RL 100 yX12_sheet]
def wsL_law_r32 : List Cond := [Cond.instanceMethod yX12_sheet, Cond.selects RX12 yX12_sheet yX12_sheet, Cond.code yX12_sheet cX12_sheet 5 (some .int), Cond.methodLink RL 101 yX11_lose, Cond.instanceMethod yX11_lose, Cond.selects RX11 yX11_lose yX11_lose, Cond.code yX11_lose cX11_lose 4 (some .int), Cond.fieldLink RX11 277 "OilPush$Sheet" "has" "Z", Cond.methodLink RL 104 yX12_lose, Cond.instanceMethod yX12_lose, Cond.selects RX12 yX12_lose yX12_lose, Cond.code yX12_lose cX12_lose 3 (some .int), Cond.methodLink RL 105 yX11_put, Cond.instanceMethod yX11_put, Cond.selects RX11 yX11_put yX11_put, Cond.code yX11_put cX11_put 5 (some .int), Cond.methodLink RX11 280 yX6_write, Cond.instanceMethod yX6_write, Cond.selects RX6 yX6_write yX6_write, Cond.code yX6_write cX6_write 3 none, Cond.methodLink RL 108 yX12_put, Cond.instanceMethod yX12_put, Cond.selects RX12 yX12_put yX12_put, Cond.code yX12_put cX12_put 4 (some .int)]
def wsL_law_r33 : List Cond := [Cond.methodLink RX12 167 yX12_noCell, Cond.instanceMethod yX12_noCell, Cond.selects RX12 yX12_noCell yX12_noCell, Cond.code yX12_noCell cX12_noCell 3 (some .int), Cond.methodLink RL 109 yX11_cell, Cond.instanceMethod yX11_cell, Cond.selects RX11 yX11_cell yX11_cell, Cond.code yX11_cell cX11_cell 5 (some .long), Cond.methodLink RL 113 yX12_cell, Cond.instanceMethod yX12_cell, Cond.selects RX12 yX12_cell yX12_cell, Cond.code yX12_cell cX12_cell 4 (some .long), Cond.methodLink RX12 171 yX12_failedLong, Cond.instanceMethod yX12_failedLong, Cond.selects RX12 yX12_failedLong yX12_failedLong, Cond.code yX12_failedLong cX12_failedLong 2 (some .long), Cond.methodLink RL 114 yX11_copy, Cond.instanceMethod yX11_copy, Cond.selects RX11 yX11_copy yX11_copy, Cond.code yX11_copy cX11_copy 8 (some .int), Cond.fieldLink RX11 283 "OilPush$Sheet" "lane" "I", Cond.methodLink RX11 286 arraycopyName, Cond.native arraycopyName, Cond.static arraycopyName]
def wsL_law_r34 : List Cond := [Cond.initialized "java/lang/System", Cond.methodLink RL 117 yX12_copy, Cond.instanceMethod yX12_copy, Cond.selects RX12 yX12_copy yX12_copy, Cond.code yX12_copy cX12_copy 7 (some .int), Cond.methodLink RL 118 yX11_tell, Cond.instanceMethod yX11_tell, Cond.selects RX11 yX11_tell yX11_tell, Cond.code yX11_tell cX11_tell 3 (some .int), Cond.methodLink RX11 292 yX0_toldBy, Cond.instanceMethod yX0_toldBy, Cond.selects RX0 yX0_toldBy yX0_toldBy, Cond.code yX0_toldBy cX0_toldBy 3 (some .int), Cond.methodLink RX0 59 yX0_plainlyTold, Cond.instanceMethod yX0_plainlyTold, Cond.selects RX0 yX0_plainlyTold yX0_plainlyTold, Cond.code yX0_plainlyTold cX0_plainlyTold 3 (some .int), Cond.methodLink RX0 63 yX9_leave, Cond.instanceMethod yX9_leave, Cond.selects RX9 yX9_leave yX9_leave, Cond.code yX9_leave cX9_leave 2 none, Cond.fieldLink RX9 7 "OilPush$Trace" "value" "I", Cond.methodLink RX0 59 ⟨"OilPush$Cylinder", "plainlyTold", "(LOilPush$Trace;I)I"⟩, Cond.sameMethod "OilPush$Cylinder" "OilPush$Cylinder" "plainlyTold" "(LOilPush$Trace;I)I"]
def wsL_law_r35 : List Cond := [Cond.selects RX2 ⟨"OilPush$Cylinder", "plainlyTold", "(LOilPush$Trace;I)I"⟩ yX0_plainlyTold, Cond.selects RX10 ⟨"OilPush$Cylinder", "plainlyTold", "(LOilPush$Trace;I)I"⟩ yX0_plainlyTold, Cond.methodLink RX11 292 ⟨"OilPush$Cylinder", "toldBy", "(LOilPush$Trace;I)I"⟩, Cond.sameMethod "OilPush$Cylinder" "OilPush$Cylinder" "toldBy" "(LOilPush$Trace;I)I", Cond.instanceMethod ⟨"OilPush$Cylinder", "toldBy", "(LOilPush$Trace;I)I"⟩, Cond.selects RX2 ⟨"OilPush$Cylinder", "toldBy", "(LOilPush$Trace;I)I"⟩ yX2_toldBy, Cond.instanceMethod yX2_toldBy, Cond.code yX2_toldBy cX2_toldBy 3 (some .int), Cond.constant RX2 19 (1000000), Cond.methodLink RX2 7 yX9_leave, Cond.methodLink RX2 13 ⟨"OilPush$Held", "plainlyTold", "(LOilPush$Trace;I)I"⟩, Cond.sameMethod "OilPush$Held" "OilPush$Cylinder" "plainlyTold" "(LOilPush$Trace;I)I", Cond.selects RX2 ⟨"OilPush$Held", "plainlyTold", "(LOilPush$Trace;I)I"⟩ yX0_plainlyTold, Cond.selects RX10 ⟨"OilPush$Held", "plainlyTold", "(LOilPush$Trace;I)I"⟩ yX0_plainlyTold, Cond.selects RX10 ⟨"OilPush$Cylinder", "toldBy", "(LOilPush$Trace;I)I"⟩ yX10_toldBy, Cond.instanceMethod yX10_toldBy, Cond.code yX10_toldBy cX10_toldBy 3 (some .int), Cond.methodLink RX10 11 yX9_leave, Cond.methodLink RX10 17 ⟨"OilPush$Twin", "plainlyTold", "(LOilPush$Trace;I)I"⟩, Cond.sameMethod "OilPush$Twin" "OilPush$Cylinder" "plainlyTold" "(LOilPush$Trace;I)I", Cond.selects RX10 ⟨"OilPush$Twin", "plainlyTold", "(LOilPush$Trace;I)I"⟩ yX0_plainlyTold, Cond.methodLink RL 121 yX12_tell, Cond.instanceMethod yX12_tell, Cond.selects RX12 yX12_tell yX12_tell]
def wsL_law_r36 : List Cond := [Cond.code yX12_tell cX12_tell 2 (some .int), Cond.constant RX12 320 (1000000), Cond.methodLink RX12 316 yX12_traced, Cond.instanceMethod yX12_traced, Cond.selects RX12 yX12_traced yX12_traced, Cond.code yX12_traced cX12_traced 2 none, Cond.fieldLink RX12 313 "OilPushModel" "trace" "I", Cond.methodLink RL 122 yX11_look, Cond.instanceMethod yX11_look, Cond.selects RX11 yX11_look yX11_look, Cond.code yX11_look cX11_look 3 (some .int), Cond.methodLink RX11 296 yX0_seenBy, Cond.instanceMethod yX0_seenBy, Cond.selects RX0 yX0_seenBy yX0_seenBy, Cond.code yX0_seenBy cX0_seenBy 2 (some .int), Cond.methodLink RX11 296 ⟨"OilPush$Cylinder", "seenBy", "(LOilPush$Trace;)I"⟩, Cond.sameMethod "OilPush$Cylinder" "OilPush$Cylinder" "seenBy" "(LOilPush$Trace;)I", Cond.selects RX2 ⟨"OilPush$Cylinder", "seenBy", "(LOilPush$Trace;)I"⟩ yX0_seenBy, Cond.instanceMethod ⟨"OilPush$Cylinder", "seenBy", "(LOilPush$Trace;)I"⟩, Cond.selects RX10 ⟨"OilPush$Cylinder", "seenBy", "(LOilPush$Trace;)I"⟩ yX10_seenBy, Cond.instanceMethod yX10_seenBy, Cond.code yX10_seenBy cX10_seenBy 2 (some .int), Cond.methodLink RL 125 yX12_look, Cond.instanceMethod yX12_look]
def wsL_law_r37 : List Cond := [Cond.selects RX12 yX12_look yX12_look, Cond.code yX12_look cX12_look 2 (some .int), Cond.methodLink RL 126 yX11_as, Cond.instanceMethod yX11_as, Cond.selects RX11 yX11_as yX11_as, Cond.code yX11_as cX11_as 5 (some .int), Cond.classLink RX11 300 "OilPush$Held", Cond.classLink RX11 302 "OilPush$Twin", Cond.methodLink RL 129 yX12_as, Cond.instanceMethod yX12_as, Cond.selects RX12 yX12_as yX12_as, Cond.code yX12_as cX12_as 3 (some .int), Cond.methodLink RL 130 yX11_trace, Cond.instanceMethod yX11_trace, Cond.selects RX11 yX11_trace yX11_trace, Cond.code yX11_trace cX11_trace 1 (some .int), Cond.fieldLink RX11 304 "OilPush$Trace" "value" "I", Cond.methodLink RL 133 yX12_trace, Cond.instanceMethod yX12_trace, Cond.selects RX12 yX12_trace yX12_trace, Cond.code yX12_trace cX12_trace 1 (some .int), Cond.methodLink RL 134 yX11_fault, Cond.instanceMethod yX11_fault, Cond.selects RX11 yX11_fault yX11_fault]
def wsL_law_r38 : List Cond := [Cond.code yX11_fault cX11_fault 1 (some .int), Cond.methodLink RL 137 yX12_fault, Cond.instanceMethod yX12_fault, Cond.selects RX12 yX12_fault yX12_fault, Cond.code yX12_fault cX12_fault 1 (some .int), Cond.methodLink RL 138 yX11_told, Cond.instanceMethod yX11_told, Cond.selects RX11 yX11_told yX11_told, Cond.code yX11_told cX11_told 2 (some .int), Cond.methodLink RX11 307 yX4_howManyAt, Cond.instanceMethod yX4_howManyAt, Cond.selects RX4 yX4_howManyAt yX4_howManyAt, Cond.code yX4_howManyAt cX4_howManyAt 6 (some .int), Cond.fieldLink RX4 41 "OilPush$State" "oil" "[I", Cond.methodLink RX4 50 yX0_isAt, Cond.methodLink RX4 50 ⟨"OilPush$Cylinder", "isAt", "(II)Z"⟩, Cond.methodLink RL 141 yX12_told, Cond.instanceMethod yX12_told, Cond.selects RX12 yX12_told yX12_told, Cond.code yX12_told cX12_told 4 (some .int)]
def wsL_law : List Cond := (wsL_law_r1 ++ (wsL_law_r2 ++ (wsL_law_r3 ++ (wsL_law_r4 ++ (wsL_law_r5 ++ (wsL_law_r6 ++ (wsL_law_r7 ++ (wsL_law_r8 ++ (wsL_law_r9 ++ (wsL_law_r10 ++ (wsL_law_r11 ++ (wsL_law_r12 ++ (wsL_law_r13 ++ (wsL_law_r14 ++ (wsL_law_r15 ++ (wsL_law_r16 ++ (wsL_law_r17 ++ (wsL_law_r18 ++ (wsL_law_r19 ++ (wsL_law_r20 ++ (wsL_law_r21 ++ (wsL_law_r22 ++ (wsL_law_r23 ++ (wsL_law_r24 ++ (wsL_law_r25 ++ (wsL_law_r26 ++ (wsL_law_r27 ++ (wsL_law_r28 ++ (wsL_law_r29 ++ (wsL_law_r30 ++ (wsL_law_r31 ++ (wsL_law_r32 ++ (wsL_law_r33 ++ (wsL_law_r34 ++ (wsL_law_r35 ++ (wsL_law_r36 ++ (wsL_law_r37 ++ wsL_law_r38))))))))))))))))))))))))))))))))))))) ++ wsX110 ++ wsX120 ++ wsX40 ++ wsX70 ++ wsX10 ++ wsX30 ++ wsX50 ++ wsX90 ++ wsX60 ++ wsX80 ++ wsX00 ++ wsX20 ++ wsX100 ++ ([] : List Cond)
theorem mem_rc {big : List Cond} (ws : List Cond) (ps : List Nat) (hp : ws.filter (fun w => !k2_isCode w) = ps.filterMap (fun i => big[i]?)) (hc : ∀ w ∈ ws.filter k2_isCode, w ∈ big) : ∀ w ∈ ws, w ∈ big := by
  intro w hw
  by_cases h : k2_isCode w = true
  · exact hc w (List.mem_filter.mpr ⟨hw, h⟩)
  · have h1 : w ∈ ws.filter (fun w => !k2_isCode w) := List.mem_filter.mpr ⟨hw, by simpa using h⟩
    rw [hp] at h1
    obtain ⟨i, -, hi⟩ := List.mem_filterMap.mp h1
    exact List.mem_of_getElem? hi
theorem mem_cc {big : List Cond} {ws cs : List Cond} (h : ws.filter k2_isCode = cs) (hc : ∀ w ∈ cs, w ∈ big) : ∀ w ∈ ws.filter k2_isCode, w ∈ big := by rw [h]; exact hc
theorem goodIn_s {big : List Cond} (ws : List Cond) (ps pc : List Nat) (hp : ws.filter (fun w => !k2_isCode w) = ps.filterMap (fun i => big[i]?)) (hc : ws.filter k2_isCode = pc.filterMap (fun i => big[i]?)) (h : (ws.filter (fun w => !k2_isCode w)).all goodWord = true) : GoodIn big ws := by
  intro w hw
  by_cases hk : k2_isCode w = true
  · have h1 : w ∈ ws.filter k2_isCode := List.mem_filter.mpr ⟨hw, hk⟩
    rw [hc] at h1
    obtain ⟨i, -, hi⟩ := List.mem_filterMap.mp h1
    refine ⟨List.mem_of_getElem? hi, ?_⟩
    cases w <;> first | (simp [k2_isCode] at hk; done) | exact Or.inl rfl
  · have h1 : w ∈ ws.filter (fun w => !k2_isCode w) := List.mem_filter.mpr ⟨hw, by simpa using hk⟩
    have h2 := good_of_word (List.all_eq_true.mp h w h1)
    rw [hp] at h1
    obtain ⟨i, -, hi⟩ := List.mem_filterMap.mp h1
    exact ⟨List.mem_of_getElem? hi, h2⟩
end
section
theorem dX0_init_0 : decode cX0_init 0 = .ok (.aload_n 0, 1) := by decide +kernel
theorem dX0_init_1 : decode cX0_init 1 = .ok (.invokespecial 3, 3) := by decide +kernel
theorem dX0_init_4 : decode cX0_init 4 = .ok (.aload_n 0, 1) := by decide +kernel
theorem dX0_init_5 : decode cX0_init 5 = .ok (.bipush 10, 2) := by decide +kernel
theorem dX0_init_7 : decode cX0_init 7 = .ok (.newarray .int, 2) := by decide +kernel
theorem dX0_init_9 : decode cX0_init 9 = .ok (.putfield 9, 3) := by decide +kernel
theorem dX0_init_12 : decode cX0_init 12 = .ok (.aload_n 0, 1) := by decide +kernel
theorem dX0_init_13 : decode cX0_init 13 = .ok (.iconst 1, 1) := by decide +kernel
theorem dX0_init_14 : decode cX0_init 14 = .ok (.putfield 15, 3) := by decide +kernel
theorem dX0_init_17 : decode cX0_init 17 = .ok (.aload_n 0, 1) := by decide +kernel
theorem dX0_init_18 : decode cX0_init 18 = .ok (.sipush 1000, 3) := by decide +kernel
theorem dX0_init_21 : decode cX0_init 21 = .ok (.putfield 19, 3) := by decide +kernel
theorem dX0_init_24 : decode cX0_init 24 = .ok (.aload_n 0, 1) := by decide +kernel
theorem dX0_init_25 : decode cX0_init 25 = .ok (.iload_n 1, 1) := by decide +kernel
theorem dX0_init_26 : decode cX0_init 26 = .ok (.putfield 22, 3) := by decide +kernel
theorem dX0_init_29 : decode cX0_init 29 = .ok (.aload_n 0, 1) := by decide +kernel
theorem dX0_init_30 : decode cX0_init 30 = .ok (.iload_n 2, 1) := by decide +kernel
theorem dX0_init_31 : decode cX0_init 31 = .ok (.putfield 25, 3) := by decide +kernel
theorem dX0_init_34 : decode cX0_init 34 = .ok (.aload_n 0, 1) := by decide +kernel
theorem dX0_init_35 : decode cX0_init 35 = .ok (.iload_n 3, 1) := by decide +kernel
theorem dX0_init_36 : decode cX0_init 36 = .ok (.putfield 28, 3) := by decide +kernel
theorem dX0_init_39 : decode cX0_init 39 = .ok (.return_, 1) := by decide +kernel
theorem dX0_kind_0 : decode cX0_kind 0 = .ok (.iconst 0, 1) := by decide +kernel
theorem dX0_kind_1 : decode cX0_kind 1 = .ok (.ireturn, 1) := by decide +kernel
theorem dX0_room_0 : decode cX0_room 0 = .ok (.aload_n 0, 1) := by decide +kernel
theorem dX0_room_1 : decode cX0_room 1 = .ok (.getfield 25, 3) := by decide +kernel
theorem dX0_room_4 : decode cX0_room 4 = .ok (.aload_n 0, 1) := by decide +kernel
theorem dX0_room_5 : decode cX0_room 5 = .ok (.getfield 28, 3) := by decide +kernel
theorem dX0_room_8 : decode cX0_room 8 = .ok (.imul, 1) := by decide +kernel
theorem dX0_room_9 : decode cX0_room 9 = .ok (.ireturn, 1) := by decide +kernel
set_option maxRecDepth 100000 in
theorem ggX0_loadAt_X0_room : GoodIn wsX0_loadAt wsX0_room := goodIn_s _ [12, 13, 21, 22, 23, 24, 25, 26, 27, 28, 29, 30, 31, 32, 33, 34, 35, 36, 37, 38, 39, 40, 41] [11] (by decide +kernel) rfl (by decide +kernel)
set_option maxRecDepth 20000 in
theorem gX0_loadAt_X0_room : GoodIn wsX0_loadAt (wsV RX0 31 RX0 yX0_room wsX0_room) := goodIn_app (goodIn_of _ (by decide +kernel)) ggX0_loadAt_X0_room
set_option maxRecDepth 20000 in
theorem gX0_loadAt_X0_room_u31X2 : GoodIn wsX0_loadAt (va_wsU RX0 31 RX2 "OilPush$Cylinder" ⟨"OilPush$Cylinder", "room", "()I"⟩ yX0_room wsX0_room) := goodIn_app (goodIn_of _ (by decide +kernel)) ggX0_loadAt_X0_room
set_option maxRecDepth 20000 in
theorem gX0_loadAt_X0_room_u31X10 : GoodIn wsX0_loadAt (va_wsU RX0 31 RX10 "OilPush$Cylinder" ⟨"OilPush$Cylinder", "room", "()I"⟩ yX0_room wsX0_room) := goodIn_app (goodIn_of _ (by decide +kernel)) ggX0_loadAt_X0_room
set_option maxRecDepth 100000 in
theorem ggX0_loadAt_X11_get : GoodIn wsX0_loadAt wsX11_get := goodIn_s _ [] [20] (by decide +kernel) rfl (by decide +kernel)
set_option maxRecDepth 20000 in
theorem gX0_loadAt_X11_get_n41 : GoodIn wsX0_loadAt (wsX11_get) := ggX0_loadAt_X11_get
theorem dX0_loadAt_0 : decode cX0_loadAt 0 = .ok (.aload_n 0, 1) := by decide +kernel
theorem dX0_loadAt_1 : decode cX0_loadAt 1 = .ok (.invokevirtual 31, 3) := by decide +kernel
theorem dX0_loadAt_4 : decode cX0_loadAt 4 = .ok (.istore_n 2, 1) := by decide +kernel
theorem dX0_loadAt_5 : decode cX0_loadAt 5 = .ok (.iload_n 2, 1) := by decide +kernel
theorem dX0_loadAt_6 : decode cX0_loadAt 6 = .ok (.ifCond .gt 5, 3) := by decide +kernel
theorem dX0_loadAt_9 : decode cX0_loadAt 9 = .ok (.iconst 0, 1) := by decide +kernel
theorem dX0_loadAt_10 : decode cX0_loadAt 10 = .ok (.ireturn, 1) := by decide +kernel
theorem dX0_loadAt_11 : decode cX0_loadAt 11 = .ok (.aload_n 0, 1) := by decide +kernel
theorem dX0_loadAt_12 : decode cX0_loadAt 12 = .ok (.getfield 9, 3) := by decide +kernel
theorem dX0_loadAt_15 : decode cX0_loadAt 15 = .ok (.iload_n 1, 1) := by decide +kernel
theorem dX0_loadAt_16 : decode cX0_loadAt 16 = .ok (.aload_n 0, 1) := by decide +kernel
theorem dX0_loadAt_17 : decode cX0_loadAt 17 = .ok (.getfield 15, 3) := by decide +kernel
theorem dX0_loadAt_20 : decode cX0_loadAt 20 = .ok (.imul, 1) := by decide +kernel
theorem dX0_loadAt_21 : decode cX0_loadAt 21 = .ok (.iload_n 2, 1) := by decide +kernel
theorem dX0_loadAt_22 : decode cX0_loadAt 22 = .ok (.idiv, 1) := by decide +kernel
theorem dX0_loadAt_23 : decode cX0_loadAt 23 = .ok (.aload_n 0, 1) := by decide +kernel
theorem dX0_loadAt_24 : decode cX0_loadAt 24 = .ok (.getfield 15, 3) := by decide +kernel
theorem dX0_loadAt_27 : decode cX0_loadAt 27 = .ok (.iconst 1, 1) := by decide +kernel
theorem dX0_loadAt_28 : decode cX0_loadAt 28 = .ok (.isub, 1) := by decide +kernel
theorem dX0_loadAt_29 : decode cX0_loadAt 29 = .ok (.invokestatic 35, 3) := by decide +kernel
theorem dX0_loadAt_32 : decode cX0_loadAt 32 = .ok (.invokestatic 41, 3) := by decide +kernel
theorem dX0_loadAt_35 : decode cX0_loadAt 35 = .ok (.ireturn, 1) := by decide +kernel
theorem dX0_pushAgainst_0 : decode cX0_pushAgainst 0 = .ok (.aload_n 0, 1) := by decide +kernel
theorem dX0_pushAgainst_1 : decode cX0_pushAgainst 1 = .ok (.getfield 25, 3) := by decide +kernel
theorem dX0_pushAgainst_4 : decode cX0_pushAgainst 4 = .ok (.ifCond .gt 7, 3) := by decide +kernel
theorem dX0_pushAgainst_7 : decode cX0_pushAgainst 7 = .ok (.iconst 0, 1) := by decide +kernel
theorem dX0_pushAgainst_8 : decode cX0_pushAgainst 8 = .ok (.goto 16, 3) := by decide +kernel
theorem dX0_pushAgainst_11 : decode cX0_pushAgainst 11 = .ok (.iload_n 1, 1) := by decide +kernel
theorem dX0_pushAgainst_12 : decode cX0_pushAgainst 12 = .ok (.aload_n 0, 1) := by decide +kernel
theorem dX0_pushAgainst_13 : decode cX0_pushAgainst 13 = .ok (.getfield 25, 3) := by decide +kernel
theorem dX0_pushAgainst_16 : decode cX0_pushAgainst 16 = .ok (.iadd, 1) := by decide +kernel
theorem dX0_pushAgainst_17 : decode cX0_pushAgainst 17 = .ok (.iconst 1, 1) := by decide +kernel
theorem dX0_pushAgainst_18 : decode cX0_pushAgainst 18 = .ok (.isub, 1) := by decide +kernel
theorem dX0_pushAgainst_19 : decode cX0_pushAgainst 19 = .ok (.aload_n 0, 1) := by decide +kernel
theorem dX0_pushAgainst_20 : decode cX0_pushAgainst 20 = .ok (.getfield 25, 3) := by decide +kernel
theorem dX0_pushAgainst_23 : decode cX0_pushAgainst 23 = .ok (.idiv, 1) := by decide +kernel
theorem dX0_pushAgainst_24 : decode cX0_pushAgainst 24 = .ok (.ireturn, 1) := by decide +kernel
set_option maxRecDepth 100000 in
theorem ggX0_needAt_X0_loadAt : GoodIn wsX0_needAt wsX0_loadAt := goodIn_s _ [7, 8, 9, 10, 11, 13, 14, 15, 5, 17, 18, 19, 20, 21, 22, 23, 24, 42, 43, 44, 45, 46, 47, 48, 49, 50, 51, 52, 53, 54, 55, 56, 57, 58, 59, 60, 61, 62] [6, 12, 16, 25] (by decide +kernel) rfl (by decide +kernel)
set_option maxRecDepth 20000 in
theorem gX0_needAt_X0_loadAt : GoodIn wsX0_needAt (wsV RX0 45 RX0 yX0_loadAt wsX0_loadAt) := goodIn_app (goodIn_of _ (by decide +kernel)) ggX0_needAt_X0_loadAt
set_option maxRecDepth 20000 in
theorem gX0_needAt_X0_loadAt_u45X2 : GoodIn wsX0_needAt (va_wsU RX0 45 RX2 "OilPush$Cylinder" ⟨"OilPush$Cylinder", "loadAt", "(I)I"⟩ yX0_loadAt wsX0_loadAt) := goodIn_app (goodIn_of _ (by decide +kernel)) ggX0_needAt_X0_loadAt
set_option maxRecDepth 20000 in
theorem gX0_needAt_X0_loadAt_u45X10 : GoodIn wsX0_needAt (va_wsU RX0 45 RX10 "OilPush$Cylinder" ⟨"OilPush$Cylinder", "loadAt", "(I)I"⟩ yX0_loadAt wsX0_loadAt) := goodIn_app (goodIn_of _ (by decide +kernel)) ggX0_needAt_X0_loadAt
set_option maxRecDepth 100000 in
theorem ggX0_needAt_X0_pushAgainst : GoodIn wsX0_needAt wsX0_pushAgainst := goodIn_s _ [17, 42, 43, 44, 45, 46, 47, 48, 49, 50, 51, 52, 53, 54, 55, 56, 57, 58, 59, 60, 61, 62] [33] (by decide +kernel) rfl (by decide +kernel)
set_option maxRecDepth 20000 in
theorem gX0_needAt_X0_pushAgainst : GoodIn wsX0_needAt (wsV RX0 49 RX0 yX0_pushAgainst wsX0_pushAgainst) := goodIn_app (goodIn_of _ (by decide +kernel)) ggX0_needAt_X0_pushAgainst
set_option maxRecDepth 20000 in
theorem gX0_needAt_X0_pushAgainst_u49X2 : GoodIn wsX0_needAt (va_wsU RX0 49 RX2 "OilPush$Cylinder" ⟨"OilPush$Cylinder", "pushAgainst", "(I)I"⟩ yX0_pushAgainst wsX0_pushAgainst) := goodIn_app (goodIn_of _ (by decide +kernel)) ggX0_needAt_X0_pushAgainst
set_option maxRecDepth 100000 in
theorem ggX0_needAt_X10_pushAgainst : GoodIn wsX0_needAt wsX10_pushAgainst := goodIn_s _ [] [41] (by decide +kernel) rfl (by decide +kernel)
set_option maxRecDepth 20000 in
theorem gX0_needAt_X10_pushAgainst_u49X10 : GoodIn wsX0_needAt (va_wsO RX0 49 RX10 "OilPush$Cylinder" ⟨"OilPush$Cylinder", "pushAgainst", "(I)I"⟩ yX10_pushAgainst wsX10_pushAgainst) := goodIn_app (goodIn_of _ (by decide +kernel)) ggX0_needAt_X10_pushAgainst
theorem dX0_needAt_0 : decode cX0_needAt 0 = .ok (.aload_n 0, 1) := by decide +kernel
theorem dX0_needAt_1 : decode cX0_needAt 1 = .ok (.aload_n 0, 1) := by decide +kernel
theorem dX0_needAt_2 : decode cX0_needAt 2 = .ok (.iload_n 1, 1) := by decide +kernel
theorem dX0_needAt_3 : decode cX0_needAt 3 = .ok (.invokevirtual 45, 3) := by decide +kernel
theorem dX0_needAt_6 : decode cX0_needAt 6 = .ok (.invokevirtual 49, 3) := by decide +kernel
theorem dX0_needAt_9 : decode cX0_needAt 9 = .ok (.aload_n 0, 1) := by decide +kernel
theorem dX0_needAt_10 : decode cX0_needAt 10 = .ok (.getfield 52, 3) := by decide +kernel
theorem dX0_needAt_13 : decode cX0_needAt 13 = .ok (.iadd, 1) := by decide +kernel
theorem dX0_needAt_14 : decode cX0_needAt 14 = .ok (.ireturn, 1) := by decide +kernel
set_option maxRecDepth 100000 in
theorem ggX0_isAt_X0_room : GoodIn wsX0_isAt wsX0_room := goodIn_s _ [6, 7, 12, 13, 14, 15, 16, 17, 18, 19, 20, 21, 22, 23, 24, 25, 26, 27, 28, 29, 30, 31, 32] [5] (by decide +kernel) rfl (by decide +kernel)
set_option maxRecDepth 20000 in
theorem gX0_isAt_X0_room : GoodIn wsX0_isAt (wsV RX0 31 RX0 yX0_room wsX0_room) := goodIn_app (goodIn_of _ (by decide +kernel)) ggX0_isAt_X0_room
set_option maxRecDepth 20000 in
theorem gX0_isAt_X0_room_u31X2 : GoodIn wsX0_isAt (va_wsU RX0 31 RX2 "OilPush$Cylinder" ⟨"OilPush$Cylinder", "room", "()I"⟩ yX0_room wsX0_room) := goodIn_app (goodIn_of _ (by decide +kernel)) ggX0_isAt_X0_room
set_option maxRecDepth 20000 in
theorem gX0_isAt_X0_room_u31X10 : GoodIn wsX0_isAt (va_wsU RX0 31 RX10 "OilPush$Cylinder" ⟨"OilPush$Cylinder", "room", "()I"⟩ yX0_room wsX0_room) := goodIn_app (goodIn_of _ (by decide +kernel)) ggX0_isAt_X0_room
theorem dX0_isAt_0 : decode cX0_isAt 0 = .ok (.iload_n 1, 1) := by decide +kernel
theorem dX0_isAt_1 : decode cX0_isAt 1 = .ok (.ifCond .eq 20, 3) := by decide +kernel
theorem dX0_isAt_4 : decode cX0_isAt 4 = .ok (.iload_n 2, 1) := by decide +kernel
theorem dX0_isAt_5 : decode cX0_isAt 5 = .ok (.iload_n 1, 1) := by decide +kernel
theorem dX0_isAt_6 : decode cX0_isAt 6 = .ok (.iconst 1, 1) := by decide +kernel
theorem dX0_isAt_7 : decode cX0_isAt 7 = .ok (.if_icmp .ne 10, 3) := by decide +kernel
theorem dX0_isAt_10 : decode cX0_isAt 10 = .ok (.aload_n 0, 1) := by decide +kernel
theorem dX0_isAt_11 : decode cX0_isAt 11 = .ok (.invokevirtual 31, 3) := by decide +kernel
theorem dX0_isAt_14 : decode cX0_isAt 14 = .ok (.goto 4, 3) := by decide +kernel
theorem dX0_isAt_17 : decode cX0_isAt 17 = .ok (.iconst 0, 1) := by decide +kernel
theorem dX0_isAt_18 : decode cX0_isAt 18 = .ok (.if_icmp .ne 7, 3) := by decide +kernel
theorem dX0_isAt_21 : decode cX0_isAt 21 = .ok (.iconst 1, 1) := by decide +kernel
theorem dX0_isAt_22 : decode cX0_isAt 22 = .ok (.goto 4, 3) := by decide +kernel
theorem dX0_isAt_25 : decode cX0_isAt 25 = .ok (.iconst 0, 1) := by decide +kernel
theorem dX0_isAt_26 : decode cX0_isAt 26 = .ok (.ireturn, 1) := by decide +kernel
theorem dX0_newCrack_0 : decode cX0_newCrack 0 = .ok (.aload_n 0, 1) := by decide +kernel
theorem dX0_newCrack_1 : decode cX0_newCrack 1 = .ok (.getfield 52, 3) := by decide +kernel
theorem dX0_newCrack_4 : decode cX0_newCrack 4 = .ok (.istore_n 2, 1) := by decide +kernel
theorem dX0_newCrack_5 : decode cX0_newCrack 5 = .ok (.aload_n 0, 1) := by decide +kernel
theorem dX0_newCrack_6 : decode cX0_newCrack 6 = .ok (.iload_n 1, 1) := by decide +kernel
theorem dX0_newCrack_7 : decode cX0_newCrack 7 = .ok (.putfield 52, 3) := by decide +kernel
theorem dX0_newCrack_10 : decode cX0_newCrack 10 = .ok (.iload_n 2, 1) := by decide +kernel
theorem dX0_newCrack_11 : decode cX0_newCrack 11 = .ok (.ireturn, 1) := by decide +kernel
theorem dX0_newFlow_0 : decode cX0_newFlow 0 = .ok (.aload_n 0, 1) := by decide +kernel
theorem dX0_newFlow_1 : decode cX0_newFlow 1 = .ok (.getfield 19, 3) := by decide +kernel
theorem dX0_newFlow_4 : decode cX0_newFlow 4 = .ok (.istore_n 2, 1) := by decide +kernel
theorem dX0_newFlow_5 : decode cX0_newFlow 5 = .ok (.aload_n 0, 1) := by decide +kernel
theorem dX0_newFlow_6 : decode cX0_newFlow 6 = .ok (.iload_n 1, 1) := by decide +kernel
theorem dX0_newFlow_7 : decode cX0_newFlow 7 = .ok (.putfield 19, 3) := by decide +kernel
theorem dX0_newFlow_10 : decode cX0_newFlow 10 = .ok (.iload_n 2, 1) := by decide +kernel
theorem dX0_newFlow_11 : decode cX0_newFlow 11 = .ok (.ireturn, 1) := by decide +kernel
set_option maxRecDepth 100000 in
theorem ggX0_newLoads_X11_get : GoodIn wsX0_newLoads wsX11_get := goodIn_s _ [] [5] (by decide +kernel) rfl (by decide +kernel)
set_option maxRecDepth 20000 in
theorem gX0_newLoads_X11_get_n41 : GoodIn wsX0_newLoads (wsX11_get) := ggX0_newLoads_X11_get
set_option maxRecDepth 100000 in
theorem ggX0_newLoads_X11_set : GoodIn wsX0_newLoads wsX11_set := goodIn_s _ [] [7] (by decide +kernel) rfl (by decide +kernel)
set_option maxRecDepth 20000 in
theorem gX0_newLoads_X11_set_n55 : GoodIn wsX0_newLoads (wsX11_set) := ggX0_newLoads_X11_set
theorem dX0_newLoads_0 : decode cX0_newLoads 0 = .ok (.aload_n 0, 1) := by decide +kernel
theorem dX0_newLoads_1 : decode cX0_newLoads 1 = .ok (.iload_n 3, 1) := by decide +kernel
theorem dX0_newLoads_2 : decode cX0_newLoads 2 = .ok (.putfield 15, 3) := by decide +kernel
theorem dX0_newLoads_5 : decode cX0_newLoads 5 = .ok (.iconst 0, 1) := by decide +kernel
theorem dX0_newLoads_6 : decode cX0_newLoads 6 = .ok (.istore 4, 2) := by decide +kernel
theorem dX0_newLoads_8 : decode cX0_newLoads 8 = .ok (.iload 4, 2) := by decide +kernel
theorem dX0_newLoads_10 : decode cX0_newLoads 10 = .ok (.iload_n 3, 1) := by decide +kernel
theorem dX0_newLoads_11 : decode cX0_newLoads 11 = .ok (.if_icmp .ge 26, 3) := by decide +kernel
theorem dX0_newLoads_14 : decode cX0_newLoads 14 = .ok (.aload_n 0, 1) := by decide +kernel
theorem dX0_newLoads_15 : decode cX0_newLoads 15 = .ok (.getfield 9, 3) := by decide +kernel
theorem dX0_newLoads_18 : decode cX0_newLoads 18 = .ok (.iload 4, 2) := by decide +kernel
theorem dX0_newLoads_20 : decode cX0_newLoads 20 = .ok (.aload_n 1, 1) := by decide +kernel
theorem dX0_newLoads_21 : decode cX0_newLoads 21 = .ok (.iload_n 2, 1) := by decide +kernel
theorem dX0_newLoads_22 : decode cX0_newLoads 22 = .ok (.iload 4, 2) := by decide +kernel
theorem dX0_newLoads_24 : decode cX0_newLoads 24 = .ok (.iadd, 1) := by decide +kernel
theorem dX0_newLoads_25 : decode cX0_newLoads 25 = .ok (.invokestatic 41, 3) := by decide +kernel
theorem dX0_newLoads_28 : decode cX0_newLoads 28 = .ok (.invokestatic 55, 3) := by decide +kernel
theorem dX0_newLoads_31 : decode cX0_newLoads 31 = .ok (.iinc 4 1, 3) := by decide +kernel
theorem dX0_newLoads_34 : decode cX0_newLoads 34 = .ok (.goto (-26), 3) := by decide +kernel
theorem dX0_newLoads_37 : decode cX0_newLoads 37 = .ok (.return_, 1) := by decide +kernel
set_option maxRecDepth 100000 in
theorem ggX0_toldBy_X0_plainlyTold : GoodIn wsX0_toldBy wsX0_plainlyTold := goodIn_s _ [6, 7, 8, 9, 11, 16] [5, 10] (by decide +kernel) rfl (by decide +kernel)
set_option maxRecDepth 20000 in
theorem gX0_toldBy_X0_plainlyTold : GoodIn wsX0_toldBy (wsV RX0 59 RX0 yX0_plainlyTold wsX0_plainlyTold) := goodIn_app (goodIn_of _ (by decide +kernel)) ggX0_toldBy_X0_plainlyTold
set_option maxRecDepth 20000 in
theorem gX0_toldBy_X0_plainlyTold_u59X2 : GoodIn wsX0_toldBy (va_wsU RX0 59 RX2 "OilPush$Cylinder" ⟨"OilPush$Cylinder", "plainlyTold", "(LOilPush$Trace;I)I"⟩ yX0_plainlyTold wsX0_plainlyTold) := goodIn_app (goodIn_of _ (by decide +kernel)) ggX0_toldBy_X0_plainlyTold
set_option maxRecDepth 20000 in
theorem gX0_toldBy_X0_plainlyTold_u59X10 : GoodIn wsX0_toldBy (va_wsU RX0 59 RX10 "OilPush$Cylinder" ⟨"OilPush$Cylinder", "plainlyTold", "(LOilPush$Trace;I)I"⟩ yX0_plainlyTold wsX0_plainlyTold) := goodIn_app (goodIn_of _ (by decide +kernel)) ggX0_toldBy_X0_plainlyTold
theorem dX0_toldBy_0 : decode cX0_toldBy 0 = .ok (.aload_n 0, 1) := by decide +kernel
theorem dX0_toldBy_1 : decode cX0_toldBy 1 = .ok (.aload_n 1, 1) := by decide +kernel
theorem dX0_toldBy_2 : decode cX0_toldBy 2 = .ok (.iload_n 2, 1) := by decide +kernel
theorem dX0_toldBy_3 : decode cX0_toldBy 3 = .ok (.invokevirtual 59, 3) := by decide +kernel
theorem dX0_toldBy_6 : decode cX0_toldBy 6 = .ok (.ireturn, 1) := by decide +kernel
set_option maxRecDepth 100000 in
theorem ggX0_plainlyTold_X9_leave : GoodIn wsX0_plainlyTold wsX9_leave := goodIn_s _ [6, 7] [5] (by decide +kernel) rfl (by decide +kernel)
set_option maxRecDepth 20000 in
theorem gX0_plainlyTold_X9_leave : GoodIn wsX0_plainlyTold (wsV RX0 63 RX9 yX9_leave wsX9_leave) := goodIn_app (goodIn_of _ (by decide +kernel)) ggX0_plainlyTold_X9_leave
theorem dX0_plainlyTold_0 : decode cX0_plainlyTold 0 = .ok (.aload_n 1, 1) := by decide +kernel
theorem dX0_plainlyTold_1 : decode cX0_plainlyTold 1 = .ok (.iconst 1, 1) := by decide +kernel
theorem dX0_plainlyTold_2 : decode cX0_plainlyTold 2 = .ok (.invokevirtual 63, 3) := by decide +kernel
theorem dX0_plainlyTold_5 : decode cX0_plainlyTold 5 = .ok (.iload_n 2, 1) := by decide +kernel
theorem dX0_plainlyTold_6 : decode cX0_plainlyTold 6 = .ok (.ireturn, 1) := by decide +kernel
set_option maxRecDepth 100000 in
theorem ggX0_seenBy_X9_leave : GoodIn wsX0_seenBy wsX9_leave := goodIn_s _ [7, 29] [6] (by decide +kernel) rfl (by decide +kernel)
set_option maxRecDepth 20000 in
theorem gX0_seenBy_X9_leave : GoodIn wsX0_seenBy (wsV RX0 63 RX9 yX9_leave wsX9_leave) := goodIn_app (goodIn_of _ (by decide +kernel)) ggX0_seenBy_X9_leave
theorem dX0_seenBy_0 : decode cX0_seenBy 0 = .ok (.aload_n 1, 1) := by decide +kernel
theorem dX0_seenBy_1 : decode cX0_seenBy 1 = .ok (.iconst 4, 1) := by decide +kernel
theorem dX0_seenBy_2 : decode cX0_seenBy 2 = .ok (.invokevirtual 63, 3) := by decide +kernel
theorem dX0_seenBy_5 : decode cX0_seenBy 5 = .ok (.aload_n 0, 1) := by decide +kernel
theorem dX0_seenBy_6 : decode cX0_seenBy 6 = .ok (.getfield 22, 3) := by decide +kernel
theorem dX0_seenBy_9 : decode cX0_seenBy 9 = .ok (.ireturn, 1) := by decide +kernel
theorem dX1_init_0 : decode cX1_init 0 = .ok (.aload_n 0, 1) := by decide +kernel
theorem dX1_init_1 : decode cX1_init 1 = .ok (.invokespecial 3, 3) := by decide +kernel
theorem dX1_init_4 : decode cX1_init 4 = .ok (.aload_n 0, 1) := by decide +kernel
theorem dX1_init_5 : decode cX1_init 5 = .ok (.bipush 6, 2) := by decide +kernel
theorem dX1_init_7 : decode cX1_init 7 = .ok (.newarray .int, 2) := by decide +kernel
theorem dX1_init_9 : decode cX1_init 9 = .ok (.putfield 9, 3) := by decide +kernel
theorem dX1_init_12 : decode cX1_init 12 = .ok (.aload_n 0, 1) := by decide +kernel
theorem dX1_init_13 : decode cX1_init 13 = .ok (.bipush 6, 2) := by decide +kernel
theorem dX1_init_15 : decode cX1_init 15 = .ok (.newarray .int, 2) := by decide +kernel
theorem dX1_init_17 : decode cX1_init 17 = .ok (.putfield 15, 3) := by decide +kernel
theorem dX1_init_20 : decode cX1_init 20 = .ok (.aload_n 0, 1) := by decide +kernel
theorem dX1_init_21 : decode cX1_init 21 = .ok (.bipush 6, 2) := by decide +kernel
theorem dX1_init_23 : decode cX1_init 23 = .ok (.newarray .int, 2) := by decide +kernel
theorem dX1_init_25 : decode cX1_init 25 = .ok (.putfield 18, 3) := by decide +kernel
theorem dX1_init_28 : decode cX1_init 28 = .ok (.aload_n 0, 1) := by decide +kernel
theorem dX1_init_29 : decode cX1_init 29 = .ok (.bipush 6, 2) := by decide +kernel
theorem dX1_init_31 : decode cX1_init 31 = .ok (.newarray .int, 2) := by decide +kernel
theorem dX1_init_33 : decode cX1_init 33 = .ok (.putfield 21, 3) := by decide +kernel
theorem dX1_init_36 : decode cX1_init 36 = .ok (.aload_n 0, 1) := by decide +kernel
theorem dX1_init_37 : decode cX1_init 37 = .ok (.bipush 6, 2) := by decide +kernel
theorem dX1_init_39 : decode cX1_init 39 = .ok (.newarray .int, 2) := by decide +kernel
theorem dX1_init_41 : decode cX1_init 41 = .ok (.putfield 24, 3) := by decide +kernel
theorem dX1_init_44 : decode cX1_init 44 = .ok (.return_, 1) := by decide +kernel
set_option maxRecDepth 100000 in
theorem ggX1_run_X4_at : GoodIn wsX1_run wsX4_at := goodIn_s _ [22, 23, 146, 147, 148, 149, 150] [21] (by decide +kernel) rfl (by decide +kernel)
set_option maxRecDepth 20000 in
theorem gX1_run_X4_at : GoodIn wsX1_run (wsV RX1 27 RX4 yX4_at wsX4_at) := goodIn_app (goodIn_of _ (by decide +kernel)) ggX1_run_X4_at
set_option maxRecDepth 100000 in
theorem ggX1_run_X1_drain : GoodIn wsX1_run wsX1_drain := goodIn_s _ [29, 30, 7, 8, 9, 31, 32, 34, 35, 36, 27, 38, 39, 40, 41, 42, 43, 44, 45, 47, 48, 49, 50, 51, 52, 54, 55, 56, 57, 58, 59, 60, 61, 62, 63, 64, 151, 152, 153, 154, 155, 160, 161, 162, 163, 164, 165, 166, 167, 168, 169, 170, 171, 172, 173, 174, 175, 176, 177, 178, 179, 180] [28, 10, 33, 37, 46, 53, 65] (by decide +kernel) rfl (by decide +kernel)
set_option maxRecDepth 20000 in
theorem gX1_run_X1_drain : GoodIn wsX1_run (wsV RX1 33 RX1 yX1_drain wsX1_drain) := goodIn_app (goodIn_of _ (by decide +kernel)) ggX1_run_X1_drain
set_option maxRecDepth 100000 in
theorem ggX1_run_X11_set : GoodIn wsX1_run wsX11_set := goodIn_s _ [] [65] (by decide +kernel) rfl (by decide +kernel)
set_option maxRecDepth 20000 in
theorem gX1_run_X11_set_n37 : GoodIn wsX1_run (wsX11_set) := ggX1_run_X11_set
set_option maxRecDepth 100000 in
theorem ggX1_run_X1_lineUp : GoodIn wsX1_run wsX1_lineUp := goodIn_s _ [70, 71, 39, 40, 29, 72, 73, 41, 7, 8, 9, 4, 17, 18, 19, 20, 22, 23, 31, 32, 74, 75, 76, 45, 78, 79, 43, 44, 47, 48, 49, 50, 51, 52, 54, 55, 56, 57, 58, 59, 80, 61, 62, 63, 81, 82, 83, 85, 86, 87, 88, 89, 90, 91, 93, 94, 95, 96, 64, 97, 98, 99, 100, 101, 27, 103, 133, 134, 135, 136, 137, 138, 139, 140, 141, 142, 143, 144, 145, 146, 147, 148, 149, 150, 151, 152, 153, 154, 155, 160, 161, 162, 163, 164, 165, 166, 167, 168, 169, 170, 171, 172, 173, 174, 175, 176, 177, 178, 179, 180] [69, 10, 21, 33, 77, 46, 53, 84, 92, 65, 102] (by decide +kernel) rfl (by decide +kernel)
set_option maxRecDepth 20000 in
theorem gX1_run_X1_lineUp : GoodIn wsX1_run (wsV RX1 41 RX1 yX1_lineUp wsX1_lineUp) := goodIn_app (goodIn_of _ (by decide +kernel)) ggX1_run_X1_lineUp
set_option maxRecDepth 100000 in
theorem ggX1_run_X1_takeFromPump : GoodIn wsX1_run wsX1_takeFromPump := goodIn_s _ [108, 13, 70, 103, 73, 7, 8, 9, 109, 72, 14, 15, 31, 32, 110, 111, 112, 27, 1, 29, 64, 133, 134, 135, 136, 137, 138, 139, 140, 141, 142, 143, 144, 145, 151, 152, 153, 154, 155] [107, 10, 16, 33, 113, 65] (by decide +kernel) rfl (by decide +kernel)
set_option maxRecDepth 20000 in
theorem gX1_run_X1_takeFromPump : GoodIn wsX1_run (wsV RX1 49 RX1 yX1_takeFromPump wsX1_takeFromPump) := goodIn_app (goodIn_of _ (by decide +kernel)) ggX1_run_X1_takeFromPump
set_option maxRecDepth 100000 in
theorem ggX1_run_X8_pressure : GoodIn wsX1_run wsX8_pressure := goodIn_s _ [119, 120, 121, 156, 157, 158, 159] [118] (by decide +kernel) rfl (by decide +kernel)
set_option maxRecDepth 20000 in
theorem gX1_run_X8_pressure : GoodIn wsX1_run (wsV RX1 59 RX8 yX8_pressure wsX8_pressure) := goodIn_app (goodIn_of _ (by decide +kernel)) ggX1_run_X8_pressure
set_option maxRecDepth 100000 in
theorem ggX1_run_X1_addUp : GoodIn wsX1_run wsX1_addUp := goodIn_s _ [108, 109, 1, 126, 13, 72, 127, 11, 12, 4, 128, 2, 31, 32, 133, 134, 135, 136, 137, 138, 139, 140, 141, 142, 143, 144, 145, 146, 147, 148, 149, 150] [125, 33] (by decide +kernel) rfl (by decide +kernel)
set_option maxRecDepth 20000 in
theorem gX1_run_X1_addUp : GoodIn wsX1_run (wsV RX1 91 RX1 yX1_addUp wsX1_addUp) := goodIn_app (goodIn_of _ (by decide +kernel)) ggX1_run_X1_addUp
set_option maxRecDepth 100000 in
theorem ggX1_run_X1_takeFromStore : GoodIn wsX1_run wsX1_takeFromStore := goodIn_s _ [70, 103, 3, 72, 73, 1, 6, 7, 8, 9, 11, 31, 32, 114, 115, 116, 117, 119, 120, 121, 110, 111, 112, 27, 29, 64, 133, 134, 135, 136, 137, 138, 139, 140, 141, 142, 143, 144, 145, 151, 152, 153, 154, 155, 156, 157, 158, 159] [132, 10, 33, 118, 113, 65] (by decide +kernel) rfl (by decide +kernel)
set_option maxRecDepth 20000 in
theorem gX1_run_X1_takeFromStore : GoodIn wsX1_run (wsV RX1 95 RX1 yX1_takeFromStore wsX1_takeFromStore) := goodIn_app (goodIn_of _ (by decide +kernel)) ggX1_run_X1_takeFromStore
theorem dX1_run_0 : decode cX1_run 0 = .ok (.iconst 0, 1) := by decide +kernel
theorem dX1_run_1 : decode cX1_run 1 = .ok (.istore 4, 2) := by decide +kernel
theorem dX1_run_3 : decode cX1_run 3 = .ok (.iload 4, 2) := by decide +kernel
theorem dX1_run_5 : decode cX1_run 5 = .ok (.bipush 6, 2) := by decide +kernel
theorem dX1_run_7 : decode cX1_run 7 = .ok (.if_icmp .ge 31, 3) := by decide +kernel
theorem dX1_run_10 : decode cX1_run 10 = .ok (.aload_n 0, 1) := by decide +kernel
theorem dX1_run_11 : decode cX1_run 11 = .ok (.getfield 9, 3) := by decide +kernel
theorem dX1_run_14 : decode cX1_run 14 = .ok (.iload 4, 2) := by decide +kernel
theorem dX1_run_16 : decode cX1_run 16 = .ok (.aload_n 0, 1) := by decide +kernel
theorem dX1_run_17 : decode cX1_run 17 = .ok (.aload_n 1, 1) := by decide +kernel
theorem dX1_run_18 : decode cX1_run 18 = .ok (.iload 4, 2) := by decide +kernel
theorem dX1_run_20 : decode cX1_run 20 = .ok (.invokevirtual 27, 3) := by decide +kernel
theorem dX1_run_23 : decode cX1_run 23 = .ok (.aload_n 2, 1) := by decide +kernel
theorem dX1_run_24 : decode cX1_run 24 = .ok (.aload_n 3, 1) := by decide +kernel
theorem dX1_run_25 : decode cX1_run 25 = .ok (.invokevirtual 33, 3) := by decide +kernel
theorem dX1_run_28 : decode cX1_run 28 = .ok (.ineg, 1) := by decide +kernel
theorem dX1_run_29 : decode cX1_run 29 = .ok (.invokestatic 37, 3) := by decide +kernel
theorem dX1_run_32 : decode cX1_run 32 = .ok (.iinc 4 1, 3) := by decide +kernel
theorem dX1_run_35 : decode cX1_run 35 = .ok (.goto (-32), 3) := by decide +kernel
theorem dX1_run_38 : decode cX1_run 38 = .ok (.aload_n 0, 1) := by decide +kernel
theorem dX1_run_39 : decode cX1_run 39 = .ok (.aload_n 1, 1) := by decide +kernel
theorem dX1_run_40 : decode cX1_run 40 = .ok (.aload_n 2, 1) := by decide +kernel
theorem dX1_run_41 : decode cX1_run 41 = .ok (.invokevirtual 41, 3) := by decide +kernel
theorem dX1_run_44 : decode cX1_run 44 = .ok (.aload_n 0, 1) := by decide +kernel
theorem dX1_run_45 : decode cX1_run 45 = .ok (.aload_n 1, 1) := by decide +kernel
theorem dX1_run_46 : decode cX1_run 46 = .ok (.getfield 45, 3) := by decide +kernel
theorem dX1_run_49 : decode cX1_run 49 = .ok (.aload_n 2, 1) := by decide +kernel
theorem dX1_run_50 : decode cX1_run 50 = .ok (.invokevirtual 49, 3) := by decide +kernel
theorem dX1_run_53 : decode cX1_run 53 = .ok (.istore 4, 2) := by decide +kernel
theorem dX1_run_55 : decode cX1_run 55 = .ok (.aload_n 2, 1) := by decide +kernel
theorem dX1_run_56 : decode cX1_run 56 = .ok (.getfield 53, 3) := by decide +kernel
theorem dX1_run_59 : decode cX1_run 59 = .ok (.invokevirtual 59, 3) := by decide +kernel
theorem dX1_run_62 : decode cX1_run 62 = .ok (.istore 5, 2) := by decide +kernel
theorem dX1_run_64 : decode cX1_run 64 = .ok (.aload_n 0, 1) := by decide +kernel
theorem dX1_run_65 : decode cX1_run 65 = .ok (.iload 5, 2) := by decide +kernel
theorem dX1_run_67 : decode cX1_run 67 = .ok (.aload_n 1, 1) := by decide +kernel
theorem dX1_run_68 : decode cX1_run 68 = .ok (.getfield 65, 3) := by decide +kernel
theorem dX1_run_71 : decode cX1_run 71 = .ok (.if_icmp .gt 26, 3) := by decide +kernel
theorem dX1_run_74 : decode cX1_run 74 = .ok (.iload 4, 2) := by decide +kernel
theorem dX1_run_76 : decode cX1_run 76 = .ok (.aload_n 2, 1) := by decide +kernel
theorem dX1_run_77 : decode cX1_run 77 = .ok (.getfield 53, 3) := by decide +kernel
theorem dX1_run_80 : decode cX1_run 80 = .ok (.getfield 68, 3) := by decide +kernel
theorem dX1_run_83 : decode cX1_run 83 = .ok (.aload_n 2, 1) := by decide +kernel
theorem dX1_run_84 : decode cX1_run 84 = .ok (.getfield 53, 3) := by decide +kernel
theorem dX1_run_87 : decode cX1_run 87 = .ok (.getfield 71, 3) := by decide +kernel
theorem dX1_run_90 : decode cX1_run 90 = .ok (.isub, 1) := by decide +kernel
theorem dX1_run_91 : decode cX1_run 91 = .ok (.invokestatic 74, 3) := by decide +kernel
theorem dX1_run_94 : decode cX1_run 94 = .ok (.goto 4, 3) := by decide +kernel
theorem dX1_run_97 : decode cX1_run 97 = .ok (.iconst 0, 1) := by decide +kernel
theorem dX1_run_98 : decode cX1_run 98 = .ok (.putfield 80, 3) := by decide +kernel
theorem dX1_run_101 : decode cX1_run 101 = .ok (.aload_n 2, 1) := by decide +kernel
theorem dX1_run_102 : decode cX1_run 102 = .ok (.getfield 53, 3) := by decide +kernel
theorem dX1_run_105 : decode cX1_run 105 = .ok (.dup, 1) := by decide +kernel
theorem dX1_run_106 : decode cX1_run 106 = .ok (.getfield 71, 3) := by decide +kernel
theorem dX1_run_109 : decode cX1_run 109 = .ok (.aload_n 0, 1) := by decide +kernel
theorem dX1_run_110 : decode cX1_run 110 = .ok (.getfield 80, 3) := by decide +kernel
theorem dX1_run_113 : decode cX1_run 113 = .ok (.iadd, 1) := by decide +kernel
theorem dX1_run_114 : decode cX1_run 114 = .ok (.putfield 71, 3) := by decide +kernel
theorem dX1_run_117 : decode cX1_run 117 = .ok (.aload_n 0, 1) := by decide +kernel
theorem dX1_run_118 : decode cX1_run 118 = .ok (.iload 4, 2) := by decide +kernel
theorem dX1_run_120 : decode cX1_run 120 = .ok (.aload_n 0, 1) := by decide +kernel
theorem dX1_run_121 : decode cX1_run 121 = .ok (.getfield 80, 3) := by decide +kernel
theorem dX1_run_124 : decode cX1_run 124 = .ok (.isub, 1) := by decide +kernel
theorem dX1_run_125 : decode cX1_run 125 = .ok (.putfield 83, 3) := by decide +kernel
theorem dX1_run_128 : decode cX1_run 128 = .ok (.aload_n 0, 1) := by decide +kernel
theorem dX1_run_129 : decode cX1_run 129 = .ok (.getfield 80, 3) := by decide +kernel
theorem dX1_run_132 : decode cX1_run 132 = .ok (.ifCond .le 16, 3) := by decide +kernel
theorem dX1_run_135 : decode cX1_run 135 = .ok (.aload_n 0, 1) := by decide +kernel
theorem dX1_run_136 : decode cX1_run 136 = .ok (.aload_n 0, 1) := by decide +kernel
theorem dX1_run_137 : decode cX1_run 137 = .ok (.getfield 86, 3) := by decide +kernel
theorem dX1_run_140 : decode cX1_run 140 = .ok (.iload 5, 2) := by decide +kernel
theorem dX1_run_142 : decode cX1_run 142 = .ok (.invokestatic 88, 3) := by decide +kernel
theorem dX1_run_145 : decode cX1_run 145 = .ok (.putfield 86, 3) := by decide +kernel
theorem dX1_run_148 : decode cX1_run 148 = .ok (.aload_n 0, 1) := by decide +kernel
theorem dX1_run_149 : decode cX1_run 149 = .ok (.getfield 83, 3) := by decide +kernel
theorem dX1_run_152 : decode cX1_run 152 = .ok (.ifCond .le 11, 3) := by decide +kernel
theorem dX1_run_155 : decode cX1_run 155 = .ok (.aload_n 0, 1) := by decide +kernel
theorem dX1_run_156 : decode cX1_run 156 = .ok (.aload_n 1, 1) := by decide +kernel
theorem dX1_run_157 : decode cX1_run 157 = .ok (.getfield 65, 3) := by decide +kernel
theorem dX1_run_160 : decode cX1_run 160 = .ok (.putfield 86, 3) := by decide +kernel
theorem dX1_run_163 : decode cX1_run 163 = .ok (.aload_n 0, 1) := by decide +kernel
theorem dX1_run_164 : decode cX1_run 164 = .ok (.aload_n 1, 1) := by decide +kernel
theorem dX1_run_165 : decode cX1_run 165 = .ok (.iload 5, 2) := by decide +kernel
theorem dX1_run_167 : decode cX1_run 167 = .ok (.invokevirtual 91, 3) := by decide +kernel
theorem dX1_run_170 : decode cX1_run 170 = .ok (.iload 4, 2) := by decide +kernel
theorem dX1_run_172 : decode cX1_run 172 = .ok (.ifCond .ne 8, 3) := by decide +kernel
theorem dX1_run_175 : decode cX1_run 175 = .ok (.aload_n 0, 1) := by decide +kernel
theorem dX1_run_176 : decode cX1_run 176 = .ok (.aload_n 2, 1) := by decide +kernel
theorem dX1_run_177 : decode cX1_run 177 = .ok (.invokevirtual 95, 3) := by decide +kernel
theorem dX1_run_180 : decode cX1_run 180 = .ok (.return_, 1) := by decide +kernel
set_option maxRecDepth 100000 in
theorem ggX1_drain_X11_get : GoodIn wsX1_drain wsX11_get := goodIn_s _ [] [9] (by decide +kernel) rfl (by decide +kernel)
set_option maxRecDepth 20000 in
theorem gX1_drain_X11_get_n106 : GoodIn wsX1_drain (wsX11_get) := ggX1_drain_X11_get
set_option maxRecDepth 100000 in
theorem ggX1_drain_X1_mostLost : GoodIn wsX1_drain wsX1_mostLost := goodIn_s _ [15, 16, 2, 17, 18, 1, 7, 8, 19, 20, 21, 22, 24, 25, 26, 4, 5, 27, 28, 29, 31, 32, 33, 34, 35, 36, 37, 38, 39, 40, 43, 44, 45, 46, 47, 48, 49, 50, 51, 52, 53, 54, 55, 56, 57, 58, 59, 60, 61, 62, 63, 64, 65, 66, 67, 68] [14, 9, 23, 6, 30] (by decide +kernel) rfl (by decide +kernel)
set_option maxRecDepth 20000 in
theorem gX1_drain_X1_mostLost : GoodIn wsX1_drain (wsV RX1 110 RX1 yX1_mostLost wsX1_mostLost) := goodIn_app (goodIn_of _ (by decide +kernel)) ggX1_drain_X1_mostLost
set_option maxRecDepth 100000 in
theorem ggX1_drain_X11_set : GoodIn wsX1_drain wsX11_set := goodIn_s _ [] [42] (by decide +kernel) rfl (by decide +kernel)
set_option maxRecDepth 20000 in
theorem gX1_drain_X11_set_n37 : GoodIn wsX1_drain (wsX11_set) := ggX1_drain_X11_set
theorem dX1_drain_0 : decode cX1_drain 0 = .ok (.aload_n 1, 1) := by decide +kernel
theorem dX1_drain_1 : decode cX1_drain 1 = .ok (.ifnonnull 5, 3) := by decide +kernel
theorem dX1_drain_4 : decode cX1_drain 4 = .ok (.iconst 0, 1) := by decide +kernel
theorem dX1_drain_5 : decode cX1_drain 5 = .ok (.ireturn, 1) := by decide +kernel
theorem dX1_drain_6 : decode cX1_drain 6 = .ok (.aload_n 2, 1) := by decide +kernel
theorem dX1_drain_7 : decode cX1_drain 7 = .ok (.getfield 99, 3) := by decide +kernel
theorem dX1_drain_10 : decode cX1_drain 10 = .ok (.aload_n 1, 1) := by decide +kernel
theorem dX1_drain_11 : decode cX1_drain 11 = .ok (.getfield 101, 3) := by decide +kernel
theorem dX1_drain_14 : decode cX1_drain 14 = .ok (.invokestatic 106, 3) := by decide +kernel
theorem dX1_drain_17 : decode cX1_drain 17 = .ok (.istore 4, 2) := by decide +kernel
theorem dX1_drain_19 : decode cX1_drain 19 = .ok (.iload 4, 2) := by decide +kernel
theorem dX1_drain_21 : decode cX1_drain 21 = .ok (.aload_n 0, 1) := by decide +kernel
theorem dX1_drain_22 : decode cX1_drain 22 = .ok (.aload_n 1, 1) := by decide +kernel
theorem dX1_drain_23 : decode cX1_drain 23 = .ok (.aload_n 2, 1) := by decide +kernel
theorem dX1_drain_24 : decode cX1_drain 24 = .ok (.aload_n 3, 1) := by decide +kernel
theorem dX1_drain_25 : decode cX1_drain 25 = .ok (.aload_n 1, 1) := by decide +kernel
theorem dX1_drain_26 : decode cX1_drain 26 = .ok (.getfield 101, 3) := by decide +kernel
theorem dX1_drain_29 : decode cX1_drain 29 = .ok (.invokestatic 106, 3) := by decide +kernel
theorem dX1_drain_32 : decode cX1_drain 32 = .ok (.invokevirtual 110, 3) := by decide +kernel
theorem dX1_drain_35 : decode cX1_drain 35 = .ok (.invokestatic 74, 3) := by decide +kernel
theorem dX1_drain_38 : decode cX1_drain 38 = .ok (.istore 5, 2) := by decide +kernel
theorem dX1_drain_40 : decode cX1_drain 40 = .ok (.aload_n 2, 1) := by decide +kernel
theorem dX1_drain_41 : decode cX1_drain 41 = .ok (.getfield 99, 3) := by decide +kernel
theorem dX1_drain_44 : decode cX1_drain 44 = .ok (.aload_n 1, 1) := by decide +kernel
theorem dX1_drain_45 : decode cX1_drain 45 = .ok (.getfield 101, 3) := by decide +kernel
theorem dX1_drain_48 : decode cX1_drain 48 = .ok (.iload 4, 2) := by decide +kernel
theorem dX1_drain_50 : decode cX1_drain 50 = .ok (.iload 5, 2) := by decide +kernel
theorem dX1_drain_52 : decode cX1_drain 52 = .ok (.isub, 1) := by decide +kernel
theorem dX1_drain_53 : decode cX1_drain 53 = .ok (.invokestatic 37, 3) := by decide +kernel
theorem dX1_drain_56 : decode cX1_drain 56 = .ok (.iload 5, 2) := by decide +kernel
theorem dX1_drain_58 : decode cX1_drain 58 = .ok (.ireturn, 1) := by decide +kernel
set_option maxRecDepth 100000 in
theorem ggX1_mostLost_X11_get : GoodIn wsX1_mostLost wsX11_get := goodIn_s _ [] [9] (by decide +kernel) rfl (by decide +kernel)
set_option maxRecDepth 20000 in
theorem gX1_mostLost_X11_get_n106 : GoodIn wsX1_mostLost (wsX11_get) := ggX1_mostLost_X11_get
set_option maxRecDepth 100000 in
theorem ggX1_mostLost_X0_loadAt : GoodIn wsX1_mostLost wsX0_loadAt := goodIn_s _ [15, 16, 17, 18, 19, 21, 22, 23, 13, 25, 26, 27, 28, 29, 30, 7, 8, 40, 41, 42, 43, 44, 45, 46, 47, 48, 49, 50, 51, 52, 53, 54, 55, 56, 57, 58, 59, 60] [14, 20, 24, 9] (by decide +kernel) rfl (by decide +kernel)
set_option maxRecDepth 20000 in
theorem gX1_mostLost_X0_loadAt : GoodIn wsX1_mostLost (wsV RX1 125 RX0 yX0_loadAt wsX0_loadAt) := goodIn_app (goodIn_of _ (by decide +kernel)) ggX1_mostLost_X0_loadAt
set_option maxRecDepth 20000 in
theorem gX1_mostLost_X0_loadAt_u125X2 : GoodIn wsX1_mostLost (va_wsU RX1 125 RX2 "OilPush$Cylinder" ⟨"OilPush$Cylinder", "loadAt", "(I)I"⟩ yX0_loadAt wsX0_loadAt) := goodIn_app (goodIn_of _ (by decide +kernel)) ggX1_mostLost_X0_loadAt
set_option maxRecDepth 20000 in
theorem gX1_mostLost_X0_loadAt_u125X10 : GoodIn wsX1_mostLost (va_wsU RX1 125 RX10 "OilPush$Cylinder" ⟨"OilPush$Cylinder", "loadAt", "(I)I"⟩ yX0_loadAt wsX0_loadAt) := goodIn_app (goodIn_of _ (by decide +kernel)) ggX1_mostLost_X0_loadAt
theorem dX1_mostLost_0 : decode cX1_mostLost 0 = .ok (.aload_n 1, 1) := by decide +kernel
theorem dX1_mostLost_1 : decode cX1_mostLost 1 = .ok (.instanceof 114, 3) := by decide +kernel
theorem dX1_mostLost_4 : decode cX1_mostLost 4 = .ok (.istore 4, 2) := by decide +kernel
theorem dX1_mostLost_6 : decode cX1_mostLost 6 = .ok (.aload_n 2, 1) := by decide +kernel
theorem dX1_mostLost_7 : decode cX1_mostLost 7 = .ok (.getfield 116, 3) := by decide +kernel
theorem dX1_mostLost_10 : decode cX1_mostLost 10 = .ok (.aload_n 1, 1) := by decide +kernel
theorem dX1_mostLost_11 : decode cX1_mostLost 11 = .ok (.getfield 101, 3) := by decide +kernel
theorem dX1_mostLost_14 : decode cX1_mostLost 14 = .ok (.invokestatic 106, 3) := by decide +kernel
theorem dX1_mostLost_17 : decode cX1_mostLost 17 = .ok (.istore 5, 2) := by decide +kernel
theorem dX1_mostLost_19 : decode cX1_mostLost 19 = .ok (.aload_n 2, 1) := by decide +kernel
theorem dX1_mostLost_20 : decode cX1_mostLost 20 = .ok (.getfield 119, 3) := by decide +kernel
theorem dX1_mostLost_23 : decode cX1_mostLost 23 = .ok (.aload_n 1, 1) := by decide +kernel
theorem dX1_mostLost_24 : decode cX1_mostLost 24 = .ok (.getfield 101, 3) := by decide +kernel
theorem dX1_mostLost_27 : decode cX1_mostLost 27 = .ok (.invokestatic 106, 3) := by decide +kernel
theorem dX1_mostLost_30 : decode cX1_mostLost 30 = .ok (.iconst 1, 1) := by decide +kernel
theorem dX1_mostLost_31 : decode cX1_mostLost 31 = .ok (.if_icmp .ne 17, 3) := by decide +kernel
theorem dX1_mostLost_34 : decode cX1_mostLost 34 = .ok (.iload 4, 2) := by decide +kernel
theorem dX1_mostLost_36 : decode cX1_mostLost 36 = .ok (.ifCond .eq 7, 3) := by decide +kernel
theorem dX1_mostLost_39 : decode cX1_mostLost 39 = .ok (.iconst 0, 1) := by decide +kernel
theorem dX1_mostLost_40 : decode cX1_mostLost 40 = .ok (.goto 7, 3) := by decide +kernel
theorem dX1_mostLost_43 : decode cX1_mostLost 43 = .ok (.aload_n 1, 1) := by decide +kernel
theorem dX1_mostLost_44 : decode cX1_mostLost 44 = .ok (.getfield 122, 3) := by decide +kernel
theorem dX1_mostLost_47 : decode cX1_mostLost 47 = .ok (.ireturn, 1) := by decide +kernel
theorem dX1_mostLost_48 : decode cX1_mostLost 48 = .ok (.iload 5, 2) := by decide +kernel
theorem dX1_mostLost_50 : decode cX1_mostLost 50 = .ok (.iconst 2, 1) := by decide +kernel
theorem dX1_mostLost_51 : decode cX1_mostLost 51 = .ok (.if_icmp .ne 8, 3) := by decide +kernel
theorem dX1_mostLost_54 : decode cX1_mostLost 54 = .ok (.aload_n 1, 1) := by decide +kernel
theorem dX1_mostLost_55 : decode cX1_mostLost 55 = .ok (.getfield 122, 3) := by decide +kernel
theorem dX1_mostLost_58 : decode cX1_mostLost 58 = .ok (.ireturn, 1) := by decide +kernel
theorem dX1_mostLost_59 : decode cX1_mostLost 59 = .ok (.iload 5, 2) := by decide +kernel
theorem dX1_mostLost_61 : decode cX1_mostLost 61 = .ok (.ifCond .ne 30, 3) := by decide +kernel
theorem dX1_mostLost_64 : decode cX1_mostLost 64 = .ok (.iload 4, 2) := by decide +kernel
theorem dX1_mostLost_66 : decode cX1_mostLost 66 = .ok (.ifCond .ne 25, 3) := by decide +kernel
theorem dX1_mostLost_69 : decode cX1_mostLost 69 = .ok (.aload_n 1, 1) := by decide +kernel
theorem dX1_mostLost_70 : decode cX1_mostLost 70 = .ok (.aload_n 2, 1) := by decide +kernel
theorem dX1_mostLost_71 : decode cX1_mostLost 71 = .ok (.getfield 99, 3) := by decide +kernel
theorem dX1_mostLost_74 : decode cX1_mostLost 74 = .ok (.aload_n 1, 1) := by decide +kernel
theorem dX1_mostLost_75 : decode cX1_mostLost 75 = .ok (.getfield 101, 3) := by decide +kernel
theorem dX1_mostLost_78 : decode cX1_mostLost 78 = .ok (.invokestatic 106, 3) := by decide +kernel
theorem dX1_mostLost_81 : decode cX1_mostLost 81 = .ok (.invokevirtual 125, 3) := by decide +kernel
theorem dX1_mostLost_84 : decode cX1_mostLost 84 = .ok (.ifCond .le 7, 3) := by decide +kernel
theorem dX1_mostLost_87 : decode cX1_mostLost 87 = .ok (.iconst 1, 1) := by decide +kernel
theorem dX1_mostLost_88 : decode cX1_mostLost 88 = .ok (.goto 4, 3) := by decide +kernel
theorem dX1_mostLost_91 : decode cX1_mostLost 91 = .ok (.iconst 0, 1) := by decide +kernel
theorem dX1_mostLost_92 : decode cX1_mostLost 92 = .ok (.istore 6, 2) := by decide +kernel
theorem dX1_mostLost_94 : decode cX1_mostLost 94 = .ok (.iload 6, 2) := by decide +kernel
theorem dX1_mostLost_96 : decode cX1_mostLost 96 = .ok (.ifCond .eq 7, 3) := by decide +kernel
theorem dX1_mostLost_99 : decode cX1_mostLost 99 = .ok (.iload_n 3, 1) := by decide +kernel
theorem dX1_mostLost_100 : decode cX1_mostLost 100 = .ok (.goto 4, 3) := by decide +kernel
theorem dX1_mostLost_103 : decode cX1_mostLost 103 = .ok (.iconst 0, 1) := by decide +kernel
theorem dX1_mostLost_104 : decode cX1_mostLost 104 = .ok (.ireturn, 1) := by decide +kernel
set_option maxRecDepth 100000 in
theorem ggX1_lineUp_X4_at : GoodIn wsX1_lineUp wsX4_at := goodIn_s _ [19, 20, 90, 91, 92, 93, 94] [18] (by decide +kernel) rfl (by decide +kernel)
set_option maxRecDepth 20000 in
theorem gX1_lineUp_X4_at : GoodIn wsX1_lineUp (wsV RX1 27 RX4 yX4_at wsX4_at) := goodIn_app (goodIn_of _ (by decide +kernel)) ggX1_lineUp_X4_at
set_option maxRecDepth 100000 in
theorem ggX1_lineUp_X11_get : GoodIn wsX1_lineUp wsX11_get := goodIn_s _ [] [23] (by decide +kernel) rfl (by decide +kernel)
set_option maxRecDepth 20000 in
theorem gX1_lineUp_X11_get_n106 : GoodIn wsX1_lineUp (wsX11_get) := ggX1_lineUp_X11_get
set_option maxRecDepth 100000 in
theorem ggX1_lineUp_X0_needAt : GoodIn wsX1_lineUp wsX0_needAt := goodIn_s _ [29, 30, 31, 32, 27, 34, 35, 36, 10, 11, 37, 38, 39, 41, 42, 43, 44, 45, 46, 21, 22, 47, 48, 49, 50, 51, 52, 53, 55, 56, 57, 58, 59, 60, 61, 100, 101, 102, 103, 104, 105, 106, 107, 108, 109, 110, 111, 112, 113, 114, 115, 116, 117, 118, 119, 120] [28, 33, 12, 40, 23, 54, 62] (by decide +kernel) rfl (by decide +kernel)
set_option maxRecDepth 20000 in
theorem gX1_lineUp_X0_needAt : GoodIn wsX1_lineUp (wsV RX1 135 RX0 yX0_needAt wsX0_needAt) := goodIn_app (goodIn_of _ (by decide +kernel)) ggX1_lineUp_X0_needAt
set_option maxRecDepth 20000 in
theorem gX1_lineUp_X0_needAt_u135X2 : GoodIn wsX1_lineUp (va_wsU RX1 135 RX2 "OilPush$Cylinder" ⟨"OilPush$Cylinder", "needAt", "(I)I"⟩ yX0_needAt wsX0_needAt) := goodIn_app (goodIn_of _ (by decide +kernel)) ggX1_lineUp_X0_needAt
set_option maxRecDepth 20000 in
theorem gX1_lineUp_X0_needAt_u135X10 : GoodIn wsX1_lineUp (va_wsU RX1 135 RX10 "OilPush$Cylinder" ⟨"OilPush$Cylinder", "needAt", "(I)I"⟩ yX0_needAt wsX0_needAt) := goodIn_app (goodIn_of _ (by decide +kernel)) ggX1_lineUp_X0_needAt
set_option maxRecDepth 100000 in
theorem ggX1_lineUp_X11_set : GoodIn wsX1_lineUp wsX11_set := goodIn_s _ [] [68] (by decide +kernel) rfl (by decide +kernel)
set_option maxRecDepth 20000 in
theorem gX1_lineUp_X11_set_n37 : GoodIn wsX1_lineUp (wsX11_set) := ggX1_lineUp_X11_set
set_option maxRecDepth 100000 in
theorem ggX1_lineUp_X0_room : GoodIn wsX1_lineUp wsX0_room := goodIn_s _ [41, 42, 100, 101, 102, 103, 104, 105, 106, 107, 108, 109, 110, 111, 112, 113, 114, 115, 116, 117, 118, 119, 120] [40] (by decide +kernel) rfl (by decide +kernel)
set_option maxRecDepth 20000 in
theorem gX1_lineUp_X0_room : GoodIn wsX1_lineUp (wsV RX1 138 RX0 yX0_room wsX0_room) := goodIn_app (goodIn_of _ (by decide +kernel)) ggX1_lineUp_X0_room
set_option maxRecDepth 20000 in
theorem gX1_lineUp_X0_room_u138X2 : GoodIn wsX1_lineUp (va_wsU RX1 138 RX2 "OilPush$Cylinder" ⟨"OilPush$Cylinder", "room", "()I"⟩ yX0_room wsX0_room) := goodIn_app (goodIn_of _ (by decide +kernel)) ggX1_lineUp_X0_room
set_option maxRecDepth 20000 in
theorem gX1_lineUp_X0_room_u138X10 : GoodIn wsX1_lineUp (va_wsU RX1 138 RX10 "OilPush$Cylinder" ⟨"OilPush$Cylinder", "room", "()I"⟩ yX0_room wsX0_room) := goodIn_app (goodIn_of _ (by decide +kernel)) ggX1_lineUp_X0_room
set_option maxRecDepth 100000 in
theorem ggX1_lineUp_X1_queue : GoodIn wsX1_lineUp wsX1_queue := goodIn_s _ [1, 6, 76, 21, 22, 67, 77, 78, 79, 80, 81, 82, 83, 84, 85, 86, 87, 88, 89] [75, 23, 68] (by decide +kernel) rfl (by decide +kernel)
set_option maxRecDepth 20000 in
theorem gX1_lineUp_X1_queue : GoodIn wsX1_lineUp (wsV RX1 141 RX1 yX1_queue wsX1_queue) := goodIn_app (goodIn_of _ (by decide +kernel)) ggX1_lineUp_X1_queue
theorem dX1_lineUp_0 : decode cX1_lineUp 0 = .ok (.aload_n 0, 1) := by decide +kernel
theorem dX1_lineUp_1 : decode cX1_lineUp 1 = .ok (.iconst 0, 1) := by decide +kernel
theorem dX1_lineUp_2 : decode cX1_lineUp 2 = .ok (.putfield 129, 3) := by decide +kernel
theorem dX1_lineUp_5 : decode cX1_lineUp 5 = .ok (.iconst 0, 1) := by decide +kernel
theorem dX1_lineUp_6 : decode cX1_lineUp 6 = .ok (.istore_n 3, 1) := by decide +kernel
theorem dX1_lineUp_7 : decode cX1_lineUp 7 = .ok (.iload_n 3, 1) := by decide +kernel
theorem dX1_lineUp_8 : decode cX1_lineUp 8 = .ok (.aload_n 1, 1) := by decide +kernel
theorem dX1_lineUp_9 : decode cX1_lineUp 9 = .ok (.getfield 132, 3) := by decide +kernel
theorem dX1_lineUp_12 : decode cX1_lineUp 12 = .ok (.if_icmp .ge 127, 3) := by decide +kernel
theorem dX1_lineUp_15 : decode cX1_lineUp 15 = .ok (.aload_n 1, 1) := by decide +kernel
theorem dX1_lineUp_16 : decode cX1_lineUp 16 = .ok (.iload_n 3, 1) := by decide +kernel
theorem dX1_lineUp_17 : decode cX1_lineUp 17 = .ok (.invokevirtual 27, 3) := by decide +kernel
theorem dX1_lineUp_20 : decode cX1_lineUp 20 = .ok (.astore 4, 2) := by decide +kernel
theorem dX1_lineUp_22 : decode cX1_lineUp 22 = .ok (.aload 4, 2) := by decide +kernel
theorem dX1_lineUp_24 : decode cX1_lineUp 24 = .ok (.ifnull 109, 3) := by decide +kernel
theorem dX1_lineUp_27 : decode cX1_lineUp 27 = .ok (.aload_n 2, 1) := by decide +kernel
theorem dX1_lineUp_28 : decode cX1_lineUp 28 = .ok (.getfield 116, 3) := by decide +kernel
theorem dX1_lineUp_31 : decode cX1_lineUp 31 = .ok (.iload_n 3, 1) := by decide +kernel
theorem dX1_lineUp_32 : decode cX1_lineUp 32 = .ok (.invokestatic 106, 3) := by decide +kernel
theorem dX1_lineUp_35 : decode cX1_lineUp 35 = .ok (.iconst 1, 1) := by decide +kernel
theorem dX1_lineUp_36 : decode cX1_lineUp 36 = .ok (.if_icmp .ne 97, 3) := by decide +kernel
theorem dX1_lineUp_39 : decode cX1_lineUp 39 = .ok (.aload_n 2, 1) := by decide +kernel
theorem dX1_lineUp_40 : decode cX1_lineUp 40 = .ok (.getfield 119, 3) := by decide +kernel
theorem dX1_lineUp_43 : decode cX1_lineUp 43 = .ok (.iload_n 3, 1) := by decide +kernel
theorem dX1_lineUp_44 : decode cX1_lineUp 44 = .ok (.invokestatic 106, 3) := by decide +kernel
theorem dX1_lineUp_47 : decode cX1_lineUp 47 = .ok (.iconst 1, 1) := by decide +kernel
theorem dX1_lineUp_48 : decode cX1_lineUp 48 = .ok (.if_icmp .ne 6, 3) := by decide +kernel
theorem dX1_lineUp_51 : decode cX1_lineUp 51 = .ok (.goto 82, 3) := by decide +kernel
theorem dX1_lineUp_54 : decode cX1_lineUp 54 = .ok (.aload_n 2, 1) := by decide +kernel
theorem dX1_lineUp_55 : decode cX1_lineUp 55 = .ok (.getfield 99, 3) := by decide +kernel
theorem dX1_lineUp_58 : decode cX1_lineUp 58 = .ok (.iload_n 3, 1) := by decide +kernel
theorem dX1_lineUp_59 : decode cX1_lineUp 59 = .ok (.invokestatic 106, 3) := by decide +kernel
theorem dX1_lineUp_62 : decode cX1_lineUp 62 = .ok (.istore 5, 2) := by decide +kernel
theorem dX1_lineUp_64 : decode cX1_lineUp 64 = .ok (.aload_n 0, 1) := by decide +kernel
theorem dX1_lineUp_65 : decode cX1_lineUp 65 = .ok (.getfield 18, 3) := by decide +kernel
theorem dX1_lineUp_68 : decode cX1_lineUp 68 = .ok (.iload_n 3, 1) := by decide +kernel
theorem dX1_lineUp_69 : decode cX1_lineUp 69 = .ok (.aload 4, 2) := by decide +kernel
theorem dX1_lineUp_71 : decode cX1_lineUp 71 = .ok (.iload 5, 2) := by decide +kernel
theorem dX1_lineUp_73 : decode cX1_lineUp 73 = .ok (.invokevirtual 135, 3) := by decide +kernel
theorem dX1_lineUp_76 : decode cX1_lineUp 76 = .ok (.invokestatic 37, 3) := by decide +kernel
theorem dX1_lineUp_79 : decode cX1_lineUp 79 = .ok (.aload_n 0, 1) := by decide +kernel
theorem dX1_lineUp_80 : decode cX1_lineUp 80 = .ok (.getfield 21, 3) := by decide +kernel
theorem dX1_lineUp_83 : decode cX1_lineUp 83 = .ok (.iload_n 3, 1) := by decide +kernel
theorem dX1_lineUp_84 : decode cX1_lineUp 84 = .ok (.aload 4, 2) := by decide +kernel
theorem dX1_lineUp_86 : decode cX1_lineUp 86 = .ok (.getfield 122, 3) := by decide +kernel
theorem dX1_lineUp_89 : decode cX1_lineUp 89 = .ok (.aload 4, 2) := by decide +kernel
theorem dX1_lineUp_91 : decode cX1_lineUp 91 = .ok (.invokevirtual 138, 3) := by decide +kernel
theorem dX1_lineUp_94 : decode cX1_lineUp 94 = .ok (.iload 5, 2) := by decide +kernel
theorem dX1_lineUp_96 : decode cX1_lineUp 96 = .ok (.isub, 1) := by decide +kernel
theorem dX1_lineUp_97 : decode cX1_lineUp 97 = .ok (.invokestatic 74, 3) := by decide +kernel
theorem dX1_lineUp_100 : decode cX1_lineUp 100 = .ok (.invokestatic 37, 3) := by decide +kernel
theorem dX1_lineUp_103 : decode cX1_lineUp 103 = .ok (.iload 5, 2) := by decide +kernel
theorem dX1_lineUp_105 : decode cX1_lineUp 105 = .ok (.aload 4, 2) := by decide +kernel
theorem dX1_lineUp_107 : decode cX1_lineUp 107 = .ok (.invokevirtual 138, 3) := by decide +kernel
theorem dX1_lineUp_110 : decode cX1_lineUp 110 = .ok (.if_icmp .ge 23, 3) := by decide +kernel
theorem dX1_lineUp_113 : decode cX1_lineUp 113 = .ok (.aload_n 0, 1) := by decide +kernel
theorem dX1_lineUp_114 : decode cX1_lineUp 114 = .ok (.getfield 18, 3) := by decide +kernel
theorem dX1_lineUp_117 : decode cX1_lineUp 117 = .ok (.iload_n 3, 1) := by decide +kernel
theorem dX1_lineUp_118 : decode cX1_lineUp 118 = .ok (.invokestatic 106, 3) := by decide +kernel
theorem dX1_lineUp_121 : decode cX1_lineUp 121 = .ok (.aload_n 1, 1) := by decide +kernel
theorem dX1_lineUp_122 : decode cX1_lineUp 122 = .ok (.getfield 65, 3) := by decide +kernel
theorem dX1_lineUp_125 : decode cX1_lineUp 125 = .ok (.if_icmp .gt 8, 3) := by decide +kernel
theorem dX1_lineUp_128 : decode cX1_lineUp 128 = .ok (.aload_n 0, 1) := by decide +kernel
theorem dX1_lineUp_129 : decode cX1_lineUp 129 = .ok (.iload_n 3, 1) := by decide +kernel
theorem dX1_lineUp_130 : decode cX1_lineUp 130 = .ok (.invokevirtual 141, 3) := by decide +kernel
theorem dX1_lineUp_133 : decode cX1_lineUp 133 = .ok (.iinc 3 1, 3) := by decide +kernel
theorem dX1_lineUp_136 : decode cX1_lineUp 136 = .ok (.goto (-129), 3) := by decide +kernel
theorem dX1_lineUp_139 : decode cX1_lineUp 139 = .ok (.return_, 1) := by decide +kernel
set_option maxRecDepth 100000 in
theorem ggX1_queue_X11_get : GoodIn wsX1_queue wsX11_get := goodIn_s _ [] [6] (by decide +kernel) rfl (by decide +kernel)
set_option maxRecDepth 20000 in
theorem gX1_queue_X11_get_n106 : GoodIn wsX1_queue (wsX11_get) := ggX1_queue_X11_get
set_option maxRecDepth 100000 in
theorem ggX1_queue_X11_set : GoodIn wsX1_queue wsX11_set := goodIn_s _ [] [8] (by decide +kernel) rfl (by decide +kernel)
set_option maxRecDepth 20000 in
theorem gX1_queue_X11_set_n37 : GoodIn wsX1_queue (wsX11_set) := ggX1_queue_X11_set
theorem dX1_queue_0 : decode cX1_queue 0 = .ok (.aload_n 0, 1) := by decide +kernel
theorem dX1_queue_1 : decode cX1_queue 1 = .ok (.getfield 129, 3) := by decide +kernel
theorem dX1_queue_4 : decode cX1_queue 4 = .ok (.istore_n 2, 1) := by decide +kernel
theorem dX1_queue_5 : decode cX1_queue 5 = .ok (.iload_n 2, 1) := by decide +kernel
theorem dX1_queue_6 : decode cX1_queue 6 = .ok (.ifCond .le 55, 3) := by decide +kernel
theorem dX1_queue_9 : decode cX1_queue 9 = .ok (.aload_n 0, 1) := by decide +kernel
theorem dX1_queue_10 : decode cX1_queue 10 = .ok (.getfield 18, 3) := by decide +kernel
theorem dX1_queue_13 : decode cX1_queue 13 = .ok (.aload_n 0, 1) := by decide +kernel
theorem dX1_queue_14 : decode cX1_queue 14 = .ok (.getfield 15, 3) := by decide +kernel
theorem dX1_queue_17 : decode cX1_queue 17 = .ok (.iload_n 2, 1) := by decide +kernel
theorem dX1_queue_18 : decode cX1_queue 18 = .ok (.iconst 1, 1) := by decide +kernel
theorem dX1_queue_19 : decode cX1_queue 19 = .ok (.isub, 1) := by decide +kernel
theorem dX1_queue_20 : decode cX1_queue 20 = .ok (.invokestatic 106, 3) := by decide +kernel
theorem dX1_queue_23 : decode cX1_queue 23 = .ok (.invokestatic 106, 3) := by decide +kernel
theorem dX1_queue_26 : decode cX1_queue 26 = .ok (.aload_n 0, 1) := by decide +kernel
theorem dX1_queue_27 : decode cX1_queue 27 = .ok (.getfield 18, 3) := by decide +kernel
theorem dX1_queue_30 : decode cX1_queue 30 = .ok (.iload_n 1, 1) := by decide +kernel
theorem dX1_queue_31 : decode cX1_queue 31 = .ok (.invokestatic 106, 3) := by decide +kernel
theorem dX1_queue_34 : decode cX1_queue 34 = .ok (.if_icmp .le 27, 3) := by decide +kernel
theorem dX1_queue_37 : decode cX1_queue 37 = .ok (.aload_n 0, 1) := by decide +kernel
theorem dX1_queue_38 : decode cX1_queue 38 = .ok (.getfield 15, 3) := by decide +kernel
theorem dX1_queue_41 : decode cX1_queue 41 = .ok (.iload_n 2, 1) := by decide +kernel
theorem dX1_queue_42 : decode cX1_queue 42 = .ok (.aload_n 0, 1) := by decide +kernel
theorem dX1_queue_43 : decode cX1_queue 43 = .ok (.getfield 15, 3) := by decide +kernel
theorem dX1_queue_46 : decode cX1_queue 46 = .ok (.iload_n 2, 1) := by decide +kernel
theorem dX1_queue_47 : decode cX1_queue 47 = .ok (.iconst 1, 1) := by decide +kernel
theorem dX1_queue_48 : decode cX1_queue 48 = .ok (.isub, 1) := by decide +kernel
theorem dX1_queue_49 : decode cX1_queue 49 = .ok (.invokestatic 106, 3) := by decide +kernel
theorem dX1_queue_52 : decode cX1_queue 52 = .ok (.invokestatic 37, 3) := by decide +kernel
theorem dX1_queue_55 : decode cX1_queue 55 = .ok (.iinc 2 (-1), 3) := by decide +kernel
theorem dX1_queue_58 : decode cX1_queue 58 = .ok (.goto (-53), 3) := by decide +kernel
theorem dX1_queue_61 : decode cX1_queue 61 = .ok (.aload_n 0, 1) := by decide +kernel
theorem dX1_queue_62 : decode cX1_queue 62 = .ok (.getfield 15, 3) := by decide +kernel
theorem dX1_queue_65 : decode cX1_queue 65 = .ok (.iload_n 2, 1) := by decide +kernel
theorem dX1_queue_66 : decode cX1_queue 66 = .ok (.iload_n 1, 1) := by decide +kernel
theorem dX1_queue_67 : decode cX1_queue 67 = .ok (.invokestatic 37, 3) := by decide +kernel
theorem dX1_queue_70 : decode cX1_queue 70 = .ok (.aload_n 0, 1) := by decide +kernel
theorem dX1_queue_71 : decode cX1_queue 71 = .ok (.dup, 1) := by decide +kernel
theorem dX1_queue_72 : decode cX1_queue 72 = .ok (.getfield 129, 3) := by decide +kernel
theorem dX1_queue_75 : decode cX1_queue 75 = .ok (.iconst 1, 1) := by decide +kernel
theorem dX1_queue_76 : decode cX1_queue 76 = .ok (.iadd, 1) := by decide +kernel
theorem dX1_queue_77 : decode cX1_queue 77 = .ok (.putfield 129, 3) := by decide +kernel
theorem dX1_queue_80 : decode cX1_queue 80 = .ok (.return_, 1) := by decide +kernel
set_option maxRecDepth 100000 in
theorem ggX1_takeFromPump_X11_get : GoodIn wsX1_takeFromPump wsX11_get := goodIn_s _ [] [17] (by decide +kernel) rfl (by decide +kernel)
set_option maxRecDepth 20000 in
theorem gX1_takeFromPump_X11_get_n106 : GoodIn wsX1_takeFromPump (wsX11_get) := ggX1_takeFromPump_X11_get
set_option maxRecDepth 100000 in
theorem ggX1_takeFromPump_X1_give : GoodIn wsX1_takeFromPump wsX1_give := goodIn_s _ [23, 24, 15, 16, 25, 27, 28, 29, 30, 31, 32, 33, 34, 35, 36, 37, 38, 39, 40, 41, 42, 43, 44] [22, 17, 26] (by decide +kernel) rfl (by decide +kernel)
set_option maxRecDepth 20000 in
theorem gX1_takeFromPump_X1_give : GoodIn wsX1_takeFromPump (wsV RX1 148 RX1 yX1_give wsX1_give) := goodIn_app (goodIn_of _ (by decide +kernel)) ggX1_takeFromPump_X1_give
set_option maxRecDepth 100000 in
theorem ggX1_takeFromPump_X11_set : GoodIn wsX1_takeFromPump wsX11_set := goodIn_s _ [] [26] (by decide +kernel) rfl (by decide +kernel)
set_option maxRecDepth 20000 in
theorem gX1_takeFromPump_X11_set_n37 : GoodIn wsX1_takeFromPump (wsX11_set) := ggX1_takeFromPump_X11_set
theorem dX1_takeFromPump_0 : decode cX1_takeFromPump 0 = .ok (.iload_n 1, 1) := by decide +kernel
theorem dX1_takeFromPump_1 : decode cX1_takeFromPump 1 = .ok (.istore_n 3, 1) := by decide +kernel
theorem dX1_takeFromPump_2 : decode cX1_takeFromPump 2 = .ok (.aload_n 0, 1) := by decide +kernel
theorem dX1_takeFromPump_3 : decode cX1_takeFromPump 3 = .ok (.iconst 0, 1) := by decide +kernel
theorem dX1_takeFromPump_4 : decode cX1_takeFromPump 4 = .ok (.putfield 145, 3) := by decide +kernel
theorem dX1_takeFromPump_7 : decode cX1_takeFromPump 7 = .ok (.aload_n 0, 1) := by decide +kernel
theorem dX1_takeFromPump_8 : decode cX1_takeFromPump 8 = .ok (.iconst 0, 1) := by decide +kernel
theorem dX1_takeFromPump_9 : decode cX1_takeFromPump 9 = .ok (.putfield 86, 3) := by decide +kernel
theorem dX1_takeFromPump_12 : decode cX1_takeFromPump 12 = .ok (.iconst 0, 1) := by decide +kernel
theorem dX1_takeFromPump_13 : decode cX1_takeFromPump 13 = .ok (.istore 4, 2) := by decide +kernel
theorem dX1_takeFromPump_15 : decode cX1_takeFromPump 15 = .ok (.iload 4, 2) := by decide +kernel
theorem dX1_takeFromPump_17 : decode cX1_takeFromPump 17 = .ok (.aload_n 0, 1) := by decide +kernel
theorem dX1_takeFromPump_18 : decode cX1_takeFromPump 18 = .ok (.getfield 129, 3) := by decide +kernel
theorem dX1_takeFromPump_21 : decode cX1_takeFromPump 21 = .ok (.if_icmp .ge 97, 3) := by decide +kernel
theorem dX1_takeFromPump_24 : decode cX1_takeFromPump 24 = .ok (.aload_n 0, 1) := by decide +kernel
theorem dX1_takeFromPump_25 : decode cX1_takeFromPump 25 = .ok (.getfield 15, 3) := by decide +kernel
theorem dX1_takeFromPump_28 : decode cX1_takeFromPump 28 = .ok (.iload 4, 2) := by decide +kernel
theorem dX1_takeFromPump_30 : decode cX1_takeFromPump 30 = .ok (.invokestatic 106, 3) := by decide +kernel
theorem dX1_takeFromPump_33 : decode cX1_takeFromPump 33 = .ok (.istore 5, 2) := by decide +kernel
theorem dX1_takeFromPump_35 : decode cX1_takeFromPump 35 = .ok (.aload_n 0, 1) := by decide +kernel
theorem dX1_takeFromPump_36 : decode cX1_takeFromPump 36 = .ok (.getfield 21, 3) := by decide +kernel
theorem dX1_takeFromPump_39 : decode cX1_takeFromPump 39 = .ok (.iload 5, 2) := by decide +kernel
theorem dX1_takeFromPump_41 : decode cX1_takeFromPump 41 = .ok (.invokestatic 106, 3) := by decide +kernel
theorem dX1_takeFromPump_44 : decode cX1_takeFromPump 44 = .ok (.iload_n 3, 1) := by decide +kernel
theorem dX1_takeFromPump_45 : decode cX1_takeFromPump 45 = .ok (.invokestatic 74, 3) := by decide +kernel
theorem dX1_takeFromPump_48 : decode cX1_takeFromPump 48 = .ok (.istore 6, 2) := by decide +kernel
theorem dX1_takeFromPump_50 : decode cX1_takeFromPump 50 = .ok (.iload 6, 2) := by decide +kernel
theorem dX1_takeFromPump_52 : decode cX1_takeFromPump 52 = .ok (.ifCond .le 60, 3) := by decide +kernel
theorem dX1_takeFromPump_55 : decode cX1_takeFromPump 55 = .ok (.aload_n 0, 1) := by decide +kernel
theorem dX1_takeFromPump_56 : decode cX1_takeFromPump 56 = .ok (.iload 5, 2) := by decide +kernel
theorem dX1_takeFromPump_58 : decode cX1_takeFromPump 58 = .ok (.iload 6, 2) := by decide +kernel
theorem dX1_takeFromPump_60 : decode cX1_takeFromPump 60 = .ok (.aload_n 2, 1) := by decide +kernel
theorem dX1_takeFromPump_61 : decode cX1_takeFromPump 61 = .ok (.invokevirtual 148, 3) := by decide +kernel
theorem dX1_takeFromPump_64 : decode cX1_takeFromPump 64 = .ok (.iload_n 3, 1) := by decide +kernel
theorem dX1_takeFromPump_65 : decode cX1_takeFromPump 65 = .ok (.iload 6, 2) := by decide +kernel
theorem dX1_takeFromPump_67 : decode cX1_takeFromPump 67 = .ok (.isub, 1) := by decide +kernel
theorem dX1_takeFromPump_68 : decode cX1_takeFromPump 68 = .ok (.istore_n 3, 1) := by decide +kernel
theorem dX1_takeFromPump_69 : decode cX1_takeFromPump 69 = .ok (.aload_n 0, 1) := by decide +kernel
theorem dX1_takeFromPump_70 : decode cX1_takeFromPump 70 = .ok (.getfield 24, 3) := by decide +kernel
theorem dX1_takeFromPump_73 : decode cX1_takeFromPump 73 = .ok (.aload_n 0, 1) := by decide +kernel
theorem dX1_takeFromPump_74 : decode cX1_takeFromPump 74 = .ok (.getfield 145, 3) := by decide +kernel
theorem dX1_takeFromPump_77 : decode cX1_takeFromPump 77 = .ok (.iload 5, 2) := by decide +kernel
theorem dX1_takeFromPump_79 : decode cX1_takeFromPump 79 = .ok (.invokestatic 37, 3) := by decide +kernel
theorem dX1_takeFromPump_82 : decode cX1_takeFromPump 82 = .ok (.aload_n 0, 1) := by decide +kernel
theorem dX1_takeFromPump_83 : decode cX1_takeFromPump 83 = .ok (.dup, 1) := by decide +kernel
theorem dX1_takeFromPump_84 : decode cX1_takeFromPump 84 = .ok (.getfield 145, 3) := by decide +kernel
theorem dX1_takeFromPump_87 : decode cX1_takeFromPump 87 = .ok (.iconst 1, 1) := by decide +kernel
theorem dX1_takeFromPump_88 : decode cX1_takeFromPump 88 = .ok (.iadd, 1) := by decide +kernel
theorem dX1_takeFromPump_89 : decode cX1_takeFromPump 89 = .ok (.putfield 145, 3) := by decide +kernel
theorem dX1_takeFromPump_92 : decode cX1_takeFromPump 92 = .ok (.aload_n 0, 1) := by decide +kernel
theorem dX1_takeFromPump_93 : decode cX1_takeFromPump 93 = .ok (.aload_n 0, 1) := by decide +kernel
theorem dX1_takeFromPump_94 : decode cX1_takeFromPump 94 = .ok (.getfield 86, 3) := by decide +kernel
theorem dX1_takeFromPump_97 : decode cX1_takeFromPump 97 = .ok (.aload_n 0, 1) := by decide +kernel
theorem dX1_takeFromPump_98 : decode cX1_takeFromPump 98 = .ok (.getfield 18, 3) := by decide +kernel
theorem dX1_takeFromPump_101 : decode cX1_takeFromPump 101 = .ok (.iload 5, 2) := by decide +kernel
theorem dX1_takeFromPump_103 : decode cX1_takeFromPump 103 = .ok (.invokestatic 106, 3) := by decide +kernel
theorem dX1_takeFromPump_106 : decode cX1_takeFromPump 106 = .ok (.invokestatic 88, 3) := by decide +kernel
theorem dX1_takeFromPump_109 : decode cX1_takeFromPump 109 = .ok (.putfield 86, 3) := by decide +kernel
theorem dX1_takeFromPump_112 : decode cX1_takeFromPump 112 = .ok (.iinc 4 1, 3) := by decide +kernel
theorem dX1_takeFromPump_115 : decode cX1_takeFromPump 115 = .ok (.goto (-100), 3) := by decide +kernel
theorem dX1_takeFromPump_118 : decode cX1_takeFromPump 118 = .ok (.iload_n 3, 1) := by decide +kernel
theorem dX1_takeFromPump_119 : decode cX1_takeFromPump 119 = .ok (.ireturn, 1) := by decide +kernel
set_option maxRecDepth 100000 in
theorem ggX1_give_X11_get : GoodIn wsX1_give wsX11_get := goodIn_s _ [] [5] (by decide +kernel) rfl (by decide +kernel)
set_option maxRecDepth 20000 in
theorem gX1_give_X11_get_n106 : GoodIn wsX1_give (wsX11_get) := ggX1_give_X11_get
set_option maxRecDepth 100000 in
theorem ggX1_give_X11_set : GoodIn wsX1_give wsX11_set := goodIn_s _ [] [7] (by decide +kernel) rfl (by decide +kernel)
set_option maxRecDepth 20000 in
theorem gX1_give_X11_set_n37 : GoodIn wsX1_give (wsX11_set) := ggX1_give_X11_set
theorem dX1_give_0 : decode cX1_give 0 = .ok (.aload_n 0, 1) := by decide +kernel
theorem dX1_give_1 : decode cX1_give 1 = .ok (.getfield 9, 3) := by decide +kernel
theorem dX1_give_4 : decode cX1_give 4 = .ok (.iload_n 1, 1) := by decide +kernel
theorem dX1_give_5 : decode cX1_give 5 = .ok (.aload_n 0, 1) := by decide +kernel
theorem dX1_give_6 : decode cX1_give 6 = .ok (.getfield 9, 3) := by decide +kernel
theorem dX1_give_9 : decode cX1_give 9 = .ok (.iload_n 1, 1) := by decide +kernel
theorem dX1_give_10 : decode cX1_give 10 = .ok (.invokestatic 106, 3) := by decide +kernel
theorem dX1_give_13 : decode cX1_give 13 = .ok (.iload_n 2, 1) := by decide +kernel
theorem dX1_give_14 : decode cX1_give 14 = .ok (.iadd, 1) := by decide +kernel
theorem dX1_give_15 : decode cX1_give 15 = .ok (.invokestatic 37, 3) := by decide +kernel
theorem dX1_give_18 : decode cX1_give 18 = .ok (.aload_n 3, 1) := by decide +kernel
theorem dX1_give_19 : decode cX1_give 19 = .ok (.getfield 99, 3) := by decide +kernel
theorem dX1_give_22 : decode cX1_give 22 = .ok (.iload_n 1, 1) := by decide +kernel
theorem dX1_give_23 : decode cX1_give 23 = .ok (.aload_n 3, 1) := by decide +kernel
theorem dX1_give_24 : decode cX1_give 24 = .ok (.getfield 99, 3) := by decide +kernel
theorem dX1_give_27 : decode cX1_give 27 = .ok (.iload_n 1, 1) := by decide +kernel
theorem dX1_give_28 : decode cX1_give 28 = .ok (.invokestatic 106, 3) := by decide +kernel
theorem dX1_give_31 : decode cX1_give 31 = .ok (.iload_n 2, 1) := by decide +kernel
theorem dX1_give_32 : decode cX1_give 32 = .ok (.iadd, 1) := by decide +kernel
theorem dX1_give_33 : decode cX1_give 33 = .ok (.invokestatic 37, 3) := by decide +kernel
theorem dX1_give_36 : decode cX1_give 36 = .ok (.return_, 1) := by decide +kernel
set_option maxRecDepth 100000 in
theorem ggX1_addUp_X11_get : GoodIn wsX1_addUp wsX11_get := goodIn_s _ [] [15] (by decide +kernel) rfl (by decide +kernel)
set_option maxRecDepth 20000 in
theorem gX1_addUp_X11_get_n106 : GoodIn wsX1_addUp (wsX11_get) := ggX1_addUp_X11_get
theorem dX1_addUp_0 : decode cX1_addUp 0 = .ok (.iconst 0, 1) := by decide +kernel
theorem dX1_addUp_1 : decode cX1_addUp 1 = .ok (.istore_n 3, 1) := by decide +kernel
theorem dX1_addUp_2 : decode cX1_addUp 2 = .ok (.iload_n 3, 1) := by decide +kernel
theorem dX1_addUp_3 : decode cX1_addUp 3 = .ok (.aload_n 0, 1) := by decide +kernel
theorem dX1_addUp_4 : decode cX1_addUp 4 = .ok (.getfield 145, 3) := by decide +kernel
theorem dX1_addUp_7 : decode cX1_addUp 7 = .ok (.if_icmp .ge 80, 3) := by decide +kernel
theorem dX1_addUp_10 : decode cX1_addUp 10 = .ok (.aload_n 0, 1) := by decide +kernel
theorem dX1_addUp_11 : decode cX1_addUp 11 = .ok (.getfield 24, 3) := by decide +kernel
theorem dX1_addUp_14 : decode cX1_addUp 14 = .ok (.iload_n 3, 1) := by decide +kernel
theorem dX1_addUp_15 : decode cX1_addUp 15 = .ok (.invokestatic 106, 3) := by decide +kernel
theorem dX1_addUp_18 : decode cX1_addUp 18 = .ok (.istore 4, 2) := by decide +kernel
theorem dX1_addUp_20 : decode cX1_addUp 20 = .ok (.aload_n 0, 1) := by decide +kernel
theorem dX1_addUp_21 : decode cX1_addUp 21 = .ok (.getfield 9, 3) := by decide +kernel
theorem dX1_addUp_24 : decode cX1_addUp 24 = .ok (.iload 4, 2) := by decide +kernel
theorem dX1_addUp_26 : decode cX1_addUp 26 = .ok (.invokestatic 106, 3) := by decide +kernel
theorem dX1_addUp_29 : decode cX1_addUp 29 = .ok (.i2l, 1) := by decide +kernel
theorem dX1_addUp_30 : decode cX1_addUp 30 = .ok (.lstore 5, 2) := by decide +kernel
theorem dX1_addUp_32 : decode cX1_addUp 32 = .ok (.aload_n 0, 1) := by decide +kernel
theorem dX1_addUp_33 : decode cX1_addUp 33 = .ok (.dup, 1) := by decide +kernel
theorem dX1_addUp_34 : decode cX1_addUp 34 = .ok (.getfield 152, 3) := by decide +kernel
theorem dX1_addUp_37 : decode cX1_addUp 37 = .ok (.lload 5, 2) := by decide +kernel
theorem dX1_addUp_39 : decode cX1_addUp 39 = .ok (.aload_n 0, 1) := by decide +kernel
theorem dX1_addUp_40 : decode cX1_addUp 40 = .ok (.getfield 86, 3) := by decide +kernel
theorem dX1_addUp_43 : decode cX1_addUp 43 = .ok (.aload_n 0, 1) := by decide +kernel
theorem dX1_addUp_44 : decode cX1_addUp 44 = .ok (.getfield 18, 3) := by decide +kernel
theorem dX1_addUp_47 : decode cX1_addUp 47 = .ok (.iload 4, 2) := by decide +kernel
theorem dX1_addUp_49 : decode cX1_addUp 49 = .ok (.invokestatic 106, 3) := by decide +kernel
theorem dX1_addUp_52 : decode cX1_addUp 52 = .ok (.isub, 1) := by decide +kernel
theorem dX1_addUp_53 : decode cX1_addUp 53 = .ok (.i2l, 1) := by decide +kernel
theorem dX1_addUp_54 : decode cX1_addUp 54 = .ok (.lmul, 1) := by decide +kernel
theorem dX1_addUp_55 : decode cX1_addUp 55 = .ok (.ladd, 1) := by decide +kernel
theorem dX1_addUp_56 : decode cX1_addUp 56 = .ok (.putfield 152, 3) := by decide +kernel
theorem dX1_addUp_59 : decode cX1_addUp 59 = .ok (.aload_n 0, 1) := by decide +kernel
theorem dX1_addUp_60 : decode cX1_addUp 60 = .ok (.dup, 1) := by decide +kernel
theorem dX1_addUp_61 : decode cX1_addUp 61 = .ok (.getfield 156, 3) := by decide +kernel
theorem dX1_addUp_64 : decode cX1_addUp 64 = .ok (.lload 5, 2) := by decide +kernel
theorem dX1_addUp_66 : decode cX1_addUp 66 = .ok (.aload_n 0, 1) := by decide +kernel
theorem dX1_addUp_67 : decode cX1_addUp 67 = .ok (.getfield 18, 3) := by decide +kernel
theorem dX1_addUp_70 : decode cX1_addUp 70 = .ok (.iload 4, 2) := by decide +kernel
theorem dX1_addUp_72 : decode cX1_addUp 72 = .ok (.invokestatic 106, 3) := by decide +kernel
theorem dX1_addUp_75 : decode cX1_addUp 75 = .ok (.i2l, 1) := by decide +kernel
theorem dX1_addUp_76 : decode cX1_addUp 76 = .ok (.lmul, 1) := by decide +kernel
theorem dX1_addUp_77 : decode cX1_addUp 77 = .ok (.ladd, 1) := by decide +kernel
theorem dX1_addUp_78 : decode cX1_addUp 78 = .ok (.putfield 156, 3) := by decide +kernel
theorem dX1_addUp_81 : decode cX1_addUp 81 = .ok (.iinc 3 1, 3) := by decide +kernel
theorem dX1_addUp_84 : decode cX1_addUp 84 = .ok (.goto (-82), 3) := by decide +kernel
theorem dX1_addUp_87 : decode cX1_addUp 87 = .ok (.aload_n 0, 1) := by decide +kernel
theorem dX1_addUp_88 : decode cX1_addUp 88 = .ok (.dup, 1) := by decide +kernel
theorem dX1_addUp_89 : decode cX1_addUp 89 = .ok (.getfield 152, 3) := by decide +kernel
theorem dX1_addUp_92 : decode cX1_addUp 92 = .ok (.aload_n 0, 1) := by decide +kernel
theorem dX1_addUp_93 : decode cX1_addUp 93 = .ok (.getfield 80, 3) := by decide +kernel
theorem dX1_addUp_96 : decode cX1_addUp 96 = .ok (.i2l, 1) := by decide +kernel
theorem dX1_addUp_97 : decode cX1_addUp 97 = .ok (.aload_n 0, 1) := by decide +kernel
theorem dX1_addUp_98 : decode cX1_addUp 98 = .ok (.getfield 86, 3) := by decide +kernel
theorem dX1_addUp_101 : decode cX1_addUp 101 = .ok (.iload_n 2, 1) := by decide +kernel
theorem dX1_addUp_102 : decode cX1_addUp 102 = .ok (.isub, 1) := by decide +kernel
theorem dX1_addUp_103 : decode cX1_addUp 103 = .ok (.i2l, 1) := by decide +kernel
theorem dX1_addUp_104 : decode cX1_addUp 104 = .ok (.lmul, 1) := by decide +kernel
theorem dX1_addUp_105 : decode cX1_addUp 105 = .ok (.ladd, 1) := by decide +kernel
theorem dX1_addUp_106 : decode cX1_addUp 106 = .ok (.putfield 152, 3) := by decide +kernel
theorem dX1_addUp_109 : decode cX1_addUp 109 = .ok (.aload_n 0, 1) := by decide +kernel
theorem dX1_addUp_110 : decode cX1_addUp 110 = .ok (.dup, 1) := by decide +kernel
theorem dX1_addUp_111 : decode cX1_addUp 111 = .ok (.getfield 152, 3) := by decide +kernel
theorem dX1_addUp_114 : decode cX1_addUp 114 = .ok (.aload_n 0, 1) := by decide +kernel
theorem dX1_addUp_115 : decode cX1_addUp 115 = .ok (.getfield 83, 3) := by decide +kernel
theorem dX1_addUp_118 : decode cX1_addUp 118 = .ok (.i2l, 1) := by decide +kernel
theorem dX1_addUp_119 : decode cX1_addUp 119 = .ok (.aload_n 1, 1) := by decide +kernel
theorem dX1_addUp_120 : decode cX1_addUp 120 = .ok (.getfield 65, 3) := by decide +kernel
theorem dX1_addUp_123 : decode cX1_addUp 123 = .ok (.i2l, 1) := by decide +kernel
theorem dX1_addUp_124 : decode cX1_addUp 124 = .ok (.lmul, 1) := by decide +kernel
theorem dX1_addUp_125 : decode cX1_addUp 125 = .ok (.ladd, 1) := by decide +kernel
theorem dX1_addUp_126 : decode cX1_addUp 126 = .ok (.putfield 152, 3) := by decide +kernel
theorem dX1_addUp_129 : decode cX1_addUp 129 = .ok (.aload_n 0, 1) := by decide +kernel
theorem dX1_addUp_130 : decode cX1_addUp 130 = .ok (.dup, 1) := by decide +kernel
theorem dX1_addUp_131 : decode cX1_addUp 131 = .ok (.getfield 159, 3) := by decide +kernel
theorem dX1_addUp_134 : decode cX1_addUp 134 = .ok (.aload_n 1, 1) := by decide +kernel
theorem dX1_addUp_135 : decode cX1_addUp 135 = .ok (.getfield 45, 3) := by decide +kernel
theorem dX1_addUp_138 : decode cX1_addUp 138 = .ok (.i2l, 1) := by decide +kernel
theorem dX1_addUp_139 : decode cX1_addUp 139 = .ok (.aload_n 0, 1) := by decide +kernel
theorem dX1_addUp_140 : decode cX1_addUp 140 = .ok (.getfield 86, 3) := by decide +kernel
theorem dX1_addUp_143 : decode cX1_addUp 143 = .ok (.i2l, 1) := by decide +kernel
theorem dX1_addUp_144 : decode cX1_addUp 144 = .ok (.lmul, 1) := by decide +kernel
theorem dX1_addUp_145 : decode cX1_addUp 145 = .ok (.ladd, 1) := by decide +kernel
theorem dX1_addUp_146 : decode cX1_addUp 146 = .ok (.putfield 159, 3) := by decide +kernel
theorem dX1_addUp_149 : decode cX1_addUp 149 = .ok (.return_, 1) := by decide +kernel
set_option maxRecDepth 100000 in
theorem ggX1_takeFromStore_X11_get : GoodIn wsX1_takeFromStore wsX11_get := goodIn_s _ [] [15] (by decide +kernel) rfl (by decide +kernel)
set_option maxRecDepth 20000 in
theorem gX1_takeFromStore_X11_get_n106 : GoodIn wsX1_takeFromStore (wsX11_get) := ggX1_takeFromStore_X11_get
set_option maxRecDepth 100000 in
theorem ggX1_takeFromStore_X8_pressure : GoodIn wsX1_takeFromStore wsX8_pressure := goodIn_s _ [21, 22, 23, 50, 51, 52, 53] [20] (by decide +kernel) rfl (by decide +kernel)
set_option maxRecDepth 20000 in
theorem gX1_takeFromStore_X8_pressure : GoodIn wsX1_takeFromStore (wsV RX1 59 RX8 yX8_pressure wsX8_pressure) := goodIn_app (goodIn_of _ (by decide +kernel)) ggX1_takeFromStore_X8_pressure
set_option maxRecDepth 100000 in
theorem ggX1_takeFromStore_X1_give : GoodIn wsX1_takeFromStore wsX1_give := goodIn_s _ [6, 29, 13, 14, 30, 32, 33, 34, 35, 36, 37, 38, 39, 40, 41, 42, 43, 44, 45, 46, 47, 48, 49] [28, 15, 31] (by decide +kernel) rfl (by decide +kernel)
set_option maxRecDepth 20000 in
theorem gX1_takeFromStore_X1_give : GoodIn wsX1_takeFromStore (wsV RX1 148 RX1 yX1_give wsX1_give) := goodIn_app (goodIn_of _ (by decide +kernel)) ggX1_takeFromStore_X1_give
theorem dX1_takeFromStore_0 : decode cX1_takeFromStore 0 = .ok (.iconst 0, 1) := by decide +kernel
theorem dX1_takeFromStore_1 : decode cX1_takeFromStore 1 = .ok (.istore_n 2, 1) := by decide +kernel
theorem dX1_takeFromStore_2 : decode cX1_takeFromStore 2 = .ok (.iload_n 2, 1) := by decide +kernel
theorem dX1_takeFromStore_3 : decode cX1_takeFromStore 3 = .ok (.aload_n 0, 1) := by decide +kernel
theorem dX1_takeFromStore_4 : decode cX1_takeFromStore 4 = .ok (.getfield 129, 3) := by decide +kernel
theorem dX1_takeFromStore_7 : decode cX1_takeFromStore 7 = .ok (.if_icmp .ge 98, 3) := by decide +kernel
theorem dX1_takeFromStore_10 : decode cX1_takeFromStore 10 = .ok (.aload_n 0, 1) := by decide +kernel
theorem dX1_takeFromStore_11 : decode cX1_takeFromStore 11 = .ok (.getfield 15, 3) := by decide +kernel
theorem dX1_takeFromStore_14 : decode cX1_takeFromStore 14 = .ok (.iload_n 2, 1) := by decide +kernel
theorem dX1_takeFromStore_15 : decode cX1_takeFromStore 15 = .ok (.invokestatic 106, 3) := by decide +kernel
theorem dX1_takeFromStore_18 : decode cX1_takeFromStore 18 = .ok (.istore_n 3, 1) := by decide +kernel
theorem dX1_takeFromStore_19 : decode cX1_takeFromStore 19 = .ok (.aload_n 1, 1) := by decide +kernel
theorem dX1_takeFromStore_20 : decode cX1_takeFromStore 20 = .ok (.getfield 53, 3) := by decide +kernel
theorem dX1_takeFromStore_23 : decode cX1_takeFromStore 23 = .ok (.invokevirtual 59, 3) := by decide +kernel
theorem dX1_takeFromStore_26 : decode cX1_takeFromStore 26 = .ok (.aload_n 0, 1) := by decide +kernel
theorem dX1_takeFromStore_27 : decode cX1_takeFromStore 27 = .ok (.getfield 18, 3) := by decide +kernel
theorem dX1_takeFromStore_30 : decode cX1_takeFromStore 30 = .ok (.iload_n 3, 1) := by decide +kernel
theorem dX1_takeFromStore_31 : decode cX1_takeFromStore 31 = .ok (.invokestatic 106, 3) := by decide +kernel
theorem dX1_takeFromStore_34 : decode cX1_takeFromStore 34 = .ok (.if_icmp .lt 65, 3) := by decide +kernel
theorem dX1_takeFromStore_37 : decode cX1_takeFromStore 37 = .ok (.aload_n 0, 1) := by decide +kernel
theorem dX1_takeFromStore_38 : decode cX1_takeFromStore 38 = .ok (.getfield 21, 3) := by decide +kernel
theorem dX1_takeFromStore_41 : decode cX1_takeFromStore 41 = .ok (.iload_n 3, 1) := by decide +kernel
theorem dX1_takeFromStore_42 : decode cX1_takeFromStore 42 = .ok (.invokestatic 106, 3) := by decide +kernel
theorem dX1_takeFromStore_45 : decode cX1_takeFromStore 45 = .ok (.aload_n 0, 1) := by decide +kernel
theorem dX1_takeFromStore_46 : decode cX1_takeFromStore 46 = .ok (.getfield 9, 3) := by decide +kernel
theorem dX1_takeFromStore_49 : decode cX1_takeFromStore 49 = .ok (.iload_n 3, 1) := by decide +kernel
theorem dX1_takeFromStore_50 : decode cX1_takeFromStore 50 = .ok (.invokestatic 106, 3) := by decide +kernel
theorem dX1_takeFromStore_53 : decode cX1_takeFromStore 53 = .ok (.isub, 1) := by decide +kernel
theorem dX1_takeFromStore_54 : decode cX1_takeFromStore 54 = .ok (.aload_n 1, 1) := by decide +kernel
theorem dX1_takeFromStore_55 : decode cX1_takeFromStore 55 = .ok (.getfield 53, 3) := by decide +kernel
theorem dX1_takeFromStore_58 : decode cX1_takeFromStore 58 = .ok (.getfield 71, 3) := by decide +kernel
theorem dX1_takeFromStore_61 : decode cX1_takeFromStore 61 = .ok (.invokestatic 74, 3) := by decide +kernel
theorem dX1_takeFromStore_64 : decode cX1_takeFromStore 64 = .ok (.istore 4, 2) := by decide +kernel
theorem dX1_takeFromStore_66 : decode cX1_takeFromStore 66 = .ok (.aload_n 0, 1) := by decide +kernel
theorem dX1_takeFromStore_67 : decode cX1_takeFromStore 67 = .ok (.iload_n 3, 1) := by decide +kernel
theorem dX1_takeFromStore_68 : decode cX1_takeFromStore 68 = .ok (.iload 4, 2) := by decide +kernel
theorem dX1_takeFromStore_70 : decode cX1_takeFromStore 70 = .ok (.aload_n 1, 1) := by decide +kernel
theorem dX1_takeFromStore_71 : decode cX1_takeFromStore 71 = .ok (.invokevirtual 148, 3) := by decide +kernel
theorem dX1_takeFromStore_74 : decode cX1_takeFromStore 74 = .ok (.aload_n 1, 1) := by decide +kernel
theorem dX1_takeFromStore_75 : decode cX1_takeFromStore 75 = .ok (.getfield 53, 3) := by decide +kernel
theorem dX1_takeFromStore_78 : decode cX1_takeFromStore 78 = .ok (.dup, 1) := by decide +kernel
theorem dX1_takeFromStore_79 : decode cX1_takeFromStore 79 = .ok (.getfield 71, 3) := by decide +kernel
theorem dX1_takeFromStore_82 : decode cX1_takeFromStore 82 = .ok (.iload 4, 2) := by decide +kernel
theorem dX1_takeFromStore_84 : decode cX1_takeFromStore 84 = .ok (.isub, 1) := by decide +kernel
theorem dX1_takeFromStore_85 : decode cX1_takeFromStore 85 = .ok (.putfield 71, 3) := by decide +kernel
theorem dX1_takeFromStore_88 : decode cX1_takeFromStore 88 = .ok (.aload_n 0, 1) := by decide +kernel
theorem dX1_takeFromStore_89 : decode cX1_takeFromStore 89 = .ok (.dup, 1) := by decide +kernel
theorem dX1_takeFromStore_90 : decode cX1_takeFromStore 90 = .ok (.getfield 80, 3) := by decide +kernel
theorem dX1_takeFromStore_93 : decode cX1_takeFromStore 93 = .ok (.iload 4, 2) := by decide +kernel
theorem dX1_takeFromStore_95 : decode cX1_takeFromStore 95 = .ok (.isub, 1) := by decide +kernel
theorem dX1_takeFromStore_96 : decode cX1_takeFromStore 96 = .ok (.putfield 80, 3) := by decide +kernel
theorem dX1_takeFromStore_99 : decode cX1_takeFromStore 99 = .ok (.iinc 2 1, 3) := by decide +kernel
theorem dX1_takeFromStore_102 : decode cX1_takeFromStore 102 = .ok (.goto (-100), 3) := by decide +kernel
theorem dX1_takeFromStore_105 : decode cX1_takeFromStore 105 = .ok (.return_, 1) := by decide +kernel
set_option maxRecDepth 100000 in
theorem ggX2_init_X0_init : GoodIn wsX2_init wsX0_init := goodIn_s _ [5, 6, 8, 9, 10, 11, 12, 13, 14, 15, 16, 17, 18, 19, 20, 21, 22, 23, 24, 25, 26, 27, 28, 29, 30, 31, 32, 33, 34, 35] [4, 7] (by decide +kernel) rfl (by decide +kernel)
set_option maxRecDepth 20000 in
theorem gX2_init_X0_init : GoodIn wsX2_init (wsX0_init) := ggX2_init_X0_init
theorem dX2_init_0 : decode cX2_init 0 = .ok (.aload_n 0, 1) := by decide +kernel
theorem dX2_init_1 : decode cX2_init 1 = .ok (.iload_n 1, 1) := by decide +kernel
theorem dX2_init_2 : decode cX2_init 2 = .ok (.iload_n 2, 1) := by decide +kernel
theorem dX2_init_3 : decode cX2_init 3 = .ok (.iload_n 3, 1) := by decide +kernel
theorem dX2_init_4 : decode cX2_init 4 = .ok (.invokespecial 1, 3) := by decide +kernel
theorem dX2_init_7 : decode cX2_init 7 = .ok (.return_, 1) := by decide +kernel
theorem dX2_kind_0 : decode cX2_kind 0 = .ok (.iconst 1, 1) := by decide +kernel
theorem dX2_kind_1 : decode cX2_kind 1 = .ok (.ireturn, 1) := by decide +kernel
set_option maxRecDepth 100000 in
theorem ggX2_toldBy_X9_leave : GoodIn wsX2_toldBy wsX9_leave := goodIn_s _ [7, 16] [6] (by decide +kernel) rfl (by decide +kernel)
set_option maxRecDepth 20000 in
theorem gX2_toldBy_X9_leave : GoodIn wsX2_toldBy (wsV RX2 7 RX9 yX9_leave wsX9_leave) := goodIn_app (goodIn_of _ (by decide +kernel)) ggX2_toldBy_X9_leave
set_option maxRecDepth 100000 in
theorem ggX2_toldBy_X0_plainlyTold : GoodIn wsX2_toldBy wsX0_plainlyTold := goodIn_s _ [14, 3, 4, 5, 7, 16] [13, 6] (by decide +kernel) rfl (by decide +kernel)
set_option maxRecDepth 20000 in
theorem gX2_toldBy_X0_plainlyTold_u13X2 : GoodIn wsX2_toldBy (va_wsU RX2 13 RX2 "OilPush$Cylinder" ⟨"OilPush$Held", "plainlyTold", "(LOilPush$Trace;I)I"⟩ yX0_plainlyTold wsX0_plainlyTold) := goodIn_app (goodIn_of _ (by decide +kernel)) ggX2_toldBy_X0_plainlyTold
set_option maxRecDepth 20000 in
theorem gX2_toldBy_X0_plainlyTold_u13X10 : GoodIn wsX2_toldBy (va_wsU RX2 13 RX10 "OilPush$Cylinder" ⟨"OilPush$Held", "plainlyTold", "(LOilPush$Trace;I)I"⟩ yX0_plainlyTold wsX0_plainlyTold) := goodIn_app (goodIn_of _ (by decide +kernel)) ggX2_toldBy_X0_plainlyTold
theorem dX2_toldBy_0 : decode cX2_toldBy 0 = .ok (.aload_n 1, 1) := by decide +kernel
theorem dX2_toldBy_1 : decode cX2_toldBy 1 = .ok (.iconst 2, 1) := by decide +kernel
theorem dX2_toldBy_2 : decode cX2_toldBy 2 = .ok (.invokevirtual 7, 3) := by decide +kernel
theorem dX2_toldBy_5 : decode cX2_toldBy 5 = .ok (.aload_n 0, 1) := by decide +kernel
theorem dX2_toldBy_6 : decode cX2_toldBy 6 = .ok (.aload_n 1, 1) := by decide +kernel
theorem dX2_toldBy_7 : decode cX2_toldBy 7 = .ok (.iload_n 2, 1) := by decide +kernel
theorem dX2_toldBy_8 : decode cX2_toldBy 8 = .ok (.invokevirtual 13, 3) := by decide +kernel
theorem dX2_toldBy_11 : decode cX2_toldBy 11 = .ok (.ldc 19, 2) := by decide +kernel
theorem dX2_toldBy_13 : decode cX2_toldBy 13 = .ok (.iadd, 1) := by decide +kernel
theorem dX2_toldBy_14 : decode cX2_toldBy 14 = .ok (.ireturn, 1) := by decide +kernel
theorem dX3_init_0 : decode cX3_init 0 = .ok (.aload_n 0, 1) := by decide +kernel
theorem dX3_init_1 : decode cX3_init 1 = .ok (.invokespecial 3, 3) := by decide +kernel
theorem dX3_init_4 : decode cX3_init 4 = .ok (.aload_n 0, 1) := by decide +kernel
theorem dX3_init_5 : decode cX3_init 5 = .ok (.bipush 30, 2) := by decide +kernel
theorem dX3_init_7 : decode cX3_init 7 = .ok (.newarray .int, 2) := by decide +kernel
theorem dX3_init_9 : decode cX3_init 9 = .ok (.putfield 9, 3) := by decide +kernel
theorem dX3_init_12 : decode cX3_init 12 = .ok (.aload_n 0, 1) := by decide +kernel
theorem dX3_init_13 : decode cX3_init 13 = .ok (.bipush 30, 2) := by decide +kernel
theorem dX3_init_15 : decode cX3_init 15 = .ok (.newarray .int, 2) := by decide +kernel
theorem dX3_init_17 : decode cX3_init 17 = .ok (.putfield 15, 3) := by decide +kernel
theorem dX3_init_20 : decode cX3_init 20 = .ok (.aload_n 0, 1) := by decide +kernel
theorem dX3_init_21 : decode cX3_init 21 = .ok (.bipush 30, 2) := by decide +kernel
theorem dX3_init_23 : decode cX3_init 23 = .ok (.newarray .int, 2) := by decide +kernel
theorem dX3_init_25 : decode cX3_init 25 = .ok (.putfield 18, 3) := by decide +kernel
theorem dX3_init_28 : decode cX3_init 28 = .ok (.aload_n 0, 1) := by decide +kernel
theorem dX3_init_29 : decode cX3_init 29 = .ok (.bipush 30, 2) := by decide +kernel
theorem dX3_init_31 : decode cX3_init 31 = .ok (.newarray .int, 2) := by decide +kernel
theorem dX3_init_33 : decode cX3_init 33 = .ok (.putfield 21, 3) := by decide +kernel
theorem dX3_init_36 : decode cX3_init 36 = .ok (.return_, 1) := by decide +kernel
set_option maxRecDepth 100000 in
theorem ggX3_add_X11_set : GoodIn wsX3_add wsX11_set := goodIn_s _ [] [8] (by decide +kernel) rfl (by decide +kernel)
set_option maxRecDepth 20000 in
theorem gX3_add_X11_set_n28 : GoodIn wsX3_add (wsX11_set) := ggX3_add_X11_set
theorem dX3_add_0 : decode cX3_add 0 = .ok (.aload_n 0, 1) := by decide +kernel
theorem dX3_add_1 : decode cX3_add 1 = .ok (.getfield 24, 3) := by decide +kernel
theorem dX3_add_4 : decode cX3_add 4 = .ok (.bipush 30, 2) := by decide +kernel
theorem dX3_add_6 : decode cX3_add 6 = .ok (.if_icmp .lt 5, 3) := by decide +kernel
theorem dX3_add_9 : decode cX3_add 9 = .ok (.iconst 0, 1) := by decide +kernel
theorem dX3_add_10 : decode cX3_add 10 = .ok (.ireturn, 1) := by decide +kernel
theorem dX3_add_11 : decode cX3_add 11 = .ok (.aload_n 0, 1) := by decide +kernel
theorem dX3_add_12 : decode cX3_add 12 = .ok (.getfield 9, 3) := by decide +kernel
theorem dX3_add_15 : decode cX3_add 15 = .ok (.aload_n 0, 1) := by decide +kernel
theorem dX3_add_16 : decode cX3_add 16 = .ok (.getfield 24, 3) := by decide +kernel
theorem dX3_add_19 : decode cX3_add 19 = .ok (.iload_n 1, 1) := by decide +kernel
theorem dX3_add_20 : decode cX3_add 20 = .ok (.invokestatic 28, 3) := by decide +kernel
theorem dX3_add_23 : decode cX3_add 23 = .ok (.aload_n 0, 1) := by decide +kernel
theorem dX3_add_24 : decode cX3_add 24 = .ok (.getfield 15, 3) := by decide +kernel
theorem dX3_add_27 : decode cX3_add 27 = .ok (.aload_n 0, 1) := by decide +kernel
theorem dX3_add_28 : decode cX3_add 28 = .ok (.getfield 24, 3) := by decide +kernel
theorem dX3_add_31 : decode cX3_add 31 = .ok (.iload_n 2, 1) := by decide +kernel
theorem dX3_add_32 : decode cX3_add 32 = .ok (.invokestatic 28, 3) := by decide +kernel
theorem dX3_add_35 : decode cX3_add 35 = .ok (.aload_n 0, 1) := by decide +kernel
theorem dX3_add_36 : decode cX3_add 36 = .ok (.getfield 18, 3) := by decide +kernel
theorem dX3_add_39 : decode cX3_add 39 = .ok (.aload_n 0, 1) := by decide +kernel
theorem dX3_add_40 : decode cX3_add 40 = .ok (.getfield 24, 3) := by decide +kernel
theorem dX3_add_43 : decode cX3_add 43 = .ok (.iload_n 3, 1) := by decide +kernel
theorem dX3_add_44 : decode cX3_add 44 = .ok (.invokestatic 28, 3) := by decide +kernel
theorem dX3_add_47 : decode cX3_add 47 = .ok (.aload_n 0, 1) := by decide +kernel
theorem dX3_add_48 : decode cX3_add 48 = .ok (.getfield 21, 3) := by decide +kernel
theorem dX3_add_51 : decode cX3_add 51 = .ok (.aload_n 0, 1) := by decide +kernel
theorem dX3_add_52 : decode cX3_add 52 = .ok (.getfield 24, 3) := by decide +kernel
theorem dX3_add_55 : decode cX3_add 55 = .ok (.iload 4, 2) := by decide +kernel
theorem dX3_add_57 : decode cX3_add 57 = .ok (.invokestatic 28, 3) := by decide +kernel
theorem dX3_add_60 : decode cX3_add 60 = .ok (.aload_n 0, 1) := by decide +kernel
theorem dX3_add_61 : decode cX3_add 61 = .ok (.dup, 1) := by decide +kernel
theorem dX3_add_62 : decode cX3_add 62 = .ok (.getfield 24, 3) := by decide +kernel
theorem dX3_add_65 : decode cX3_add 65 = .ok (.iconst 1, 1) := by decide +kernel
theorem dX3_add_66 : decode cX3_add 66 = .ok (.iadd, 1) := by decide +kernel
theorem dX3_add_67 : decode cX3_add 67 = .ok (.putfield 24, 3) := by decide +kernel
theorem dX3_add_70 : decode cX3_add 70 = .ok (.iconst 1, 1) := by decide +kernel
theorem dX3_add_71 : decode cX3_add 71 = .ok (.ireturn, 1) := by decide +kernel
set_option maxRecDepth 100000 in
theorem ggX3_obey_X11_get : GoodIn wsX3_obey wsX11_get := goodIn_s _ [] [12] (by decide +kernel) rfl (by decide +kernel)
set_option maxRecDepth 20000 in
theorem gX3_obey_X11_get_n37 : GoodIn wsX3_obey (wsX11_get) := ggX3_obey_X11_get
set_option maxRecDepth 100000 in
theorem ggX3_obey_X4_at : GoodIn wsX3_obey wsX4_at := goodIn_s _ [18, 19, 72, 73, 74, 75, 76] [17] (by decide +kernel) rfl (by decide +kernel)
set_option maxRecDepth 20000 in
theorem gX3_obey_X4_at : GoodIn wsX3_obey (wsV RX3 41 RX4 yX4_at wsX4_at) := goodIn_app (goodIn_of _ (by decide +kernel)) ggX3_obey_X4_at
set_option maxRecDepth 100000 in
theorem ggX3_obey_X0_isAt : GoodIn wsX3_obey wsX0_isAt := goodIn_s _ [25, 26, 27, 23, 29, 30, 31, 32, 33, 34, 51, 52, 53, 54, 55, 56, 57, 58, 59, 60, 61, 62, 63, 64, 65, 66, 67, 68, 69, 70, 71] [24, 28] (by decide +kernel) rfl (by decide +kernel)
set_option maxRecDepth 20000 in
theorem gX3_obey_X0_isAt : GoodIn wsX3_obey (wsV RX3 55 RX0 yX0_isAt wsX0_isAt) := goodIn_app (goodIn_of _ (by decide +kernel)) ggX3_obey_X0_isAt
set_option maxRecDepth 20000 in
theorem gX3_obey_X0_isAt_u55X2 : GoodIn wsX3_obey (va_wsU RX3 55 RX2 "OilPush$Cylinder" ⟨"OilPush$Cylinder", "isAt", "(II)Z"⟩ yX0_isAt wsX0_isAt) := goodIn_app (goodIn_of _ (by decide +kernel)) ggX3_obey_X0_isAt
set_option maxRecDepth 20000 in
theorem gX3_obey_X0_isAt_u55X10 : GoodIn wsX3_obey (va_wsU RX3 55 RX10 "OilPush$Cylinder" ⟨"OilPush$Cylinder", "isAt", "(II)Z"⟩ yX0_isAt wsX0_isAt) := goodIn_app (goodIn_of _ (by decide +kernel)) ggX3_obey_X0_isAt
set_option maxRecDepth 100000 in
theorem ggX3_obey_X11_set : GoodIn wsX3_obey wsX11_set := goodIn_s _ [] [40] (by decide +kernel) rfl (by decide +kernel)
set_option maxRecDepth 20000 in
theorem gX3_obey_X11_set_n28 : GoodIn wsX3_obey (wsX11_set) := ggX3_obey_X11_set
theorem dX3_obey_0 : decode cX3_obey 0 = .ok (.aload_n 2, 1) := by decide +kernel
theorem dX3_obey_1 : decode cX3_obey 1 = .ok (.getfield 32, 3) := by decide +kernel
theorem dX3_obey_4 : decode cX3_obey 4 = .ok (.istore_n 3, 1) := by decide +kernel
theorem dX3_obey_5 : decode cX3_obey 5 = .ok (.iload_n 3, 1) := by decide +kernel
theorem dX3_obey_6 : decode cX3_obey 6 = .ok (.aload_n 0, 1) := by decide +kernel
theorem dX3_obey_7 : decode cX3_obey 7 = .ok (.getfield 24, 3) := by decide +kernel
theorem dX3_obey_10 : decode cX3_obey 10 = .ok (.if_icmp .ge 87, 3) := by decide +kernel
theorem dX3_obey_13 : decode cX3_obey 13 = .ok (.aload_n 1, 1) := by decide +kernel
theorem dX3_obey_14 : decode cX3_obey 14 = .ok (.aload_n 0, 1) := by decide +kernel
theorem dX3_obey_15 : decode cX3_obey 15 = .ok (.getfield 9, 3) := by decide +kernel
theorem dX3_obey_18 : decode cX3_obey 18 = .ok (.iload_n 3, 1) := by decide +kernel
theorem dX3_obey_19 : decode cX3_obey 19 = .ok (.invokestatic 37, 3) := by decide +kernel
theorem dX3_obey_22 : decode cX3_obey 22 = .ok (.invokevirtual 41, 3) := by decide +kernel
theorem dX3_obey_25 : decode cX3_obey 25 = .ok (.astore 4, 2) := by decide +kernel
theorem dX3_obey_27 : decode cX3_obey 27 = .ok (.aload 4, 2) := by decide +kernel
theorem dX3_obey_29 : decode cX3_obey 29 = .ok (.ifnull 31, 3) := by decide +kernel
theorem dX3_obey_32 : decode cX3_obey 32 = .ok (.aload 4, 2) := by decide +kernel
theorem dX3_obey_34 : decode cX3_obey 34 = .ok (.aload_n 0, 1) := by decide +kernel
theorem dX3_obey_35 : decode cX3_obey 35 = .ok (.getfield 15, 3) := by decide +kernel
theorem dX3_obey_38 : decode cX3_obey 38 = .ok (.iload_n 3, 1) := by decide +kernel
theorem dX3_obey_39 : decode cX3_obey 39 = .ok (.invokestatic 37, 3) := by decide +kernel
theorem dX3_obey_42 : decode cX3_obey 42 = .ok (.aload_n 2, 1) := by decide +kernel
theorem dX3_obey_43 : decode cX3_obey 43 = .ok (.getfield 47, 3) := by decide +kernel
theorem dX3_obey_46 : decode cX3_obey 46 = .ok (.aload 4, 2) := by decide +kernel
theorem dX3_obey_48 : decode cX3_obey 48 = .ok (.getfield 50, 3) := by decide +kernel
theorem dX3_obey_51 : decode cX3_obey 51 = .ok (.invokestatic 37, 3) := by decide +kernel
theorem dX3_obey_54 : decode cX3_obey 54 = .ok (.invokevirtual 55, 3) := by decide +kernel
theorem dX3_obey_57 : decode cX3_obey 57 = .ok (.ifCond .ne 4, 3) := by decide +kernel
theorem dX3_obey_60 : decode cX3_obey 60 = .ok (.return_, 1) := by decide +kernel
theorem dX3_obey_61 : decode cX3_obey 61 = .ok (.aload_n 2, 1) := by decide +kernel
theorem dX3_obey_62 : decode cX3_obey 62 = .ok (.getfield 59, 3) := by decide +kernel
theorem dX3_obey_65 : decode cX3_obey 65 = .ok (.aload_n 0, 1) := by decide +kernel
theorem dX3_obey_66 : decode cX3_obey 66 = .ok (.getfield 18, 3) := by decide +kernel
theorem dX3_obey_69 : decode cX3_obey 69 = .ok (.iload_n 3, 1) := by decide +kernel
theorem dX3_obey_70 : decode cX3_obey 70 = .ok (.invokestatic 37, 3) := by decide +kernel
theorem dX3_obey_73 : decode cX3_obey 73 = .ok (.aload_n 0, 1) := by decide +kernel
theorem dX3_obey_74 : decode cX3_obey 74 = .ok (.getfield 21, 3) := by decide +kernel
theorem dX3_obey_77 : decode cX3_obey 77 = .ok (.iload_n 3, 1) := by decide +kernel
end
section
theorem dX3_obey_78 : decode cX3_obey 78 = .ok (.invokestatic 37, 3) := by decide +kernel
theorem dX3_obey_81 : decode cX3_obey 81 = .ok (.invokestatic 28, 3) := by decide +kernel
theorem dX3_obey_84 : decode cX3_obey 84 = .ok (.aload_n 2, 1) := by decide +kernel
theorem dX3_obey_85 : decode cX3_obey 85 = .ok (.iload_n 3, 1) := by decide +kernel
theorem dX3_obey_86 : decode cX3_obey 86 = .ok (.iconst 1, 1) := by decide +kernel
theorem dX3_obey_87 : decode cX3_obey 87 = .ok (.iadd, 1) := by decide +kernel
theorem dX3_obey_88 : decode cX3_obey 88 = .ok (.putfield 32, 3) := by decide +kernel
theorem dX3_obey_91 : decode cX3_obey 91 = .ok (.iinc 3 1, 3) := by decide +kernel
theorem dX3_obey_94 : decode cX3_obey 94 = .ok (.goto (-89), 3) := by decide +kernel
theorem dX3_obey_97 : decode cX3_obey 97 = .ok (.return_, 1) := by decide +kernel
theorem dX4_init_0 : decode cX4_init 0 = .ok (.aload_n 0, 1) := by decide +kernel
theorem dX4_init_1 : decode cX4_init 1 = .ok (.invokespecial 3, 3) := by decide +kernel
theorem dX4_init_4 : decode cX4_init 4 = .ok (.aload_n 0, 1) := by decide +kernel
theorem dX4_init_5 : decode cX4_init 5 = .ok (.bipush 100, 2) := by decide +kernel
theorem dX4_init_7 : decode cX4_init 7 = .ok (.putfield 9, 3) := by decide +kernel
theorem dX4_init_10 : decode cX4_init 10 = .ok (.aload_n 0, 1) := by decide +kernel
theorem dX4_init_11 : decode cX4_init 11 = .ok (.bipush 6, 2) := by decide +kernel
theorem dX4_init_13 : decode cX4_init 13 = .ok (.anewarray 15, 3) := by decide +kernel
theorem dX4_init_16 : decode cX4_init 16 = .ok (.putfield 17, 3) := by decide +kernel
theorem dX4_init_19 : decode cX4_init 19 = .ok (.aload_n 0, 1) := by decide +kernel
theorem dX4_init_20 : decode cX4_init 20 = .ok (.bipush 6, 2) := by decide +kernel
theorem dX4_init_22 : decode cX4_init 22 = .ok (.newarray .int, 2) := by decide +kernel
theorem dX4_init_24 : decode cX4_init 24 = .ok (.putfield 21, 3) := by decide +kernel
theorem dX4_init_27 : decode cX4_init 27 = .ok (.return_, 1) := by decide +kernel
theorem dX4_at_0 : decode cX4_at 0 = .ok (.iload_n 1, 1) := by decide +kernel
theorem dX4_at_1 : decode cX4_at 1 = .ok (.ifCond .lt 29, 3) := by decide +kernel
theorem dX4_at_4 : decode cX4_at 4 = .ok (.iload_n 1, 1) := by decide +kernel
theorem dX4_at_5 : decode cX4_at 5 = .ok (.aload_n 0, 1) := by decide +kernel
theorem dX4_at_6 : decode cX4_at 6 = .ok (.getfield 25, 3) := by decide +kernel
theorem dX4_at_9 : decode cX4_at 9 = .ok (.if_icmp .ge 21, 3) := by decide +kernel
theorem dX4_at_12 : decode cX4_at 12 = .ok (.iload_n 1, 1) := by decide +kernel
theorem dX4_at_13 : decode cX4_at 13 = .ok (.aload_n 0, 1) := by decide +kernel
theorem dX4_at_14 : decode cX4_at 14 = .ok (.getfield 17, 3) := by decide +kernel
theorem dX4_at_17 : decode cX4_at 17 = .ok (.arraylength, 1) := by decide +kernel
theorem dX4_at_18 : decode cX4_at 18 = .ok (.if_icmp .ge 12, 3) := by decide +kernel
theorem dX4_at_21 : decode cX4_at 21 = .ok (.aload_n 0, 1) := by decide +kernel
theorem dX4_at_22 : decode cX4_at 22 = .ok (.getfield 17, 3) := by decide +kernel
theorem dX4_at_25 : decode cX4_at 25 = .ok (.iload_n 1, 1) := by decide +kernel
theorem dX4_at_26 : decode cX4_at 26 = .ok (.aaload, 1) := by decide +kernel
theorem dX4_at_27 : decode cX4_at 27 = .ok (.goto 4, 3) := by decide +kernel
theorem dX4_at_30 : decode cX4_at 30 = .ok (.aconst_null, 1) := by decide +kernel
theorem dX4_at_31 : decode cX4_at 31 = .ok (.areturn, 1) := by decide +kernel
set_option maxRecDepth 100000 in
theorem ggX4_add_X0_init : GoodIn wsX4_add wsX0_init := goodIn_s _ [15, 16, 18, 19, 20, 21, 22, 23, 24, 38, 39, 40, 41, 42, 43, 44, 45, 46, 47, 48, 49, 50, 51, 52, 53, 54, 55, 56, 57, 58] [14, 17] (by decide +kernel) rfl (by decide +kernel)
set_option maxRecDepth 20000 in
theorem gX4_add_X0_init : GoodIn wsX4_add (wsX0_init) := ggX4_add_X0_init
set_option maxRecDepth 100000 in
theorem ggX4_add_X2_init : GoodIn wsX4_add wsX2_init := goodIn_s _ [28, 13, 5, 15, 16, 18, 19, 20, 21, 22, 23, 24, 38, 39, 40, 41, 42, 43, 44, 45, 46, 47, 48, 49, 50, 51, 52, 53, 54, 55, 56, 57, 58] [27, 14, 17] (by decide +kernel) rfl (by decide +kernel)
set_option maxRecDepth 20000 in
theorem gX4_add_X2_init : GoodIn wsX4_add (wsX2_init) := ggX4_add_X2_init
set_option maxRecDepth 100000 in
theorem ggX4_add_X10_init : GoodIn wsX4_add wsX10_init := goodIn_s _ [32, 26, 8, 28, 13, 5, 15, 16, 18, 19, 20, 21, 22, 23, 24, 38, 39, 40, 41, 42, 43, 44, 45, 46, 47, 48, 49, 50, 51, 52, 53, 54, 55, 56, 57, 58] [31, 27, 14, 17] (by decide +kernel) rfl (by decide +kernel)
set_option maxRecDepth 20000 in
theorem gX4_add_X10_init : GoodIn wsX4_add (wsX10_init) := ggX4_add_X10_init
theorem dX4_add_0 : decode cX4_add 0 = .ok (.aload_n 0, 1) := by decide +kernel
theorem dX4_add_1 : decode cX4_add 1 = .ok (.getfield 25, 3) := by decide +kernel
theorem dX4_add_4 : decode cX4_add 4 = .ok (.ifCond .lt 15, 3) := by decide +kernel
theorem dX4_add_7 : decode cX4_add 7 = .ok (.aload_n 0, 1) := by decide +kernel
theorem dX4_add_8 : decode cX4_add 8 = .ok (.getfield 25, 3) := by decide +kernel
theorem dX4_add_11 : decode cX4_add 11 = .ok (.aload_n 0, 1) := by decide +kernel
theorem dX4_add_12 : decode cX4_add 12 = .ok (.getfield 17, 3) := by decide +kernel
theorem dX4_add_15 : decode cX4_add 15 = .ok (.arraylength, 1) := by decide +kernel
theorem dX4_add_16 : decode cX4_add 16 = .ok (.if_icmp .lt 5, 3) := by decide +kernel
theorem dX4_add_19 : decode cX4_add 19 = .ok (.iconst 0, 1) := by decide +kernel
theorem dX4_add_20 : decode cX4_add 20 = .ok (.ireturn, 1) := by decide +kernel
theorem dX4_add_21 : decode cX4_add 21 = .ok (.iload_n 1, 1) := by decide +kernel
theorem dX4_add_22 : decode cX4_add 22 = .ok (.ifCond .ne 28, 3) := by decide +kernel
theorem dX4_add_25 : decode cX4_add 25 = .ok (.aload_n 0, 1) := by decide +kernel
theorem dX4_add_26 : decode cX4_add 26 = .ok (.getfield 17, 3) := by decide +kernel
theorem dX4_add_29 : decode cX4_add 29 = .ok (.aload_n 0, 1) := by decide +kernel
theorem dX4_add_30 : decode cX4_add 30 = .ok (.getfield 25, 3) := by decide +kernel
theorem dX4_add_33 : decode cX4_add 33 = .ok (.new 15, 3) := by decide +kernel
theorem dX4_add_36 : decode cX4_add 36 = .ok (.dup, 1) := by decide +kernel
theorem dX4_add_37 : decode cX4_add 37 = .ok (.aload_n 0, 1) := by decide +kernel
theorem dX4_add_38 : decode cX4_add 38 = .ok (.getfield 25, 3) := by decide +kernel
theorem dX4_add_41 : decode cX4_add 41 = .ok (.iload_n 2, 1) := by decide +kernel
theorem dX4_add_42 : decode cX4_add 42 = .ok (.iload_n 3, 1) := by decide +kernel
theorem dX4_add_43 : decode cX4_add 43 = .ok (.invokespecial 28, 3) := by decide +kernel
theorem dX4_add_46 : decode cX4_add 46 = .ok (.aastore, 1) := by decide +kernel
theorem dX4_add_47 : decode cX4_add 47 = .ok (.goto 55, 3) := by decide +kernel
theorem dX4_add_50 : decode cX4_add 50 = .ok (.iload_n 1, 1) := by decide +kernel
theorem dX4_add_51 : decode cX4_add 51 = .ok (.iconst 1, 1) := by decide +kernel
theorem dX4_add_52 : decode cX4_add 52 = .ok (.if_icmp .ne 28, 3) := by decide +kernel
theorem dX4_add_55 : decode cX4_add 55 = .ok (.aload_n 0, 1) := by decide +kernel
theorem dX4_add_56 : decode cX4_add 56 = .ok (.getfield 17, 3) := by decide +kernel
theorem dX4_add_59 : decode cX4_add 59 = .ok (.aload_n 0, 1) := by decide +kernel
theorem dX4_add_60 : decode cX4_add 60 = .ok (.getfield 25, 3) := by decide +kernel
theorem dX4_add_63 : decode cX4_add 63 = .ok (.new 31, 3) := by decide +kernel
theorem dX4_add_66 : decode cX4_add 66 = .ok (.dup, 1) := by decide +kernel
theorem dX4_add_67 : decode cX4_add 67 = .ok (.aload_n 0, 1) := by decide +kernel
theorem dX4_add_68 : decode cX4_add 68 = .ok (.getfield 25, 3) := by decide +kernel
theorem dX4_add_71 : decode cX4_add 71 = .ok (.iload_n 2, 1) := by decide +kernel
theorem dX4_add_72 : decode cX4_add 72 = .ok (.iload_n 3, 1) := by decide +kernel
theorem dX4_add_73 : decode cX4_add 73 = .ok (.invokespecial 33, 3) := by decide +kernel
theorem dX4_add_76 : decode cX4_add 76 = .ok (.aastore, 1) := by decide +kernel
theorem dX4_add_77 : decode cX4_add 77 = .ok (.goto 25, 3) := by decide +kernel
theorem dX4_add_80 : decode cX4_add 80 = .ok (.aload_n 0, 1) := by decide +kernel
theorem dX4_add_81 : decode cX4_add 81 = .ok (.getfield 17, 3) := by decide +kernel
theorem dX4_add_84 : decode cX4_add 84 = .ok (.aload_n 0, 1) := by decide +kernel
theorem dX4_add_85 : decode cX4_add 85 = .ok (.getfield 25, 3) := by decide +kernel
theorem dX4_add_88 : decode cX4_add 88 = .ok (.new 34, 3) := by decide +kernel
theorem dX4_add_91 : decode cX4_add 91 = .ok (.dup, 1) := by decide +kernel
theorem dX4_add_92 : decode cX4_add 92 = .ok (.aload_n 0, 1) := by decide +kernel
theorem dX4_add_93 : decode cX4_add 93 = .ok (.getfield 25, 3) := by decide +kernel
theorem dX4_add_96 : decode cX4_add 96 = .ok (.iload_n 2, 1) := by decide +kernel
theorem dX4_add_97 : decode cX4_add 97 = .ok (.iload_n 3, 1) := by decide +kernel
theorem dX4_add_98 : decode cX4_add 98 = .ok (.invokespecial 36, 3) := by decide +kernel
theorem dX4_add_101 : decode cX4_add 101 = .ok (.aastore, 1) := by decide +kernel
theorem dX4_add_102 : decode cX4_add 102 = .ok (.aload_n 0, 1) := by decide +kernel
theorem dX4_add_103 : decode cX4_add 103 = .ok (.dup, 1) := by decide +kernel
theorem dX4_add_104 : decode cX4_add 104 = .ok (.getfield 25, 3) := by decide +kernel
theorem dX4_add_107 : decode cX4_add 107 = .ok (.iconst 1, 1) := by decide +kernel
theorem dX4_add_108 : decode cX4_add 108 = .ok (.iadd, 1) := by decide +kernel
theorem dX4_add_109 : decode cX4_add 109 = .ok (.putfield 25, 3) := by decide +kernel
theorem dX4_add_112 : decode cX4_add 112 = .ok (.iconst 1, 1) := by decide +kernel
theorem dX4_add_113 : decode cX4_add 113 = .ok (.ireturn, 1) := by decide +kernel
set_option maxRecDepth 100000 in
theorem ggX4_isHeld_X4_at : GoodIn wsX4_isHeld wsX4_at := goodIn_s _ [7, 8, 9, 10, 11, 12, 13] [6] (by decide +kernel) rfl (by decide +kernel)
set_option maxRecDepth 20000 in
theorem gX4_isHeld_X4_at : GoodIn wsX4_isHeld (wsV RX4 37 RX4 yX4_at wsX4_at) := goodIn_app (goodIn_of _ (by decide +kernel)) ggX4_isHeld_X4_at
theorem dX4_isHeld_0 : decode cX4_isHeld 0 = .ok (.aload_n 0, 1) := by decide +kernel
theorem dX4_isHeld_1 : decode cX4_isHeld 1 = .ok (.iload_n 1, 1) := by decide +kernel
theorem dX4_isHeld_2 : decode cX4_isHeld 2 = .ok (.invokevirtual 37, 3) := by decide +kernel
theorem dX4_isHeld_5 : decode cX4_isHeld 5 = .ok (.instanceof 31, 3) := by decide +kernel
theorem dX4_isHeld_8 : decode cX4_isHeld 8 = .ok (.ireturn, 1) := by decide +kernel
set_option maxRecDepth 100000 in
theorem ggX4_howManyAt_X4_at : GoodIn wsX4_howManyAt wsX4_at := goodIn_s _ [1, 8, 31, 32, 33, 34, 35] [7] (by decide +kernel) rfl (by decide +kernel)
set_option maxRecDepth 20000 in
theorem gX4_howManyAt_X4_at : GoodIn wsX4_howManyAt (wsV RX4 37 RX4 yX4_at wsX4_at) := goodIn_app (goodIn_of _ (by decide +kernel)) ggX4_howManyAt_X4_at
set_option maxRecDepth 100000 in
theorem ggX4_howManyAt_X11_get : GoodIn wsX4_howManyAt wsX11_get := goodIn_s _ [] [11] (by decide +kernel) rfl (by decide +kernel)
set_option maxRecDepth 20000 in
theorem gX4_howManyAt_X11_get_n46 : GoodIn wsX4_howManyAt (wsX11_get) := ggX4_howManyAt_X11_get
set_option maxRecDepth 100000 in
theorem ggX4_howManyAt_X0_isAt : GoodIn wsX4_howManyAt wsX0_isAt := goodIn_s _ [17, 18, 19, 15, 21, 22, 23, 24, 25, 26, 41, 42, 43, 44, 45, 46, 47, 48, 49, 50, 51, 52, 53, 54, 55, 56, 57, 58, 59, 60, 61] [16, 20] (by decide +kernel) rfl (by decide +kernel)
set_option maxRecDepth 20000 in
theorem gX4_howManyAt_X0_isAt : GoodIn wsX4_howManyAt (wsV RX4 50 RX0 yX0_isAt wsX0_isAt) := goodIn_app (goodIn_of _ (by decide +kernel)) ggX4_howManyAt_X0_isAt
set_option maxRecDepth 20000 in
theorem gX4_howManyAt_X0_isAt_u50X2 : GoodIn wsX4_howManyAt (va_wsU RX4 50 RX2 "OilPush$Cylinder" ⟨"OilPush$Cylinder", "isAt", "(II)Z"⟩ yX0_isAt wsX0_isAt) := goodIn_app (goodIn_of _ (by decide +kernel)) ggX4_howManyAt_X0_isAt
set_option maxRecDepth 20000 in
theorem gX4_howManyAt_X0_isAt_u50X10 : GoodIn wsX4_howManyAt (va_wsU RX4 50 RX10 "OilPush$Cylinder" ⟨"OilPush$Cylinder", "isAt", "(II)Z"⟩ yX0_isAt wsX0_isAt) := goodIn_app (goodIn_of _ (by decide +kernel)) ggX4_howManyAt_X0_isAt
theorem dX4_howManyAt_0 : decode cX4_howManyAt 0 = .ok (.iconst 0, 1) := by decide +kernel
theorem dX4_howManyAt_1 : decode cX4_howManyAt 1 = .ok (.istore_n 3, 1) := by decide +kernel
theorem dX4_howManyAt_2 : decode cX4_howManyAt 2 = .ok (.iconst 0, 1) := by decide +kernel
theorem dX4_howManyAt_3 : decode cX4_howManyAt 3 = .ok (.istore 4, 2) := by decide +kernel
theorem dX4_howManyAt_5 : decode cX4_howManyAt 5 = .ok (.iload 4, 2) := by decide +kernel
theorem dX4_howManyAt_7 : decode cX4_howManyAt 7 = .ok (.aload_n 0, 1) := by decide +kernel
theorem dX4_howManyAt_8 : decode cX4_howManyAt 8 = .ok (.getfield 25, 3) := by decide +kernel
theorem dX4_howManyAt_11 : decode cX4_howManyAt 11 = .ok (.if_icmp .ge 43, 3) := by decide +kernel
theorem dX4_howManyAt_14 : decode cX4_howManyAt 14 = .ok (.aload_n 0, 1) := by decide +kernel
theorem dX4_howManyAt_15 : decode cX4_howManyAt 15 = .ok (.iload 4, 2) := by decide +kernel
theorem dX4_howManyAt_17 : decode cX4_howManyAt 17 = .ok (.invokevirtual 37, 3) := by decide +kernel
theorem dX4_howManyAt_20 : decode cX4_howManyAt 20 = .ok (.astore 5, 2) := by decide +kernel
theorem dX4_howManyAt_22 : decode cX4_howManyAt 22 = .ok (.aload 5, 2) := by decide +kernel
theorem dX4_howManyAt_24 : decode cX4_howManyAt 24 = .ok (.ifnull 24, 3) := by decide +kernel
theorem dX4_howManyAt_27 : decode cX4_howManyAt 27 = .ok (.aload 5, 2) := by decide +kernel
theorem dX4_howManyAt_29 : decode cX4_howManyAt 29 = .ok (.iload_n 1, 1) := by decide +kernel
theorem dX4_howManyAt_30 : decode cX4_howManyAt 30 = .ok (.aload_n 2, 1) := by decide +kernel
theorem dX4_howManyAt_31 : decode cX4_howManyAt 31 = .ok (.getfield 41, 3) := by decide +kernel
theorem dX4_howManyAt_34 : decode cX4_howManyAt 34 = .ok (.iload 4, 2) := by decide +kernel
theorem dX4_howManyAt_36 : decode cX4_howManyAt 36 = .ok (.invokestatic 46, 3) := by decide +kernel
theorem dX4_howManyAt_39 : decode cX4_howManyAt 39 = .ok (.invokevirtual 50, 3) := by decide +kernel
theorem dX4_howManyAt_42 : decode cX4_howManyAt 42 = .ok (.ifCond .eq 6, 3) := by decide +kernel
theorem dX4_howManyAt_45 : decode cX4_howManyAt 45 = .ok (.iinc 3 1, 3) := by decide +kernel
theorem dX4_howManyAt_48 : decode cX4_howManyAt 48 = .ok (.iinc 4 1, 3) := by decide +kernel
theorem dX4_howManyAt_51 : decode cX4_howManyAt 51 = .ok (.goto (-46), 3) := by decide +kernel
theorem dX4_howManyAt_54 : decode cX4_howManyAt 54 = .ok (.iload_n 3, 1) := by decide +kernel
theorem dX4_howManyAt_55 : decode cX4_howManyAt 55 = .ok (.ireturn, 1) := by decide +kernel
theorem dX5_init_0 : decode cX5_init 0 = .ok (.aload_n 0, 1) := by decide +kernel
theorem dX5_init_1 : decode cX5_init 1 = .ok (.invokespecial 3, 3) := by decide +kernel
theorem dX5_init_4 : decode cX5_init 4 = .ok (.aload_n 0, 1) := by decide +kernel
theorem dX5_init_5 : decode cX5_init 5 = .ok (.bipush 20, 2) := by decide +kernel
theorem dX5_init_7 : decode cX5_init 7 = .ok (.newarray .int, 2) := by decide +kernel
theorem dX5_init_9 : decode cX5_init 9 = .ok (.putfield 9, 3) := by decide +kernel
theorem dX5_init_12 : decode cX5_init 12 = .ok (.aload_n 0, 1) := by decide +kernel
theorem dX5_init_13 : decode cX5_init 13 = .ok (.bipush 20, 2) := by decide +kernel
theorem dX5_init_15 : decode cX5_init 15 = .ok (.newarray .int, 2) := by decide +kernel
theorem dX5_init_17 : decode cX5_init 17 = .ok (.putfield 15, 3) := by decide +kernel
theorem dX5_init_20 : decode cX5_init 20 = .ok (.aload_n 0, 1) := by decide +kernel
theorem dX5_init_21 : decode cX5_init 21 = .ok (.bipush 20, 2) := by decide +kernel
theorem dX5_init_23 : decode cX5_init 23 = .ok (.newarray .int, 2) := by decide +kernel
theorem dX5_init_25 : decode cX5_init 25 = .ok (.putfield 18, 3) := by decide +kernel
theorem dX5_init_28 : decode cX5_init 28 = .ok (.return_, 1) := by decide +kernel
set_option maxRecDepth 100000 in
theorem ggX5_add_X11_set : GoodIn wsX5_add wsX11_set := goodIn_s _ [] [7] (by decide +kernel) rfl (by decide +kernel)
set_option maxRecDepth 20000 in
theorem gX5_add_X11_set_n25 : GoodIn wsX5_add (wsX11_set) := ggX5_add_X11_set
theorem dX5_add_0 : decode cX5_add 0 = .ok (.aload_n 0, 1) := by decide +kernel
theorem dX5_add_1 : decode cX5_add 1 = .ok (.getfield 21, 3) := by decide +kernel
theorem dX5_add_4 : decode cX5_add 4 = .ok (.bipush 20, 2) := by decide +kernel
theorem dX5_add_6 : decode cX5_add 6 = .ok (.if_icmp .lt 5, 3) := by decide +kernel
theorem dX5_add_9 : decode cX5_add 9 = .ok (.iconst 0, 1) := by decide +kernel
theorem dX5_add_10 : decode cX5_add 10 = .ok (.ireturn, 1) := by decide +kernel
theorem dX5_add_11 : decode cX5_add 11 = .ok (.aload_n 0, 1) := by decide +kernel
theorem dX5_add_12 : decode cX5_add 12 = .ok (.getfield 9, 3) := by decide +kernel
theorem dX5_add_15 : decode cX5_add 15 = .ok (.aload_n 0, 1) := by decide +kernel
theorem dX5_add_16 : decode cX5_add 16 = .ok (.getfield 21, 3) := by decide +kernel
theorem dX5_add_19 : decode cX5_add 19 = .ok (.iload_n 1, 1) := by decide +kernel
theorem dX5_add_20 : decode cX5_add 20 = .ok (.invokestatic 25, 3) := by decide +kernel
theorem dX5_add_23 : decode cX5_add 23 = .ok (.aload_n 0, 1) := by decide +kernel
theorem dX5_add_24 : decode cX5_add 24 = .ok (.getfield 15, 3) := by decide +kernel
theorem dX5_add_27 : decode cX5_add 27 = .ok (.aload_n 0, 1) := by decide +kernel
theorem dX5_add_28 : decode cX5_add 28 = .ok (.getfield 21, 3) := by decide +kernel
theorem dX5_add_31 : decode cX5_add 31 = .ok (.iload_n 2, 1) := by decide +kernel
theorem dX5_add_32 : decode cX5_add 32 = .ok (.invokestatic 25, 3) := by decide +kernel
theorem dX5_add_35 : decode cX5_add 35 = .ok (.aload_n 0, 1) := by decide +kernel
theorem dX5_add_36 : decode cX5_add 36 = .ok (.getfield 18, 3) := by decide +kernel
theorem dX5_add_39 : decode cX5_add 39 = .ok (.aload_n 0, 1) := by decide +kernel
theorem dX5_add_40 : decode cX5_add 40 = .ok (.getfield 21, 3) := by decide +kernel
theorem dX5_add_43 : decode cX5_add 43 = .ok (.iload_n 3, 1) := by decide +kernel
theorem dX5_add_44 : decode cX5_add 44 = .ok (.invokestatic 25, 3) := by decide +kernel
theorem dX5_add_47 : decode cX5_add 47 = .ok (.aload_n 0, 1) := by decide +kernel
theorem dX5_add_48 : decode cX5_add 48 = .ok (.dup, 1) := by decide +kernel
theorem dX5_add_49 : decode cX5_add 49 = .ok (.getfield 21, 3) := by decide +kernel
theorem dX5_add_52 : decode cX5_add 52 = .ok (.iconst 1, 1) := by decide +kernel
theorem dX5_add_53 : decode cX5_add 53 = .ok (.iadd, 1) := by decide +kernel
theorem dX5_add_54 : decode cX5_add 54 = .ok (.putfield 21, 3) := by decide +kernel
theorem dX5_add_57 : decode cX5_add 57 = .ok (.iconst 1, 1) := by decide +kernel
theorem dX5_add_58 : decode cX5_add 58 = .ok (.ireturn, 1) := by decide +kernel
set_option maxRecDepth 100000 in
theorem ggX5_latest_X11_get : GoodIn wsX5_latest wsX11_get := goodIn_s _ [] [9] (by decide +kernel) rfl (by decide +kernel)
set_option maxRecDepth 20000 in
theorem gX5_latest_X11_get_n29 : GoodIn wsX5_latest (wsX11_get) := ggX5_latest_X11_get
theorem dX5_latest_0 : decode cX5_latest 0 = .ok (.iconst 0, 1) := by decide +kernel
theorem dX5_latest_1 : decode cX5_latest 1 = .ok (.istore_n 1, 1) := by decide +kernel
theorem dX5_latest_2 : decode cX5_latest 2 = .ok (.iconst 0, 1) := by decide +kernel
theorem dX5_latest_3 : decode cX5_latest 3 = .ok (.istore_n 2, 1) := by decide +kernel
theorem dX5_latest_4 : decode cX5_latest 4 = .ok (.iload_n 2, 1) := by decide +kernel
theorem dX5_latest_5 : decode cX5_latest 5 = .ok (.aload_n 0, 1) := by decide +kernel
theorem dX5_latest_6 : decode cX5_latest 6 = .ok (.getfield 21, 3) := by decide +kernel
theorem dX5_latest_9 : decode cX5_latest 9 = .ok (.if_icmp .ge 22, 3) := by decide +kernel
theorem dX5_latest_12 : decode cX5_latest 12 = .ok (.iload_n 1, 1) := by decide +kernel
theorem dX5_latest_13 : decode cX5_latest 13 = .ok (.aload_n 0, 1) := by decide +kernel
theorem dX5_latest_14 : decode cX5_latest 14 = .ok (.getfield 9, 3) := by decide +kernel
theorem dX5_latest_17 : decode cX5_latest 17 = .ok (.iload_n 2, 1) := by decide +kernel
theorem dX5_latest_18 : decode cX5_latest 18 = .ok (.invokestatic 29, 3) := by decide +kernel
theorem dX5_latest_21 : decode cX5_latest 21 = .ok (.invokestatic 33, 3) := by decide +kernel
theorem dX5_latest_24 : decode cX5_latest 24 = .ok (.istore_n 1, 1) := by decide +kernel
theorem dX5_latest_25 : decode cX5_latest 25 = .ok (.iinc 2 1, 3) := by decide +kernel
theorem dX5_latest_28 : decode cX5_latest 28 = .ok (.goto (-24), 3) := by decide +kernel
theorem dX5_latest_31 : decode cX5_latest 31 = .ok (.iload_n 1, 1) := by decide +kernel
theorem dX5_latest_32 : decode cX5_latest 32 = .ok (.ireturn, 1) := by decide +kernel
set_option maxRecDepth 100000 in
theorem ggX5_areToldAt_X11_get : GoodIn wsX5_areToldAt wsX11_get := goodIn_s _ [] [8] (by decide +kernel) rfl (by decide +kernel)
set_option maxRecDepth 20000 in
theorem gX5_areToldAt_X11_get_n29 : GoodIn wsX5_areToldAt (wsX11_get) := ggX5_areToldAt_X11_get
theorem dX5_areToldAt_0 : decode cX5_areToldAt 0 = .ok (.iconst 0, 1) := by decide +kernel
theorem dX5_areToldAt_1 : decode cX5_areToldAt 1 = .ok (.istore_n 3, 1) := by decide +kernel
theorem dX5_areToldAt_2 : decode cX5_areToldAt 2 = .ok (.iload_n 3, 1) := by decide +kernel
theorem dX5_areToldAt_3 : decode cX5_areToldAt 3 = .ok (.aload_n 0, 1) := by decide +kernel
theorem dX5_areToldAt_4 : decode cX5_areToldAt 4 = .ok (.getfield 21, 3) := by decide +kernel
theorem dX5_areToldAt_7 : decode cX5_areToldAt 7 = .ok (.if_icmp .ge 49, 3) := by decide +kernel
theorem dX5_areToldAt_10 : decode cX5_areToldAt 10 = .ok (.aload_n 0, 1) := by decide +kernel
theorem dX5_areToldAt_11 : decode cX5_areToldAt 11 = .ok (.getfield 9, 3) := by decide +kernel
theorem dX5_areToldAt_14 : decode cX5_areToldAt 14 = .ok (.iload_n 3, 1) := by decide +kernel
theorem dX5_areToldAt_15 : decode cX5_areToldAt 15 = .ok (.invokestatic 29, 3) := by decide +kernel
theorem dX5_areToldAt_18 : decode cX5_areToldAt 18 = .ok (.iload_n 1, 1) := by decide +kernel
theorem dX5_areToldAt_19 : decode cX5_areToldAt 19 = .ok (.if_icmp .ne 31, 3) := by decide +kernel
theorem dX5_areToldAt_22 : decode cX5_areToldAt 22 = .ok (.aload_n 2, 1) := by decide +kernel
theorem dX5_areToldAt_23 : decode cX5_areToldAt 23 = .ok (.getfield 39, 3) := by decide +kernel
theorem dX5_areToldAt_26 : decode cX5_areToldAt 26 = .ok (.aload_n 0, 1) := by decide +kernel
theorem dX5_areToldAt_27 : decode cX5_areToldAt 27 = .ok (.getfield 15, 3) := by decide +kernel
theorem dX5_areToldAt_30 : decode cX5_areToldAt 30 = .ok (.iload_n 3, 1) := by decide +kernel
theorem dX5_areToldAt_31 : decode cX5_areToldAt 31 = .ok (.invokestatic 29, 3) := by decide +kernel
theorem dX5_areToldAt_34 : decode cX5_areToldAt 34 = .ok (.invokestatic 29, 3) := by decide +kernel
theorem dX5_areToldAt_37 : decode cX5_areToldAt 37 = .ok (.aload_n 0, 1) := by decide +kernel
theorem dX5_areToldAt_38 : decode cX5_areToldAt 38 = .ok (.getfield 18, 3) := by decide +kernel
theorem dX5_areToldAt_41 : decode cX5_areToldAt 41 = .ok (.iload_n 3, 1) := by decide +kernel
theorem dX5_areToldAt_42 : decode cX5_areToldAt 42 = .ok (.invokestatic 29, 3) := by decide +kernel
theorem dX5_areToldAt_45 : decode cX5_areToldAt 45 = .ok (.if_icmp .eq 5, 3) := by decide +kernel
theorem dX5_areToldAt_48 : decode cX5_areToldAt 48 = .ok (.iconst 0, 1) := by decide +kernel
theorem dX5_areToldAt_49 : decode cX5_areToldAt 49 = .ok (.ireturn, 1) := by decide +kernel
theorem dX5_areToldAt_50 : decode cX5_areToldAt 50 = .ok (.iinc 3 1, 3) := by decide +kernel
theorem dX5_areToldAt_53 : decode cX5_areToldAt 53 = .ok (.goto (-51), 3) := by decide +kernel
theorem dX5_areToldAt_56 : decode cX5_areToldAt 56 = .ok (.iconst 1, 1) := by decide +kernel
theorem dX5_areToldAt_57 : decode cX5_areToldAt 57 = .ok (.ireturn, 1) := by decide +kernel
theorem dX6_init_0 : decode cX6_init 0 = .ok (.aload_n 0, 1) := by decide +kernel
theorem dX6_init_1 : decode cX6_init 1 = .ok (.invokespecial 3, 3) := by decide +kernel
theorem dX6_init_4 : decode cX6_init 4 = .ok (.aload_n 0, 1) := by decide +kernel
theorem dX6_init_5 : decode cX6_init 5 = .ok (.bipush 20, 2) := by decide +kernel
theorem dX6_init_7 : decode cX6_init 7 = .ok (.newarray .int, 2) := by decide +kernel
theorem dX6_init_9 : decode cX6_init 9 = .ok (.putfield 9, 3) := by decide +kernel
theorem dX6_init_12 : decode cX6_init 12 = .ok (.return_, 1) := by decide +kernel
set_option maxRecDepth 100000 in
theorem ggX6_renew_J7_fill_53178 : GoodIn wsX6_renew wsJ7_fill_53178 := goodIn_s _ [] [12] (by decide +kernel) rfl (by decide +kernel)
set_option maxRecDepth 20000 in
theorem gX6_renew_J7_fill_53178 : GoodIn wsX6_renew (va_wsS RX6 15 yJ7_fill_53178 wsJ7_fill_53178) := goodIn_app (goodIn_of _ (by decide +kernel)) ggX6_renew_J7_fill_53178
theorem dX6_renew_0 : decode cX6_renew 0 = .ok (.aload_n 0, 1) := by decide +kernel
theorem dX6_renew_1 : decode cX6_renew 1 = .ok (.getfield 9, 3) := by decide +kernel
theorem dX6_renew_4 : decode cX6_renew 4 = .ok (.iconst 0, 1) := by decide +kernel
theorem dX6_renew_5 : decode cX6_renew 5 = .ok (.invokestatic 15, 3) := by decide +kernel
theorem dX6_renew_8 : decode cX6_renew 8 = .ok (.aload_n 0, 1) := by decide +kernel
theorem dX6_renew_9 : decode cX6_renew 9 = .ok (.iconst 1, 1) := by decide +kernel
theorem dX6_renew_10 : decode cX6_renew 10 = .ok (.putfield 21, 3) := by decide +kernel
theorem dX6_renew_13 : decode cX6_renew 13 = .ok (.aload_n 0, 1) := by decide +kernel
theorem dX6_renew_14 : decode cX6_renew 14 = .ok (.iload_n 1, 1) := by decide +kernel
theorem dX6_renew_15 : decode cX6_renew 15 = .ok (.putfield 25, 3) := by decide +kernel
theorem dX6_renew_18 : decode cX6_renew 18 = .ok (.aload_n 0, 1) := by decide +kernel
theorem dX6_renew_19 : decode cX6_renew 19 = .ok (.iload_n 2, 1) := by decide +kernel
theorem dX6_renew_20 : decode cX6_renew 20 = .ok (.aload_n 0, 1) := by decide +kernel
theorem dX6_renew_21 : decode cX6_renew 21 = .ok (.getfield 9, 3) := by decide +kernel
theorem dX6_renew_24 : decode cX6_renew 24 = .ok (.arraylength, 1) := by decide +kernel
theorem dX6_renew_25 : decode cX6_renew 25 = .ok (.invokestatic 29, 3) := by decide +kernel
theorem dX6_renew_28 : decode cX6_renew 28 = .ok (.putfield 35, 3) := by decide +kernel
theorem dX6_renew_31 : decode cX6_renew 31 = .ok (.return_, 1) := by decide +kernel
theorem dX6_faultTakenAs_0 : decode cX6_faultTakenAs 0 = .ok (.aload_n 0, 1) := by decide +kernel
theorem dX6_faultTakenAs_1 : decode cX6_faultTakenAs 1 = .ok (.getfield 21, 3) := by decide +kernel
theorem dX6_faultTakenAs_4 : decode cX6_faultTakenAs 4 = .ok (.ifCond .ne 5, 3) := by decide +kernel
theorem dX6_faultTakenAs_7 : decode cX6_faultTakenAs 7 = .ok (.iconst 1, 1) := by decide +kernel
theorem dX6_faultTakenAs_8 : decode cX6_faultTakenAs 8 = .ok (.ireturn, 1) := by decide +kernel
theorem dX6_faultTakenAs_9 : decode cX6_faultTakenAs 9 = .ok (.aload_n 0, 1) := by decide +kernel
theorem dX6_faultTakenAs_10 : decode cX6_faultTakenAs 10 = .ok (.getfield 25, 3) := by decide +kernel
theorem dX6_faultTakenAs_13 : decode cX6_faultTakenAs 13 = .ok (.iload_n 1, 1) := by decide +kernel
theorem dX6_faultTakenAs_14 : decode cX6_faultTakenAs 14 = .ok (.if_icmp .ne 7, 3) := by decide +kernel
theorem dX6_faultTakenAs_17 : decode cX6_faultTakenAs 17 = .ok (.iconst 0, 1) := by decide +kernel
theorem dX6_faultTakenAs_18 : decode cX6_faultTakenAs 18 = .ok (.goto 4, 3) := by decide +kernel
theorem dX6_faultTakenAs_21 : decode cX6_faultTakenAs 21 = .ok (.iconst 2, 1) := by decide +kernel
theorem dX6_faultTakenAs_22 : decode cX6_faultTakenAs 22 = .ok (.ireturn, 1) := by decide +kernel
theorem dX6_holds_0 : decode cX6_holds 0 = .ok (.iload_n 1, 1) := by decide +kernel
theorem dX6_holds_1 : decode cX6_holds 1 = .ok (.ifCond .lt 25, 3) := by decide +kernel
theorem dX6_holds_4 : decode cX6_holds 4 = .ok (.iload_n 2, 1) := by decide +kernel
theorem dX6_holds_5 : decode cX6_holds 5 = .ok (.ifCond .lt 21, 3) := by decide +kernel
theorem dX6_holds_8 : decode cX6_holds 8 = .ok (.iload_n 1, 1) := by decide +kernel
theorem dX6_holds_9 : decode cX6_holds 9 = .ok (.i2l, 1) := by decide +kernel
theorem dX6_holds_10 : decode cX6_holds 10 = .ok (.iload_n 2, 1) := by decide +kernel
theorem dX6_holds_11 : decode cX6_holds 11 = .ok (.i2l, 1) := by decide +kernel
theorem dX6_holds_12 : decode cX6_holds 12 = .ok (.ladd, 1) := by decide +kernel
theorem dX6_holds_13 : decode cX6_holds 13 = .ok (.aload_n 0, 1) := by decide +kernel
theorem dX6_holds_14 : decode cX6_holds 14 = .ok (.getfield 35, 3) := by decide +kernel
theorem dX6_holds_17 : decode cX6_holds 17 = .ok (.i2l, 1) := by decide +kernel
theorem dX6_holds_18 : decode cX6_holds 18 = .ok (.lcmp, 1) := by decide +kernel
theorem dX6_holds_19 : decode cX6_holds 19 = .ok (.ifCond .gt 7, 3) := by decide +kernel
theorem dX6_holds_22 : decode cX6_holds 22 = .ok (.iconst 1, 1) := by decide +kernel
theorem dX6_holds_23 : decode cX6_holds 23 = .ok (.goto 4, 3) := by decide +kernel
theorem dX6_holds_26 : decode cX6_holds 26 = .ok (.iconst 0, 1) := by decide +kernel
theorem dX6_holds_27 : decode cX6_holds 27 = .ok (.ireturn, 1) := by decide +kernel
set_option maxRecDepth 100000 in
theorem ggX6_areAllWithin_X11_get : GoodIn wsX6_areAllWithin wsX11_get := goodIn_s _ [] [4] (by decide +kernel) rfl (by decide +kernel)
set_option maxRecDepth 20000 in
theorem gX6_areAllWithin_X11_get_n38 : GoodIn wsX6_areAllWithin (wsX11_get) := ggX6_areAllWithin_X11_get
set_option maxRecDepth 100000 in
theorem ggX6_areAllWithin_X11_within : GoodIn wsX6_areAllWithin wsX11_within := goodIn_s _ [] [6] (by decide +kernel) rfl (by decide +kernel)
set_option maxRecDepth 20000 in
theorem gX6_areAllWithin_X11_within_n42 : GoodIn wsX6_areAllWithin (wsX11_within) := ggX6_areAllWithin_X11_within
theorem dX6_areAllWithin_0 : decode cX6_areAllWithin 0 = .ok (.iconst 0, 1) := by decide +kernel
theorem dX6_areAllWithin_1 : decode cX6_areAllWithin 1 = .ok (.istore 4, 2) := by decide +kernel
theorem dX6_areAllWithin_3 : decode cX6_areAllWithin 3 = .ok (.iload 4, 2) := by decide +kernel
theorem dX6_areAllWithin_5 : decode cX6_areAllWithin 5 = .ok (.iload_n 2, 1) := by decide +kernel
theorem dX6_areAllWithin_6 : decode cX6_areAllWithin 6 = .ok (.if_icmp .ge 30, 3) := by decide +kernel
theorem dX6_areAllWithin_9 : decode cX6_areAllWithin 9 = .ok (.aload_n 0, 1) := by decide +kernel
theorem dX6_areAllWithin_10 : decode cX6_areAllWithin 10 = .ok (.getfield 9, 3) := by decide +kernel
theorem dX6_areAllWithin_13 : decode cX6_areAllWithin 13 = .ok (.iload_n 1, 1) := by decide +kernel
theorem dX6_areAllWithin_14 : decode cX6_areAllWithin 14 = .ok (.iload 4, 2) := by decide +kernel
theorem dX6_areAllWithin_16 : decode cX6_areAllWithin 16 = .ok (.iadd, 1) := by decide +kernel
theorem dX6_areAllWithin_17 : decode cX6_areAllWithin 17 = .ok (.invokestatic 38, 3) := by decide +kernel
theorem dX6_areAllWithin_20 : decode cX6_areAllWithin 20 = .ok (.iconst 0, 1) := by decide +kernel
theorem dX6_areAllWithin_21 : decode cX6_areAllWithin 21 = .ok (.iload_n 3, 1) := by decide +kernel
theorem dX6_areAllWithin_22 : decode cX6_areAllWithin 22 = .ok (.invokestatic 42, 3) := by decide +kernel
theorem dX6_areAllWithin_25 : decode cX6_areAllWithin 25 = .ok (.ifCond .ne 5, 3) := by decide +kernel
theorem dX6_areAllWithin_28 : decode cX6_areAllWithin 28 = .ok (.iconst 0, 1) := by decide +kernel
theorem dX6_areAllWithin_29 : decode cX6_areAllWithin 29 = .ok (.ireturn, 1) := by decide +kernel
theorem dX6_areAllWithin_30 : decode cX6_areAllWithin 30 = .ok (.iinc 4 1, 3) := by decide +kernel
theorem dX6_areAllWithin_33 : decode cX6_areAllWithin 33 = .ok (.goto (-30), 3) := by decide +kernel
theorem dX6_areAllWithin_36 : decode cX6_areAllWithin 36 = .ok (.iconst 1, 1) := by decide +kernel
theorem dX6_areAllWithin_37 : decode cX6_areAllWithin 37 = .ok (.ireturn, 1) := by decide +kernel
set_option maxRecDepth 100000 in
theorem ggX6_write_X11_set : GoodIn wsX6_write wsX11_set := goodIn_s _ [] [5] (by decide +kernel) rfl (by decide +kernel)
set_option maxRecDepth 20000 in
theorem gX6_write_X11_set_n46 : GoodIn wsX6_write (wsX11_set) := ggX6_write_X11_set
theorem dX6_write_0 : decode cX6_write 0 = .ok (.aload_n 0, 1) := by decide +kernel
theorem dX6_write_1 : decode cX6_write 1 = .ok (.getfield 9, 3) := by decide +kernel
theorem dX6_write_4 : decode cX6_write 4 = .ok (.iload_n 1, 1) := by decide +kernel
theorem dX6_write_5 : decode cX6_write 5 = .ok (.aload_n 0, 1) := by decide +kernel
theorem dX6_write_6 : decode cX6_write 6 = .ok (.getfield 25, 3) := by decide +kernel
theorem dX6_write_9 : decode cX6_write 9 = .ok (.ifCond .ne 8, 3) := by decide +kernel
theorem dX6_write_12 : decode cX6_write 12 = .ok (.iload_n 2, 1) := by decide +kernel
theorem dX6_write_13 : decode cX6_write 13 = .ok (.i2b, 1) := by decide +kernel
theorem dX6_write_14 : decode cX6_write 14 = .ok (.goto 17, 3) := by decide +kernel
theorem dX6_write_17 : decode cX6_write 17 = .ok (.aload_n 0, 1) := by decide +kernel
theorem dX6_write_18 : decode cX6_write 18 = .ok (.getfield 25, 3) := by decide +kernel
theorem dX6_write_21 : decode cX6_write 21 = .ok (.iconst 1, 1) := by decide +kernel
theorem dX6_write_22 : decode cX6_write 22 = .ok (.if_icmp .ne 8, 3) := by decide +kernel
theorem dX6_write_25 : decode cX6_write 25 = .ok (.iload_n 2, 1) := by decide +kernel
theorem dX6_write_26 : decode cX6_write 26 = .ok (.i2s, 1) := by decide +kernel
theorem dX6_write_27 : decode cX6_write 27 = .ok (.goto 4, 3) := by decide +kernel
theorem dX6_write_30 : decode cX6_write 30 = .ok (.iload_n 2, 1) := by decide +kernel
theorem dX6_write_31 : decode cX6_write 31 = .ok (.invokestatic 46, 3) := by decide +kernel
theorem dX6_write_34 : decode cX6_write 34 = .ok (.return_, 1) := by decide +kernel
set_option maxRecDepth 100000 in
theorem ggX7_init_X8_init : GoodIn wsX7_init wsX8_init := goodIn_s _ [14, 2, 15, 21, 22, 23, 24] [13, 3] (by decide +kernel) rfl (by decide +kernel)
set_option maxRecDepth 20000 in
theorem gX7_init_X8_init_n23 : GoodIn wsX7_init (wsX8_init) := ggX7_init_X8_init
theorem dX7_init_0 : decode cX7_init 0 = .ok (.aload_n 0, 1) := by decide +kernel
theorem dX7_init_1 : decode cX7_init 1 = .ok (.invokespecial 3, 3) := by decide +kernel
theorem dX7_init_4 : decode cX7_init 4 = .ok (.aload_n 0, 1) := by decide +kernel
theorem dX7_init_5 : decode cX7_init 5 = .ok (.bipush 6, 2) := by decide +kernel
theorem dX7_init_7 : decode cX7_init 7 = .ok (.newarray .int, 2) := by decide +kernel
theorem dX7_init_9 : decode cX7_init 9 = .ok (.putfield 9, 3) := by decide +kernel
theorem dX7_init_12 : decode cX7_init 12 = .ok (.aload_n 0, 1) := by decide +kernel
theorem dX7_init_13 : decode cX7_init 13 = .ok (.bipush 6, 2) := by decide +kernel
theorem dX7_init_15 : decode cX7_init 15 = .ok (.newarray .int, 2) := by decide +kernel
theorem dX7_init_17 : decode cX7_init 17 = .ok (.putfield 15, 3) := by decide +kernel
theorem dX7_init_20 : decode cX7_init 20 = .ok (.aload_n 0, 1) := by decide +kernel
theorem dX7_init_21 : decode cX7_init 21 = .ok (.bipush 6, 2) := by decide +kernel
theorem dX7_init_23 : decode cX7_init 23 = .ok (.newarray .int, 2) := by decide +kernel
theorem dX7_init_25 : decode cX7_init 25 = .ok (.putfield 18, 3) := by decide +kernel
theorem dX7_init_28 : decode cX7_init 28 = .ok (.aload_n 0, 1) := by decide +kernel
theorem dX7_init_29 : decode cX7_init 29 = .ok (.new 21, 3) := by decide +kernel
theorem dX7_init_32 : decode cX7_init 32 = .ok (.dup, 1) := by decide +kernel
theorem dX7_init_33 : decode cX7_init 33 = .ok (.invokespecial 23, 3) := by decide +kernel
theorem dX7_init_36 : decode cX7_init 36 = .ok (.putfield 24, 3) := by decide +kernel
theorem dX7_init_39 : decode cX7_init 39 = .ok (.return_, 1) := by decide +kernel
set_option maxRecDepth 100000 in
theorem ggX7_become_X11_get : GoodIn wsX7_become wsX11_get := goodIn_s _ [] [8] (by decide +kernel) rfl (by decide +kernel)
set_option maxRecDepth 20000 in
theorem gX7_become_X11_get_n28 : GoodIn wsX7_become (wsX11_get) := ggX7_become_X11_get
set_option maxRecDepth 100000 in
theorem ggX7_become_X11_set : GoodIn wsX7_become wsX11_set := goodIn_s _ [] [10] (by decide +kernel) rfl (by decide +kernel)
set_option maxRecDepth 20000 in
theorem gX7_become_X11_set_n32 : GoodIn wsX7_become (wsX11_set) := ggX7_become_X11_set
set_option maxRecDepth 100000 in
theorem ggX7_become_X8_become : GoodIn wsX7_become wsX8_become := goodIn_s _ [16, 17, 18, 19, 25, 26, 27, 28] [15] (by decide +kernel) rfl (by decide +kernel)
set_option maxRecDepth 20000 in
theorem gX7_become_X8_become : GoodIn wsX7_become (wsV RX7 36 RX8 yX8_become wsX8_become) := goodIn_app (goodIn_of _ (by decide +kernel)) ggX7_become_X8_become
theorem dX7_become_0 : decode cX7_become 0 = .ok (.iconst 0, 1) := by decide +kernel
theorem dX7_become_1 : decode cX7_become 1 = .ok (.istore_n 2, 1) := by decide +kernel
theorem dX7_become_2 : decode cX7_become 2 = .ok (.iload_n 2, 1) := by decide +kernel
theorem dX7_become_3 : decode cX7_become 3 = .ok (.bipush 6, 2) := by decide +kernel
theorem dX7_become_5 : decode cX7_become 5 = .ok (.if_icmp .ge 57, 3) := by decide +kernel
theorem dX7_become_8 : decode cX7_become 8 = .ok (.aload_n 0, 1) := by decide +kernel
theorem dX7_become_9 : decode cX7_become 9 = .ok (.getfield 9, 3) := by decide +kernel
theorem dX7_become_12 : decode cX7_become 12 = .ok (.iload_n 2, 1) := by decide +kernel
theorem dX7_become_13 : decode cX7_become 13 = .ok (.aload_n 1, 1) := by decide +kernel
theorem dX7_become_14 : decode cX7_become 14 = .ok (.getfield 9, 3) := by decide +kernel
theorem dX7_become_17 : decode cX7_become 17 = .ok (.iload_n 2, 1) := by decide +kernel
theorem dX7_become_18 : decode cX7_become 18 = .ok (.invokestatic 28, 3) := by decide +kernel
theorem dX7_become_21 : decode cX7_become 21 = .ok (.invokestatic 32, 3) := by decide +kernel
theorem dX7_become_24 : decode cX7_become 24 = .ok (.aload_n 0, 1) := by decide +kernel
theorem dX7_become_25 : decode cX7_become 25 = .ok (.getfield 15, 3) := by decide +kernel
theorem dX7_become_28 : decode cX7_become 28 = .ok (.iload_n 2, 1) := by decide +kernel
theorem dX7_become_29 : decode cX7_become 29 = .ok (.aload_n 1, 1) := by decide +kernel
theorem dX7_become_30 : decode cX7_become 30 = .ok (.getfield 15, 3) := by decide +kernel
theorem dX7_become_33 : decode cX7_become 33 = .ok (.iload_n 2, 1) := by decide +kernel
theorem dX7_become_34 : decode cX7_become 34 = .ok (.invokestatic 28, 3) := by decide +kernel
theorem dX7_become_37 : decode cX7_become 37 = .ok (.invokestatic 32, 3) := by decide +kernel
theorem dX7_become_40 : decode cX7_become 40 = .ok (.aload_n 0, 1) := by decide +kernel
theorem dX7_become_41 : decode cX7_become 41 = .ok (.getfield 18, 3) := by decide +kernel
theorem dX7_become_44 : decode cX7_become 44 = .ok (.iload_n 2, 1) := by decide +kernel
theorem dX7_become_45 : decode cX7_become 45 = .ok (.aload_n 1, 1) := by decide +kernel
theorem dX7_become_46 : decode cX7_become 46 = .ok (.getfield 18, 3) := by decide +kernel
theorem dX7_become_49 : decode cX7_become 49 = .ok (.iload_n 2, 1) := by decide +kernel
theorem dX7_become_50 : decode cX7_become 50 = .ok (.invokestatic 28, 3) := by decide +kernel
theorem dX7_become_53 : decode cX7_become 53 = .ok (.invokestatic 32, 3) := by decide +kernel
theorem dX7_become_56 : decode cX7_become 56 = .ok (.iinc 2 1, 3) := by decide +kernel
theorem dX7_become_59 : decode cX7_become 59 = .ok (.goto (-57), 3) := by decide +kernel
theorem dX7_become_62 : decode cX7_become 62 = .ok (.aload_n 0, 1) := by decide +kernel
theorem dX7_become_63 : decode cX7_become 63 = .ok (.getfield 24, 3) := by decide +kernel
theorem dX7_become_66 : decode cX7_become 66 = .ok (.aload_n 1, 1) := by decide +kernel
theorem dX7_become_67 : decode cX7_become 67 = .ok (.getfield 24, 3) := by decide +kernel
theorem dX7_become_70 : decode cX7_become 70 = .ok (.invokevirtual 36, 3) := by decide +kernel
theorem dX7_become_73 : decode cX7_become 73 = .ok (.aload_n 0, 1) := by decide +kernel
theorem dX7_become_74 : decode cX7_become 74 = .ok (.aload_n 1, 1) := by decide +kernel
theorem dX7_become_75 : decode cX7_become 75 = .ok (.getfield 40, 3) := by decide +kernel
theorem dX7_become_78 : decode cX7_become 78 = .ok (.putfield 40, 3) := by decide +kernel
theorem dX7_become_81 : decode cX7_become 81 = .ok (.return_, 1) := by decide +kernel
theorem dX8_init_0 : decode cX8_init 0 = .ok (.aload_n 0, 1) := by decide +kernel
theorem dX8_init_1 : decode cX8_init 1 = .ok (.invokespecial 1, 3) := by decide +kernel
theorem dX8_init_4 : decode cX8_init 4 = .ok (.aload_n 0, 1) := by decide +kernel
theorem dX8_init_5 : decode cX8_init 5 = .ok (.iconst 1, 1) := by decide +kernel
theorem dX8_init_6 : decode cX8_init 6 = .ok (.putfield 7, 3) := by decide +kernel
theorem dX8_init_9 : decode cX8_init 9 = .ok (.return_, 1) := by decide +kernel
theorem dX8_pressure_0 : decode cX8_pressure 0 = .ok (.aload_n 0, 1) := by decide +kernel
theorem dX8_pressure_1 : decode cX8_pressure 1 = .ok (.getfield 7, 3) := by decide +kernel
theorem dX8_pressure_4 : decode cX8_pressure 4 = .ok (.ifCond .gt 10, 3) := by decide +kernel
theorem dX8_pressure_7 : decode cX8_pressure 7 = .ok (.aload_n 0, 1) := by decide +kernel
theorem dX8_pressure_8 : decode cX8_pressure 8 = .ok (.getfield 13, 3) := by decide +kernel
theorem dX8_pressure_11 : decode cX8_pressure 11 = .ok (.goto 17, 3) := by decide +kernel
theorem dX8_pressure_14 : decode cX8_pressure 14 = .ok (.aload_n 0, 1) := by decide +kernel
theorem dX8_pressure_15 : decode cX8_pressure 15 = .ok (.getfield 13, 3) := by decide +kernel
theorem dX8_pressure_18 : decode cX8_pressure 18 = .ok (.aload_n 0, 1) := by decide +kernel
theorem dX8_pressure_19 : decode cX8_pressure 19 = .ok (.getfield 16, 3) := by decide +kernel
theorem dX8_pressure_22 : decode cX8_pressure 22 = .ok (.aload_n 0, 1) := by decide +kernel
theorem dX8_pressure_23 : decode cX8_pressure 23 = .ok (.getfield 7, 3) := by decide +kernel
theorem dX8_pressure_26 : decode cX8_pressure 26 = .ok (.idiv, 1) := by decide +kernel
theorem dX8_pressure_27 : decode cX8_pressure 27 = .ok (.iadd, 1) := by decide +kernel
theorem dX8_pressure_28 : decode cX8_pressure 28 = .ok (.ireturn, 1) := by decide +kernel
theorem dX8_become_0 : decode cX8_become 0 = .ok (.aload_n 0, 1) := by decide +kernel
theorem dX8_become_1 : decode cX8_become 1 = .ok (.aload_n 1, 1) := by decide +kernel
theorem dX8_become_2 : decode cX8_become 2 = .ok (.getfield 19, 3) := by decide +kernel
theorem dX8_become_5 : decode cX8_become 5 = .ok (.putfield 19, 3) := by decide +kernel
theorem dX8_become_8 : decode cX8_become 8 = .ok (.aload_n 0, 1) := by decide +kernel
theorem dX8_become_9 : decode cX8_become 9 = .ok (.aload_n 1, 1) := by decide +kernel
theorem dX8_become_10 : decode cX8_become 10 = .ok (.getfield 13, 3) := by decide +kernel
theorem dX8_become_13 : decode cX8_become 13 = .ok (.putfield 13, 3) := by decide +kernel
theorem dX8_become_16 : decode cX8_become 16 = .ok (.aload_n 0, 1) := by decide +kernel
theorem dX8_become_17 : decode cX8_become 17 = .ok (.aload_n 1, 1) := by decide +kernel
theorem dX8_become_18 : decode cX8_become 18 = .ok (.getfield 7, 3) := by decide +kernel
theorem dX8_become_21 : decode cX8_become 21 = .ok (.putfield 7, 3) := by decide +kernel
theorem dX8_become_24 : decode cX8_become 24 = .ok (.aload_n 0, 1) := by decide +kernel
theorem dX8_become_25 : decode cX8_become 25 = .ok (.aload_n 1, 1) := by decide +kernel
theorem dX8_become_26 : decode cX8_become 26 = .ok (.getfield 16, 3) := by decide +kernel
theorem dX8_become_29 : decode cX8_become 29 = .ok (.putfield 16, 3) := by decide +kernel
theorem dX8_become_32 : decode cX8_become 32 = .ok (.return_, 1) := by decide +kernel
theorem dX9_init_0 : decode cX9_init 0 = .ok (.aload_n 0, 1) := by decide +kernel
theorem dX9_init_1 : decode cX9_init 1 = .ok (.invokespecial 1, 3) := by decide +kernel
theorem dX9_init_4 : decode cX9_init 4 = .ok (.return_, 1) := by decide +kernel
theorem dX9_leave_0 : decode cX9_leave 0 = .ok (.aload_n 0, 1) := by decide +kernel
theorem dX9_leave_1 : decode cX9_leave 1 = .ok (.bipush 31, 2) := by decide +kernel
theorem dX9_leave_3 : decode cX9_leave 3 = .ok (.aload_n 0, 1) := by decide +kernel
theorem dX9_leave_4 : decode cX9_leave 4 = .ok (.getfield 7, 3) := by decide +kernel
theorem dX9_leave_7 : decode cX9_leave 7 = .ok (.imul, 1) := by decide +kernel
theorem dX9_leave_8 : decode cX9_leave 8 = .ok (.iload_n 1, 1) := by decide +kernel
theorem dX9_leave_9 : decode cX9_leave 9 = .ok (.iadd, 1) := by decide +kernel
theorem dX9_leave_10 : decode cX9_leave 10 = .ok (.putfield 7, 3) := by decide +kernel
theorem dX9_leave_13 : decode cX9_leave 13 = .ok (.return_, 1) := by decide +kernel
set_option maxRecDepth 100000 in
theorem ggX10_init_X2_init : GoodIn wsX10_init wsX2_init := goodIn_s _ [5, 6, 7, 9, 10, 12, 13, 14, 15, 16, 17, 18, 19, 20, 21, 22, 23, 24, 25, 26, 27, 28, 29, 30, 31, 32, 33, 34, 35, 36, 37, 38, 39] [4, 8, 11] (by decide +kernel) rfl (by decide +kernel)
set_option maxRecDepth 20000 in
theorem gX10_init_X2_init : GoodIn wsX10_init (wsX2_init) := ggX10_init_X2_init
theorem dX10_init_0 : decode cX10_init 0 = .ok (.aload_n 0, 1) := by decide +kernel
theorem dX10_init_1 : decode cX10_init 1 = .ok (.iload_n 1, 1) := by decide +kernel
theorem dX10_init_2 : decode cX10_init 2 = .ok (.iload_n 2, 1) := by decide +kernel
theorem dX10_init_3 : decode cX10_init 3 = .ok (.iload_n 3, 1) := by decide +kernel
theorem dX10_init_4 : decode cX10_init 4 = .ok (.invokespecial 1, 3) := by decide +kernel
theorem dX10_init_7 : decode cX10_init 7 = .ok (.return_, 1) := by decide +kernel
theorem dX10_kind_0 : decode cX10_kind 0 = .ok (.iconst 2, 1) := by decide +kernel
theorem dX10_kind_1 : decode cX10_kind 1 = .ok (.ireturn, 1) := by decide +kernel
theorem dX10_pushAgainst_0 : decode cX10_pushAgainst 0 = .ok (.aload_n 0, 1) := by decide +kernel
theorem dX10_pushAgainst_1 : decode cX10_pushAgainst 1 = .ok (.iload_n 1, 1) := by decide +kernel
theorem dX10_pushAgainst_2 : decode cX10_pushAgainst 2 = .ok (.invokespecial 7, 3) := by decide +kernel
theorem dX10_pushAgainst_5 : decode cX10_pushAgainst 5 = .ok (.iconst 1, 1) := by decide +kernel
theorem dX10_pushAgainst_6 : decode cX10_pushAgainst 6 = .ok (.iadd, 1) := by decide +kernel
theorem dX10_pushAgainst_7 : decode cX10_pushAgainst 7 = .ok (.iconst 2, 1) := by decide +kernel
theorem dX10_pushAgainst_8 : decode cX10_pushAgainst 8 = .ok (.idiv, 1) := by decide +kernel
theorem dX10_pushAgainst_9 : decode cX10_pushAgainst 9 = .ok (.ireturn, 1) := by decide +kernel
set_option maxRecDepth 100000 in
theorem ggX10_toldBy_X9_leave : GoodIn wsX10_toldBy wsX9_leave := goodIn_s _ [6, 14] [5] (by decide +kernel) rfl (by decide +kernel)
set_option maxRecDepth 20000 in
theorem gX10_toldBy_X9_leave : GoodIn wsX10_toldBy (wsV RX10 11 RX9 yX9_leave wsX9_leave) := goodIn_app (goodIn_of _ (by decide +kernel)) ggX10_toldBy_X9_leave
set_option maxRecDepth 100000 in
theorem ggX10_toldBy_X0_plainlyTold : GoodIn wsX10_toldBy wsX0_plainlyTold := goodIn_s _ [13, 2, 3, 4, 6, 14] [12, 5] (by decide +kernel) rfl (by decide +kernel)
set_option maxRecDepth 20000 in
theorem gX10_toldBy_X0_plainlyTold_u17X10 : GoodIn wsX10_toldBy (va_wsU RX10 17 RX10 "OilPush$Cylinder" ⟨"OilPush$Twin", "plainlyTold", "(LOilPush$Trace;I)I"⟩ yX0_plainlyTold wsX0_plainlyTold) := goodIn_app (goodIn_of _ (by decide +kernel)) ggX10_toldBy_X0_plainlyTold
theorem dX10_toldBy_0 : decode cX10_toldBy 0 = .ok (.aload_n 1, 1) := by decide +kernel
theorem dX10_toldBy_1 : decode cX10_toldBy 1 = .ok (.iconst 3, 1) := by decide +kernel
theorem dX10_toldBy_2 : decode cX10_toldBy 2 = .ok (.invokevirtual 11, 3) := by decide +kernel
theorem dX10_toldBy_5 : decode cX10_toldBy 5 = .ok (.iconst 2, 1) := by decide +kernel
theorem dX10_toldBy_6 : decode cX10_toldBy 6 = .ok (.aload_n 0, 1) := by decide +kernel
theorem dX10_toldBy_7 : decode cX10_toldBy 7 = .ok (.aload_n 1, 1) := by decide +kernel
theorem dX10_toldBy_8 : decode cX10_toldBy 8 = .ok (.iload_n 2, 1) := by decide +kernel
theorem dX10_toldBy_9 : decode cX10_toldBy 9 = .ok (.invokevirtual 17, 3) := by decide +kernel
theorem dX10_toldBy_12 : decode cX10_toldBy 12 = .ok (.imul, 1) := by decide +kernel
theorem dX10_toldBy_13 : decode cX10_toldBy 13 = .ok (.ireturn, 1) := by decide +kernel
set_option maxRecDepth 100000 in
theorem ggX10_seenBy_X9_leave : GoodIn wsX10_seenBy wsX9_leave := goodIn_s _ [6, 7] [5] (by decide +kernel) rfl (by decide +kernel)
set_option maxRecDepth 20000 in
theorem gX10_seenBy_X9_leave : GoodIn wsX10_seenBy (wsV RX10 11 RX9 yX9_leave wsX9_leave) := goodIn_app (goodIn_of _ (by decide +kernel)) ggX10_seenBy_X9_leave
theorem dX10_seenBy_0 : decode cX10_seenBy 0 = .ok (.aload_n 1, 1) := by decide +kernel
theorem dX10_seenBy_1 : decode cX10_seenBy 1 = .ok (.iconst 5, 1) := by decide +kernel
theorem dX10_seenBy_2 : decode cX10_seenBy 2 = .ok (.invokevirtual 11, 3) := by decide +kernel
theorem dX10_seenBy_5 : decode cX10_seenBy 5 = .ok (.bipush 88, 2) := by decide +kernel
theorem dX10_seenBy_7 : decode cX10_seenBy 7 = .ok (.ireturn, 1) := by decide +kernel
set_option maxRecDepth 100000 in
theorem ggX11_init_X4_init : GoodIn wsX11_init wsX4_init := goodIn_s _ [39, 2, 40, 41, 42, 23, 43, 86, 87, 88, 89, 90] [38, 3] (by decide +kernel) rfl (by decide +kernel)
set_option maxRecDepth 20000 in
theorem gX11_init_X4_init_n11 : GoodIn wsX11_init (wsX4_init) := ggX11_init_X4_init
set_option maxRecDepth 100000 in
theorem ggX11_init_X7_init : GoodIn wsX11_init wsX7_init := goodIn_s _ [46, 2, 23, 47, 48, 49, 50, 51, 52, 53, 54, 56, 57, 106, 107, 108, 109, 110, 138, 139, 140, 141] [45, 3, 55] (by decide +kernel) rfl (by decide +kernel)
set_option maxRecDepth 20000 in
theorem gX11_init_X7_init_n20 : GoodIn wsX11_init (wsX7_init) := ggX11_init_X7_init
set_option maxRecDepth 100000 in
theorem ggX11_init_X1_init : GoodIn wsX11_init wsX1_init := goodIn_s _ [60, 2, 23, 61, 62, 63, 64, 65, 111, 112, 113, 114, 115, 116, 117, 118, 119, 120, 121, 122, 123] [59, 3] (by decide +kernel) rfl (by decide +kernel)
set_option maxRecDepth 20000 in
theorem gX11_init_X1_init_n27 : GoodIn wsX11_init (wsX1_init) := ggX11_init_X1_init
set_option maxRecDepth 100000 in
theorem ggX11_init_X3_init : GoodIn wsX11_init wsX3_init := goodIn_s _ [68, 2, 23, 69, 70, 71, 72, 124, 125, 126, 127, 128] [67, 3] (by decide +kernel) rfl (by decide +kernel)
set_option maxRecDepth 20000 in
theorem gX11_init_X3_init_n34 : GoodIn wsX11_init (wsX3_init) := ggX11_init_X3_init
set_option maxRecDepth 100000 in
theorem ggX11_init_X5_init : GoodIn wsX11_init wsX5_init := goodIn_s _ [75, 2, 23, 76, 77, 78, 129, 130, 131, 132] [74, 3] (by decide +kernel) rfl (by decide +kernel)
set_option maxRecDepth 20000 in
theorem gX11_init_X5_init_n54 : GoodIn wsX11_init (wsX5_init) := ggX11_init_X5_init
set_option maxRecDepth 100000 in
theorem ggX11_init_X9_init : GoodIn wsX11_init wsX9_init := goodIn_s _ [81, 2] [80, 3] (by decide +kernel) rfl (by decide +kernel)
set_option maxRecDepth 20000 in
theorem gX11_init_X9_init_n67 : GoodIn wsX11_init (wsX9_init) := ggX11_init_X9_init
set_option maxRecDepth 100000 in
theorem ggX11_init_X6_init : GoodIn wsX11_init wsX6_init := goodIn_s _ [84, 2, 23, 85, 134, 135, 136, 137] [83, 3] (by decide +kernel) rfl (by decide +kernel)
set_option maxRecDepth 20000 in
theorem gX11_init_X6_init_n72 : GoodIn wsX11_init (wsX6_init) := ggX11_init_X6_init
theorem dX11_init_0 : decode cX11_init 0 = .ok (.aload_n 0, 1) := by decide +kernel
theorem dX11_init_1 : decode cX11_init 1 = .ok (.invokespecial 3, 3) := by decide +kernel
theorem dX11_init_4 : decode cX11_init 4 = .ok (.aload_n 0, 1) := by decide +kernel
theorem dX11_init_5 : decode cX11_init 5 = .ok (.new 9, 3) := by decide +kernel
theorem dX11_init_8 : decode cX11_init 8 = .ok (.dup, 1) := by decide +kernel
theorem dX11_init_9 : decode cX11_init 9 = .ok (.invokespecial 11, 3) := by decide +kernel
theorem dX11_init_12 : decode cX11_init 12 = .ok (.putfield 12, 3) := by decide +kernel
theorem dX11_init_15 : decode cX11_init 15 = .ok (.aload_n 0, 1) := by decide +kernel
theorem dX11_init_16 : decode cX11_init 16 = .ok (.new 18, 3) := by decide +kernel
theorem dX11_init_19 : decode cX11_init 19 = .ok (.dup, 1) := by decide +kernel
theorem dX11_init_20 : decode cX11_init 20 = .ok (.invokespecial 20, 3) := by decide +kernel
theorem dX11_init_23 : decode cX11_init 23 = .ok (.putfield 21, 3) := by decide +kernel
theorem dX11_init_26 : decode cX11_init 26 = .ok (.aload_n 0, 1) := by decide +kernel
theorem dX11_init_27 : decode cX11_init 27 = .ok (.new 25, 3) := by decide +kernel
theorem dX11_init_30 : decode cX11_init 30 = .ok (.dup, 1) := by decide +kernel
theorem dX11_init_31 : decode cX11_init 31 = .ok (.invokespecial 27, 3) := by decide +kernel
theorem dX11_init_34 : decode cX11_init 34 = .ok (.putfield 28, 3) := by decide +kernel
theorem dX11_init_37 : decode cX11_init 37 = .ok (.aload_n 0, 1) := by decide +kernel
theorem dX11_init_38 : decode cX11_init 38 = .ok (.new 32, 3) := by decide +kernel
theorem dX11_init_41 : decode cX11_init 41 = .ok (.dup, 1) := by decide +kernel
theorem dX11_init_42 : decode cX11_init 42 = .ok (.invokespecial 34, 3) := by decide +kernel
theorem dX11_init_45 : decode cX11_init 45 = .ok (.putfield 35, 3) := by decide +kernel
theorem dX11_init_48 : decode cX11_init 48 = .ok (.aload_n 0, 1) := by decide +kernel
theorem dX11_init_49 : decode cX11_init 49 = .ok (.new 18, 3) := by decide +kernel
theorem dX11_init_52 : decode cX11_init 52 = .ok (.dup, 1) := by decide +kernel
theorem dX11_init_53 : decode cX11_init 53 = .ok (.invokespecial 20, 3) := by decide +kernel
theorem dX11_init_56 : decode cX11_init 56 = .ok (.putfield 39, 3) := by decide +kernel
theorem dX11_init_59 : decode cX11_init 59 = .ok (.aload_n 0, 1) := by decide +kernel
theorem dX11_init_60 : decode cX11_init 60 = .ok (.new 18, 3) := by decide +kernel
theorem dX11_init_63 : decode cX11_init 63 = .ok (.dup, 1) := by decide +kernel
theorem dX11_init_64 : decode cX11_init 64 = .ok (.invokespecial 20, 3) := by decide +kernel
theorem dX11_init_67 : decode cX11_init 67 = .ok (.putfield 42, 3) := by decide +kernel
theorem dX11_init_70 : decode cX11_init 70 = .ok (.aload_n 0, 1) := by decide +kernel
theorem dX11_init_71 : decode cX11_init 71 = .ok (.new 25, 3) := by decide +kernel
theorem dX11_init_74 : decode cX11_init 74 = .ok (.dup, 1) := by decide +kernel
theorem dX11_init_75 : decode cX11_init 75 = .ok (.invokespecial 27, 3) := by decide +kernel
theorem dX11_init_78 : decode cX11_init 78 = .ok (.putfield 45, 3) := by decide +kernel
theorem dX11_init_81 : decode cX11_init 81 = .ok (.aload_n 0, 1) := by decide +kernel
theorem dX11_init_82 : decode cX11_init 82 = .ok (.bipush 6, 2) := by decide +kernel
theorem dX11_init_84 : decode cX11_init 84 = .ok (.newarray .int, 2) := by decide +kernel
theorem dX11_init_86 : decode cX11_init 86 = .ok (.putfield 48, 3) := by decide +kernel
theorem dX11_init_89 : decode cX11_init 89 = .ok (.aload_n 0, 1) := by decide +kernel
theorem dX11_init_90 : decode cX11_init 90 = .ok (.new 52, 3) := by decide +kernel
theorem dX11_init_93 : decode cX11_init 93 = .ok (.dup, 1) := by decide +kernel
theorem dX11_init_94 : decode cX11_init 94 = .ok (.invokespecial 54, 3) := by decide +kernel
theorem dX11_init_97 : decode cX11_init 97 = .ok (.putfield 55, 3) := by decide +kernel
theorem dX11_init_100 : decode cX11_init 100 = .ok (.aload_n 0, 1) := by decide +kernel
theorem dX11_init_101 : decode cX11_init 101 = .ok (.iconst 4, 1) := by decide +kernel
theorem dX11_init_102 : decode cX11_init 102 = .ok (.anewarray 59, 3) := by decide +kernel
theorem dX11_init_105 : decode cX11_init 105 = .ok (.putfield 61, 3) := by decide +kernel
theorem dX11_init_108 : decode cX11_init 108 = .ok (.aload_n 0, 1) := by decide +kernel
theorem dX11_init_109 : decode cX11_init 109 = .ok (.new 65, 3) := by decide +kernel
theorem dX11_init_112 : decode cX11_init 112 = .ok (.dup, 1) := by decide +kernel
theorem dX11_init_113 : decode cX11_init 113 = .ok (.invokespecial 67, 3) := by decide +kernel
theorem dX11_init_116 : decode cX11_init 116 = .ok (.putfield 68, 3) := by decide +kernel
theorem dX11_init_119 : decode cX11_init 119 = .ok (.iconst 0, 1) := by decide +kernel
theorem dX11_init_120 : decode cX11_init 120 = .ok (.istore_n 1, 1) := by decide +kernel
theorem dX11_init_121 : decode cX11_init 121 = .ok (.iload_n 1, 1) := by decide +kernel
theorem dX11_init_122 : decode cX11_init 122 = .ok (.aload_n 0, 1) := by decide +kernel
theorem dX11_init_123 : decode cX11_init 123 = .ok (.getfield 61, 3) := by decide +kernel
theorem dX11_init_126 : decode cX11_init 126 = .ok (.arraylength, 1) := by decide +kernel
theorem dX11_init_127 : decode cX11_init 127 = .ok (.if_icmp .ge 22, 3) := by decide +kernel
theorem dX11_init_130 : decode cX11_init 130 = .ok (.aload_n 0, 1) := by decide +kernel
theorem dX11_init_131 : decode cX11_init 131 = .ok (.getfield 61, 3) := by decide +kernel
theorem dX11_init_134 : decode cX11_init 134 = .ok (.iload_n 1, 1) := by decide +kernel
theorem dX11_init_135 : decode cX11_init 135 = .ok (.new 59, 3) := by decide +kernel
theorem dX11_init_138 : decode cX11_init 138 = .ok (.dup, 1) := by decide +kernel
theorem dX11_init_139 : decode cX11_init 139 = .ok (.invokespecial 72, 3) := by decide +kernel
theorem dX11_init_142 : decode cX11_init 142 = .ok (.aastore, 1) := by decide +kernel
theorem dX11_init_143 : decode cX11_init 143 = .ok (.iinc 1 1, 3) := by decide +kernel
theorem dX11_init_146 : decode cX11_init 146 = .ok (.goto (-25), 3) := by decide +kernel
theorem dX11_init_149 : decode cX11_init 149 = .ok (.return_, 1) := by decide +kernel
set_option maxRecDepth 100000 in
theorem ggX11_pump_X11_within : GoodIn wsX11_pump wsX11_within := goodIn_s _ [] [7] (by decide +kernel) rfl (by decide +kernel)
set_option maxRecDepth 20000 in
theorem gX11_pump_X11_within : GoodIn wsX11_pump (va_wsS RX11 73 yX11_within wsX11_within) := goodIn_app (goodIn_of _ (by decide +kernel)) ggX11_pump_X11_within
theorem dX11_pump_0 : decode cX11_pump 0 = .ok (.iload_n 1, 1) := by decide +kernel
theorem dX11_pump_1 : decode cX11_pump 1 = .ok (.ifCond .eq 10, 3) := by decide +kernel
theorem dX11_pump_4 : decode cX11_pump 4 = .ok (.iload_n 1, 1) := by decide +kernel
theorem dX11_pump_5 : decode cX11_pump 5 = .ok (.iconst 1, 1) := by decide +kernel
theorem dX11_pump_6 : decode cX11_pump 6 = .ok (.if_icmp .eq 5, 3) := by decide +kernel
theorem dX11_pump_9 : decode cX11_pump 9 = .ok (.iconst (-1), 1) := by decide +kernel
theorem dX11_pump_10 : decode cX11_pump 10 = .ok (.ireturn, 1) := by decide +kernel
theorem dX11_pump_11 : decode cX11_pump 11 = .ok (.iload_n 2, 1) := by decide +kernel
theorem dX11_pump_12 : decode cX11_pump 12 = .ok (.iload_n 1, 1) := by decide +kernel
theorem dX11_pump_13 : decode cX11_pump 13 = .ok (.ifCond .ne 7, 3) := by decide +kernel
theorem dX11_pump_16 : decode cX11_pump 16 = .ok (.iconst 0, 1) := by decide +kernel
theorem dX11_pump_17 : decode cX11_pump 17 = .ok (.goto 4, 3) := by decide +kernel
theorem dX11_pump_20 : decode cX11_pump 20 = .ok (.iconst 1, 1) := by decide +kernel
theorem dX11_pump_21 : decode cX11_pump 21 = .ok (.sipush 1000, 3) := by decide +kernel
theorem dX11_pump_24 : decode cX11_pump 24 = .ok (.invokestatic 73, 3) := by decide +kernel
theorem dX11_pump_27 : decode cX11_pump 27 = .ok (.ifCond .ne 6, 3) := by decide +kernel
theorem dX11_pump_30 : decode cX11_pump 30 = .ok (.bipush (-2), 2) := by decide +kernel
theorem dX11_pump_32 : decode cX11_pump 32 = .ok (.ireturn, 1) := by decide +kernel
theorem dX11_pump_33 : decode cX11_pump 33 = .ok (.iload_n 1, 1) := by decide +kernel
theorem dX11_pump_34 : decode cX11_pump 34 = .ok (.ifCond .ne 13, 3) := by decide +kernel
theorem dX11_pump_37 : decode cX11_pump 37 = .ok (.aload_n 0, 1) := by decide +kernel
theorem dX11_pump_38 : decode cX11_pump 38 = .ok (.getfield 12, 3) := by decide +kernel
theorem dX11_pump_41 : decode cX11_pump 41 = .ok (.getfield 77, 3) := by decide +kernel
theorem dX11_pump_44 : decode cX11_pump 44 = .ok (.goto 10, 3) := by decide +kernel
theorem dX11_pump_47 : decode cX11_pump 47 = .ok (.aload_n 0, 1) := by decide +kernel
theorem dX11_pump_48 : decode cX11_pump 48 = .ok (.getfield 12, 3) := by decide +kernel
theorem dX11_pump_51 : decode cX11_pump 51 = .ok (.getfield 81, 3) := by decide +kernel
theorem dX11_pump_54 : decode cX11_pump 54 = .ok (.istore_n 3, 1) := by decide +kernel
theorem dX11_pump_55 : decode cX11_pump 55 = .ok (.iload_n 1, 1) := by decide +kernel
theorem dX11_pump_56 : decode cX11_pump 56 = .ok (.ifCond .ne 14, 3) := by decide +kernel
theorem dX11_pump_59 : decode cX11_pump 59 = .ok (.aload_n 0, 1) := by decide +kernel
theorem dX11_pump_60 : decode cX11_pump 60 = .ok (.getfield 12, 3) := by decide +kernel
theorem dX11_pump_63 : decode cX11_pump 63 = .ok (.iload_n 2, 1) := by decide +kernel
theorem dX11_pump_64 : decode cX11_pump 64 = .ok (.putfield 77, 3) := by decide +kernel
theorem dX11_pump_67 : decode cX11_pump 67 = .ok (.goto 11, 3) := by decide +kernel
theorem dX11_pump_70 : decode cX11_pump 70 = .ok (.aload_n 0, 1) := by decide +kernel
theorem dX11_pump_71 : decode cX11_pump 71 = .ok (.getfield 12, 3) := by decide +kernel
theorem dX11_pump_74 : decode cX11_pump 74 = .ok (.iload_n 2, 1) := by decide +kernel
theorem dX11_pump_75 : decode cX11_pump 75 = .ok (.putfield 81, 3) := by decide +kernel
theorem dX11_pump_78 : decode cX11_pump 78 = .ok (.iload_n 3, 1) := by decide +kernel
theorem dX11_pump_79 : decode cX11_pump 79 = .ok (.ireturn, 1) := by decide +kernel
set_option maxRecDepth 100000 in
theorem ggX11_cylinder_X11_within : GoodIn wsX11_cylinder wsX11_within := goodIn_s _ [] [6] (by decide +kernel) rfl (by decide +kernel)
set_option maxRecDepth 20000 in
theorem gX11_cylinder_X11_within : GoodIn wsX11_cylinder (va_wsS RX11 73 yX11_within wsX11_within) := goodIn_app (goodIn_of _ (by decide +kernel)) ggX11_cylinder_X11_within
set_option maxRecDepth 100000 in
theorem ggX11_cylinder_X4_add : GoodIn wsX11_cylinder wsX4_add := goodIn_s _ [12, 13, 14, 15, 16, 17, 18, 19, 20, 21, 22, 23, 24, 26, 27, 29, 30, 31, 32, 33, 34, 35, 36, 37, 39, 40, 41, 43, 59, 60, 61, 62, 63, 64, 65, 66, 67, 68, 69, 70, 71, 72, 73, 74, 75, 76, 77, 78, 79, 80, 81, 82, 83, 84] [11, 25, 28, 38, 42] (by decide +kernel) rfl (by decide +kernel)
set_option maxRecDepth 20000 in
theorem gX11_cylinder_X4_add : GoodIn wsX11_cylinder (wsV RX11 84 RX4 yX4_add wsX4_add) := goodIn_app (goodIn_of _ (by decide +kernel)) ggX11_cylinder_X4_add
theorem dX11_cylinder_0 : decode cX11_cylinder 0 = .ok (.iload_n 1, 1) := by decide +kernel
theorem dX11_cylinder_1 : decode cX11_cylinder 1 = .ok (.iconst 0, 1) := by decide +kernel
theorem dX11_cylinder_2 : decode cX11_cylinder 2 = .ok (.iconst 2, 1) := by decide +kernel
theorem dX11_cylinder_3 : decode cX11_cylinder 3 = .ok (.invokestatic 73, 3) := by decide +kernel
theorem dX11_cylinder_6 : decode cX11_cylinder 6 = .ok (.ifCond .eq 23, 3) := by decide +kernel
theorem dX11_cylinder_9 : decode cX11_cylinder 9 = .ok (.iload_n 2, 1) := by decide +kernel
theorem dX11_cylinder_10 : decode cX11_cylinder 10 = .ok (.iconst 1, 1) := by decide +kernel
theorem dX11_cylinder_11 : decode cX11_cylinder 11 = .ok (.bipush 100, 2) := by decide +kernel
theorem dX11_cylinder_13 : decode cX11_cylinder 13 = .ok (.invokestatic 73, 3) := by decide +kernel
theorem dX11_cylinder_16 : decode cX11_cylinder 16 = .ok (.ifCond .eq 13, 3) := by decide +kernel
theorem dX11_cylinder_19 : decode cX11_cylinder 19 = .ok (.iload_n 3, 1) := by decide +kernel
theorem dX11_cylinder_20 : decode cX11_cylinder 20 = .ok (.iconst 1, 1) := by decide +kernel
theorem dX11_cylinder_21 : decode cX11_cylinder 21 = .ok (.bipush 100, 2) := by decide +kernel
theorem dX11_cylinder_23 : decode cX11_cylinder 23 = .ok (.invokestatic 73, 3) := by decide +kernel
theorem dX11_cylinder_26 : decode cX11_cylinder 26 = .ok (.ifCond .ne 6, 3) := by decide +kernel
theorem dX11_cylinder_29 : decode cX11_cylinder 29 = .ok (.bipush (-2), 2) := by decide +kernel
theorem dX11_cylinder_31 : decode cX11_cylinder 31 = .ok (.ireturn, 1) := by decide +kernel
theorem dX11_cylinder_32 : decode cX11_cylinder 32 = .ok (.aload_n 0, 1) := by decide +kernel
theorem dX11_cylinder_33 : decode cX11_cylinder 33 = .ok (.getfield 12, 3) := by decide +kernel
theorem dX11_cylinder_36 : decode cX11_cylinder 36 = .ok (.iload_n 1, 1) := by decide +kernel
theorem dX11_cylinder_37 : decode cX11_cylinder 37 = .ok (.iload_n 2, 1) := by decide +kernel
theorem dX11_cylinder_38 : decode cX11_cylinder 38 = .ok (.iload_n 3, 1) := by decide +kernel
theorem dX11_cylinder_39 : decode cX11_cylinder 39 = .ok (.invokevirtual 84, 3) := by decide +kernel
theorem dX11_cylinder_42 : decode cX11_cylinder 42 = .ok (.ifCond .eq 15, 3) := by decide +kernel
theorem dX11_cylinder_45 : decode cX11_cylinder 45 = .ok (.aload_n 0, 1) := by decide +kernel
theorem dX11_cylinder_46 : decode cX11_cylinder 46 = .ok (.getfield 12, 3) := by decide +kernel
theorem dX11_cylinder_49 : decode cX11_cylinder 49 = .ok (.getfield 87, 3) := by decide +kernel
theorem dX11_cylinder_52 : decode cX11_cylinder 52 = .ok (.iconst 1, 1) := by decide +kernel
theorem dX11_cylinder_53 : decode cX11_cylinder 53 = .ok (.isub, 1) := by decide +kernel
theorem dX11_cylinder_54 : decode cX11_cylinder 54 = .ok (.goto 5, 3) := by decide +kernel
theorem dX11_cylinder_57 : decode cX11_cylinder 57 = .ok (.bipush (-4), 2) := by decide +kernel
theorem dX11_cylinder_59 : decode cX11_cylinder 59 = .ok (.ireturn, 1) := by decide +kernel
set_option maxRecDepth 100000 in
theorem ggX11_rule_X4_at : GoodIn wsX11_rule wsX4_at := goodIn_s _ [8, 9, 57, 58, 59, 60, 61] [7] (by decide +kernel) rfl (by decide +kernel)
set_option maxRecDepth 20000 in
theorem gX11_rule_X4_at : GoodIn wsX11_rule (wsV RX11 90 RX4 yX4_at wsX4_at) := goodIn_app (goodIn_of _ (by decide +kernel)) ggX11_rule_X4_at
set_option maxRecDepth 100000 in
theorem ggX11_rule_X11_within : GoodIn wsX11_rule wsX11_within := goodIn_s _ [] [13] (by decide +kernel) rfl (by decide +kernel)
set_option maxRecDepth 20000 in
theorem gX11_rule_X11_within : GoodIn wsX11_rule (va_wsS RX11 73 yX11_within wsX11_within) := goodIn_app (goodIn_of _ (by decide +kernel)) ggX11_rule_X11_within
set_option maxRecDepth 100000 in
theorem ggX11_rule_X0_newCrack : GoodIn wsX11_rule wsX0_newCrack := goodIn_s _ [19, 62, 63, 64, 65, 66, 67, 68, 69, 70, 71, 72, 73, 74, 75, 76, 77, 78, 79, 80, 81, 82] [18] (by decide +kernel) rfl (by decide +kernel)
set_option maxRecDepth 20000 in
theorem gX11_rule_X0_newCrack : GoodIn wsX11_rule (wsV RX11 94 RX0 yX0_newCrack wsX0_newCrack) := goodIn_app (goodIn_of _ (by decide +kernel)) ggX11_rule_X0_newCrack
set_option maxRecDepth 20000 in
theorem gX11_rule_X0_newCrack_u94X2 : GoodIn wsX11_rule (va_wsU RX11 94 RX2 "OilPush$Cylinder" ⟨"OilPush$Cylinder", "newCrack", "(I)I"⟩ yX0_newCrack wsX0_newCrack) := goodIn_app (goodIn_of _ (by decide +kernel)) ggX11_rule_X0_newCrack
set_option maxRecDepth 20000 in
theorem gX11_rule_X0_newCrack_u94X10 : GoodIn wsX11_rule (va_wsU RX11 94 RX10 "OilPush$Cylinder" ⟨"OilPush$Cylinder", "newCrack", "(I)I"⟩ yX0_newCrack wsX0_newCrack) := goodIn_app (goodIn_of _ (by decide +kernel)) ggX11_rule_X0_newCrack
set_option maxRecDepth 100000 in
theorem ggX11_rule_X0_newFlow : GoodIn wsX11_rule wsX0_newFlow := goodIn_s _ [28, 62, 63, 64, 65, 66, 67, 68, 69, 70, 71, 72, 73, 74, 75, 76, 77, 78, 79, 80, 81, 82] [27] (by decide +kernel) rfl (by decide +kernel)
set_option maxRecDepth 20000 in
theorem gX11_rule_X0_newFlow : GoodIn wsX11_rule (wsV RX11 100 RX0 yX0_newFlow wsX0_newFlow) := goodIn_app (goodIn_of _ (by decide +kernel)) ggX11_rule_X0_newFlow
set_option maxRecDepth 20000 in
theorem gX11_rule_X0_newFlow_u100X2 : GoodIn wsX11_rule (va_wsU RX11 100 RX2 "OilPush$Cylinder" ⟨"OilPush$Cylinder", "newFlow", "(I)I"⟩ yX0_newFlow wsX0_newFlow) := goodIn_app (goodIn_of _ (by decide +kernel)) ggX11_rule_X0_newFlow
set_option maxRecDepth 20000 in
theorem gX11_rule_X0_newFlow_u100X10 : GoodIn wsX11_rule (va_wsU RX11 100 RX10 "OilPush$Cylinder" ⟨"OilPush$Cylinder", "newFlow", "(I)I"⟩ yX0_newFlow wsX0_newFlow) := goodIn_app (goodIn_of _ (by decide +kernel)) ggX11_rule_X0_newFlow
set_option maxRecDepth 100000 in
theorem ggX11_rule_X11_swap : GoodIn wsX11_rule wsX11_swap := goodIn_s _ [36, 37, 12, 39, 40] [35, 38, 41] (by decide +kernel) rfl (by decide +kernel)
set_option maxRecDepth 20000 in
theorem gX11_rule_X11_swap : GoodIn wsX11_rule (va_wsS RX11 106 yX11_swap wsX11_swap) := goodIn_app (goodIn_of _ (by decide +kernel)) ggX11_rule_X11_swap
theorem dX11_rule_0 : decode cX11_rule 0 = .ok (.aload_n 0, 1) := by decide +kernel
theorem dX11_rule_1 : decode cX11_rule 1 = .ok (.getfield 12, 3) := by decide +kernel
theorem dX11_rule_4 : decode cX11_rule 4 = .ok (.iload_n 1, 1) := by decide +kernel
theorem dX11_rule_5 : decode cX11_rule 5 = .ok (.invokevirtual 90, 3) := by decide +kernel
theorem dX11_rule_8 : decode cX11_rule 8 = .ok (.astore 4, 2) := by decide +kernel
theorem dX11_rule_10 : decode cX11_rule 10 = .ok (.aload 4, 2) := by decide +kernel
theorem dX11_rule_12 : decode cX11_rule 12 = .ok (.ifnull 12, 3) := by decide +kernel
theorem dX11_rule_15 : decode cX11_rule 15 = .ok (.iload_n 2, 1) := by decide +kernel
theorem dX11_rule_16 : decode cX11_rule 16 = .ok (.iconst 0, 1) := by decide +kernel
theorem dX11_rule_17 : decode cX11_rule 17 = .ok (.iconst 2, 1) := by decide +kernel
theorem dX11_rule_18 : decode cX11_rule 18 = .ok (.invokestatic 73, 3) := by decide +kernel
theorem dX11_rule_21 : decode cX11_rule 21 = .ok (.ifCond .ne 5, 3) := by decide +kernel
theorem dX11_rule_24 : decode cX11_rule 24 = .ok (.iconst (-1), 1) := by decide +kernel
theorem dX11_rule_25 : decode cX11_rule 25 = .ok (.ireturn, 1) := by decide +kernel
theorem dX11_rule_26 : decode cX11_rule 26 = .ok (.iload_n 2, 1) := by decide +kernel
theorem dX11_rule_27 : decode cX11_rule 27 = .ok (.lookupswitch 71 #[(0, 25), (1, 48)], 25) := by decide +kernel
theorem dX11_rule_52 : decode cX11_rule 52 = .ok (.iload_n 3, 1) := by decide +kernel
theorem dX11_rule_53 : decode cX11_rule 53 = .ok (.iconst 0, 1) := by decide +kernel
theorem dX11_rule_54 : decode cX11_rule 54 = .ok (.sipush 500, 3) := by decide +kernel
theorem dX11_rule_57 : decode cX11_rule 57 = .ok (.invokestatic 73, 3) := by decide +kernel
theorem dX11_rule_60 : decode cX11_rule 60 = .ok (.ifCond .eq 12, 3) := by decide +kernel
theorem dX11_rule_63 : decode cX11_rule 63 = .ok (.aload 4, 2) := by decide +kernel
theorem dX11_rule_65 : decode cX11_rule 65 = .ok (.iload_n 3, 1) := by decide +kernel
theorem dX11_rule_66 : decode cX11_rule 66 = .ok (.invokevirtual 94, 3) := by decide +kernel
theorem dX11_rule_69 : decode cX11_rule 69 = .ok (.goto 5, 3) := by decide +kernel
theorem dX11_rule_72 : decode cX11_rule 72 = .ok (.bipush (-2), 2) := by decide +kernel
theorem dX11_rule_74 : decode cX11_rule 74 = .ok (.ireturn, 1) := by decide +kernel
theorem dX11_rule_75 : decode cX11_rule 75 = .ok (.iload_n 3, 1) := by decide +kernel
theorem dX11_rule_76 : decode cX11_rule 76 = .ok (.iconst 1, 1) := by decide +kernel
theorem dX11_rule_77 : decode cX11_rule 77 = .ok (.sipush 1000, 3) := by decide +kernel
theorem dX11_rule_80 : decode cX11_rule 80 = .ok (.invokestatic 73, 3) := by decide +kernel
theorem dX11_rule_83 : decode cX11_rule 83 = .ok (.ifCond .eq 12, 3) := by decide +kernel
theorem dX11_rule_86 : decode cX11_rule 86 = .ok (.aload 4, 2) := by decide +kernel
theorem dX11_rule_88 : decode cX11_rule 88 = .ok (.iload_n 3, 1) := by decide +kernel
theorem dX11_rule_89 : decode cX11_rule 89 = .ok (.invokevirtual 100, 3) := by decide +kernel
theorem dX11_rule_92 : decode cX11_rule 92 = .ok (.goto 5, 3) := by decide +kernel
theorem dX11_rule_95 : decode cX11_rule 95 = .ok (.bipush (-2), 2) := by decide +kernel
theorem dX11_rule_97 : decode cX11_rule 97 = .ok (.ireturn, 1) := by decide +kernel
theorem dX11_rule_98 : decode cX11_rule 98 = .ok (.iload_n 3, 1) := by decide +kernel
theorem dX11_rule_99 : decode cX11_rule 99 = .ok (.iconst 0, 1) := by decide +kernel
theorem dX11_rule_100 : decode cX11_rule 100 = .ok (.bipush 100, 2) := by decide +kernel
theorem dX11_rule_102 : decode cX11_rule 102 = .ok (.invokestatic 73, 3) := by decide +kernel
theorem dX11_rule_105 : decode cX11_rule 105 = .ok (.ifCond .eq 18, 3) := by decide +kernel
theorem dX11_rule_108 : decode cX11_rule 108 = .ok (.aload_n 0, 1) := by decide +kernel
theorem dX11_rule_109 : decode cX11_rule 109 = .ok (.getfield 12, 3) := by decide +kernel
theorem dX11_rule_112 : decode cX11_rule 112 = .ok (.getfield 103, 3) := by decide +kernel
theorem dX11_rule_115 : decode cX11_rule 115 = .ok (.iload_n 1, 1) := by decide +kernel
theorem dX11_rule_116 : decode cX11_rule 116 = .ok (.iload_n 3, 1) := by decide +kernel
theorem dX11_rule_117 : decode cX11_rule 117 = .ok (.invokestatic 106, 3) := by decide +kernel
theorem dX11_rule_120 : decode cX11_rule 120 = .ok (.goto 5, 3) := by decide +kernel
theorem dX11_rule_123 : decode cX11_rule 123 = .ok (.bipush (-2), 2) := by decide +kernel
theorem dX11_rule_125 : decode cX11_rule 125 = .ok (.ireturn, 1) := by decide +kernel
set_option maxRecDepth 100000 in
theorem ggX11_loads_X4_at : GoodIn wsX11_loads wsX4_at := goodIn_s _ [10, 11, 79, 80, 81, 82, 83] [9] (by decide +kernel) rfl (by decide +kernel)
set_option maxRecDepth 20000 in
theorem gX11_loads_X4_at : GoodIn wsX11_loads (wsV RX11 90 RX4 yX4_at wsX4_at) := goodIn_app (goodIn_of _ (by decide +kernel)) ggX11_loads_X4_at
set_option maxRecDepth 100000 in
theorem ggX11_loads_X11_sheetAt : GoodIn wsX11_loads wsX11_sheetAt := goodIn_s _ [17, 60, 61, 62, 63, 64, 65, 66, 67, 68, 69, 70, 71, 72, 73, 74] [16] (by decide +kernel) rfl (by decide +kernel)
set_option maxRecDepth 20000 in
theorem gX11_loads_X11_sheetAt : GoodIn wsX11_loads (wsV RX11 113 RX11 yX11_sheetAt wsX11_sheetAt) := goodIn_app (goodIn_of _ (by decide +kernel)) ggX11_loads_X11_sheetAt
set_option maxRecDepth 100000 in
theorem ggX11_loads_X11_isLane : GoodIn wsX11_loads wsX11_isLane := goodIn_s _ [21, 22, 15] [20, 23] (by decide +kernel) rfl (by decide +kernel)
set_option maxRecDepth 20000 in
theorem gX11_loads_X11_isLane : GoodIn wsX11_loads (va_wsS RX11 117 yX11_isLane wsX11_isLane) := goodIn_app (goodIn_of _ (by decide +kernel)) ggX11_loads_X11_isLane
set_option maxRecDepth 100000 in
theorem ggX11_loads_X6_faultTakenAs : GoodIn wsX11_loads wsX6_faultTakenAs := goodIn_s _ [29, 30, 75, 76, 77, 78] [28] (by decide +kernel) rfl (by decide +kernel)
set_option maxRecDepth 20000 in
theorem gX11_loads_X6_faultTakenAs : GoodIn wsX11_loads (wsV RX11 121 RX6 yX6_faultTakenAs wsX6_faultTakenAs) := goodIn_app (goodIn_of _ (by decide +kernel)) ggX11_loads_X6_faultTakenAs
set_option maxRecDepth 100000 in
theorem ggX11_loads_X11_faulted : GoodIn wsX11_loads wsX11_faulted := goodIn_s _ [1, 60, 61, 62, 63, 64, 65, 66, 67, 68, 69, 70, 71, 72, 73, 74] [34] (by decide +kernel) rfl (by decide +kernel)
set_option maxRecDepth 20000 in
theorem gX11_loads_X11_faulted : GoodIn wsX11_loads (wsV RX11 124 RX11 yX11_faulted wsX11_faulted) := goodIn_app (goodIn_of _ (by decide +kernel)) ggX11_loads_X11_faulted
set_option maxRecDepth 100000 in
theorem ggX11_loads_X6_holds : GoodIn wsX11_loads wsX6_holds := goodIn_s _ [39, 75, 76, 77, 78] [38] (by decide +kernel) rfl (by decide +kernel)
set_option maxRecDepth 20000 in
theorem gX11_loads_X6_holds : GoodIn wsX11_loads (wsV RX11 127 RX6 yX6_holds wsX6_holds) := goodIn_app (goodIn_of _ (by decide +kernel)) ggX11_loads_X6_holds
set_option maxRecDepth 100000 in
theorem ggX11_loads_X11_within : GoodIn wsX11_loads wsX11_within := goodIn_s _ [] [23] (by decide +kernel) rfl (by decide +kernel)
set_option maxRecDepth 20000 in
theorem gX11_loads_X11_within : GoodIn wsX11_loads (va_wsS RX11 73 yX11_within wsX11_within) := goodIn_app (goodIn_of _ (by decide +kernel)) ggX11_loads_X11_within
set_option maxRecDepth 100000 in
theorem ggX11_loads_X6_areAllWithin : GoodIn wsX11_loads wsX6_areAllWithin := goodIn_s _ [44, 45, 15, 22, 75, 76, 77, 78] [43, 46, 23] (by decide +kernel) rfl (by decide +kernel)
set_option maxRecDepth 20000 in
theorem gX11_loads_X6_areAllWithin : GoodIn wsX11_loads (wsV RX11 132 RX6 yX6_areAllWithin wsX6_areAllWithin) := goodIn_app (goodIn_of _ (by decide +kernel)) ggX11_loads_X6_areAllWithin
set_option maxRecDepth 100000 in
theorem ggX11_loads_X0_newLoads : GoodIn wsX11_loads wsX0_newLoads := goodIn_s _ [52, 53, 45, 15, 54, 84, 85, 86, 87, 88, 89, 90, 91, 92, 93, 94, 95, 96, 97, 98, 99, 100, 101, 102, 103, 104] [51, 46, 55] (by decide +kernel) rfl (by decide +kernel)
set_option maxRecDepth 20000 in
theorem gX11_loads_X0_newLoads : GoodIn wsX11_loads (wsV RX11 138 RX0 yX0_newLoads wsX0_newLoads) := goodIn_app (goodIn_of _ (by decide +kernel)) ggX11_loads_X0_newLoads
set_option maxRecDepth 20000 in
theorem gX11_loads_X0_newLoads_u138X2 : GoodIn wsX11_loads (va_wsU RX11 138 RX2 "OilPush$Cylinder" ⟨"OilPush$Cylinder", "newLoads", "([III)V"⟩ yX0_newLoads wsX0_newLoads) := goodIn_app (goodIn_of _ (by decide +kernel)) ggX11_loads_X0_newLoads
set_option maxRecDepth 20000 in
theorem gX11_loads_X0_newLoads_u138X10 : GoodIn wsX11_loads (va_wsU RX11 138 RX10 "OilPush$Cylinder" ⟨"OilPush$Cylinder", "newLoads", "([III)V"⟩ yX0_newLoads wsX0_newLoads) := goodIn_app (goodIn_of _ (by decide +kernel)) ggX11_loads_X0_newLoads
theorem dX11_loads_0 : decode cX11_loads 0 = .ok (.aload_n 0, 1) := by decide +kernel
theorem dX11_loads_1 : decode cX11_loads 1 = .ok (.iconst 0, 1) := by decide +kernel
theorem dX11_loads_2 : decode cX11_loads 2 = .ok (.putfield 110, 3) := by decide +kernel
theorem dX11_loads_5 : decode cX11_loads 5 = .ok (.aload_n 0, 1) := by decide +kernel
theorem dX11_loads_6 : decode cX11_loads 6 = .ok (.getfield 12, 3) := by decide +kernel
theorem dX11_loads_9 : decode cX11_loads 9 = .ok (.iload_n 1, 1) := by decide +kernel
theorem dX11_loads_10 : decode cX11_loads 10 = .ok (.invokevirtual 90, 3) := by decide +kernel
theorem dX11_loads_13 : decode cX11_loads 13 = .ok (.astore 6, 2) := by decide +kernel
theorem dX11_loads_15 : decode cX11_loads 15 = .ok (.aload_n 0, 1) := by decide +kernel
theorem dX11_loads_16 : decode cX11_loads 16 = .ok (.iload_n 2, 1) := by decide +kernel
theorem dX11_loads_17 : decode cX11_loads 17 = .ok (.invokevirtual 113, 3) := by decide +kernel
theorem dX11_loads_20 : decode cX11_loads 20 = .ok (.astore 7, 2) := by decide +kernel
theorem dX11_loads_22 : decode cX11_loads 22 = .ok (.aload 6, 2) := by decide +kernel
theorem dX11_loads_24 : decode cX11_loads 24 = .ok (.ifnull 8, 3) := by decide +kernel
theorem dX11_loads_27 : decode cX11_loads 27 = .ok (.aload 7, 2) := by decide +kernel
theorem dX11_loads_29 : decode cX11_loads 29 = .ok (.ifnonnull 5, 3) := by decide +kernel
theorem dX11_loads_32 : decode cX11_loads 32 = .ok (.iconst (-1), 1) := by decide +kernel
theorem dX11_loads_33 : decode cX11_loads 33 = .ok (.ireturn, 1) := by decide +kernel
theorem dX11_loads_34 : decode cX11_loads 34 = .ok (.iload_n 3, 1) := by decide +kernel
theorem dX11_loads_35 : decode cX11_loads 35 = .ok (.invokestatic 117, 3) := by decide +kernel
theorem dX11_loads_38 : decode cX11_loads 38 = .ok (.ifCond .ne 6, 3) := by decide +kernel
theorem dX11_loads_41 : decode cX11_loads 41 = .ok (.bipush (-2), 2) := by decide +kernel
theorem dX11_loads_43 : decode cX11_loads 43 = .ok (.ireturn, 1) := by decide +kernel
theorem dX11_loads_44 : decode cX11_loads 44 = .ok (.aload 7, 2) := by decide +kernel
theorem dX11_loads_46 : decode cX11_loads 46 = .ok (.iload_n 3, 1) := by decide +kernel
theorem dX11_loads_47 : decode cX11_loads 47 = .ok (.invokevirtual 121, 3) := by decide +kernel
theorem dX11_loads_50 : decode cX11_loads 50 = .ok (.istore 8, 2) := by decide +kernel
theorem dX11_loads_52 : decode cX11_loads 52 = .ok (.iload 8, 2) := by decide +kernel
theorem dX11_loads_54 : decode cX11_loads 54 = .ok (.ifCond .eq 10, 3) := by decide +kernel
theorem dX11_loads_57 : decode cX11_loads 57 = .ok (.aload_n 0, 1) := by decide +kernel
theorem dX11_loads_58 : decode cX11_loads 58 = .ok (.iload 8, 2) := by decide +kernel
theorem dX11_loads_60 : decode cX11_loads 60 = .ok (.invokevirtual 124, 3) := by decide +kernel
theorem dX11_loads_63 : decode cX11_loads 63 = .ok (.ireturn, 1) := by decide +kernel
theorem dX11_loads_64 : decode cX11_loads 64 = .ok (.iload 5, 2) := by decide +kernel
theorem dX11_loads_66 : decode cX11_loads 66 = .ok (.ifCond .ge 9, 3) := by decide +kernel
theorem dX11_loads_69 : decode cX11_loads 69 = .ok (.aload_n 0, 1) := by decide +kernel
theorem dX11_loads_70 : decode cX11_loads 70 = .ok (.iconst 4, 1) := by decide +kernel
theorem dX11_loads_71 : decode cX11_loads 71 = .ok (.invokevirtual 124, 3) := by decide +kernel
theorem dX11_loads_74 : decode cX11_loads 74 = .ok (.ireturn, 1) := by decide +kernel
theorem dX11_loads_75 : decode cX11_loads 75 = .ok (.aload 7, 2) := by decide +kernel
theorem dX11_loads_77 : decode cX11_loads 77 = .ok (.iload 4, 2) := by decide +kernel
theorem dX11_loads_79 : decode cX11_loads 79 = .ok (.iload 5, 2) := by decide +kernel
theorem dX11_loads_81 : decode cX11_loads 81 = .ok (.invokevirtual 127, 3) := by decide +kernel
theorem dX11_loads_84 : decode cX11_loads 84 = .ok (.ifCond .ne 9, 3) := by decide +kernel
theorem dX11_loads_87 : decode cX11_loads 87 = .ok (.aload_n 0, 1) := by decide +kernel
theorem dX11_loads_88 : decode cX11_loads 88 = .ok (.iconst 3, 1) := by decide +kernel
theorem dX11_loads_89 : decode cX11_loads 89 = .ok (.invokevirtual 124, 3) := by decide +kernel
theorem dX11_loads_92 : decode cX11_loads 92 = .ok (.ireturn, 1) := by decide +kernel
theorem dX11_loads_93 : decode cX11_loads 93 = .ok (.iload 5, 2) := by decide +kernel
theorem dX11_loads_95 : decode cX11_loads 95 = .ok (.iconst 1, 1) := by decide +kernel
theorem dX11_loads_96 : decode cX11_loads 96 = .ok (.bipush 10, 2) := by decide +kernel
theorem dX11_loads_98 : decode cX11_loads 98 = .ok (.invokestatic 73, 3) := by decide +kernel
theorem dX11_loads_101 : decode cX11_loads 101 = .ok (.ifCond .eq 17, 3) := by decide +kernel
theorem dX11_loads_104 : decode cX11_loads 104 = .ok (.aload 7, 2) := by decide +kernel
theorem dX11_loads_106 : decode cX11_loads 106 = .ok (.iload 4, 2) := by decide +kernel
theorem dX11_loads_108 : decode cX11_loads 108 = .ok (.iload 5, 2) := by decide +kernel
theorem dX11_loads_110 : decode cX11_loads 110 = .ok (.ldc 131, 2) := by decide +kernel
theorem dX11_loads_112 : decode cX11_loads 112 = .ok (.invokevirtual 132, 3) := by decide +kernel
theorem dX11_loads_115 : decode cX11_loads 115 = .ok (.ifCond .ne 6, 3) := by decide +kernel
theorem dX11_loads_118 : decode cX11_loads 118 = .ok (.bipush (-2), 2) := by decide +kernel
theorem dX11_loads_120 : decode cX11_loads 120 = .ok (.ireturn, 1) := by decide +kernel
theorem dX11_loads_121 : decode cX11_loads 121 = .ok (.aload 6, 2) := by decide +kernel
theorem dX11_loads_123 : decode cX11_loads 123 = .ok (.aload 7, 2) := by decide +kernel
theorem dX11_loads_125 : decode cX11_loads 125 = .ok (.getfield 135, 3) := by decide +kernel
theorem dX11_loads_128 : decode cX11_loads 128 = .ok (.iload 4, 2) := by decide +kernel
theorem dX11_loads_130 : decode cX11_loads 130 = .ok (.iload 5, 2) := by decide +kernel
theorem dX11_loads_132 : decode cX11_loads 132 = .ok (.invokevirtual 138, 3) := by decide +kernel
theorem dX11_loads_135 : decode cX11_loads 135 = .ok (.iload 5, 2) := by decide +kernel
theorem dX11_loads_137 : decode cX11_loads 137 = .ok (.ireturn, 1) := by decide +kernel
set_option maxRecDepth 100000 in
theorem ggX11_valve_X4_at : GoodIn wsX11_valve wsX4_at := goodIn_s _ [9, 10, 44, 45, 46, 47, 48] [8] (by decide +kernel) rfl (by decide +kernel)
set_option maxRecDepth 20000 in
theorem gX11_valve_X4_at : GoodIn wsX11_valve (wsV RX11 90 RX4 yX4_at wsX4_at) := goodIn_app (goodIn_of _ (by decide +kernel)) ggX11_valve_X4_at
set_option maxRecDepth 100000 in
theorem ggX11_valve_X11_within : GoodIn wsX11_valve wsX11_within := goodIn_s _ [] [14] (by decide +kernel) rfl (by decide +kernel)
set_option maxRecDepth 20000 in
theorem gX11_valve_X11_within : GoodIn wsX11_valve (va_wsS RX11 73 yX11_within wsX11_within) := goodIn_app (goodIn_of _ (by decide +kernel)) ggX11_valve_X11_within
set_option maxRecDepth 100000 in
theorem ggX11_valve_X11_swap : GoodIn wsX11_valve wsX11_swap := goodIn_s _ [18, 19, 13, 21, 22] [17, 20, 23] (by decide +kernel) rfl (by decide +kernel)
set_option maxRecDepth 20000 in
theorem gX11_valve_X11_swap : GoodIn wsX11_valve (va_wsS RX11 106 yX11_swap wsX11_swap) := goodIn_app (goodIn_of _ (by decide +kernel)) ggX11_valve_X11_swap
theorem dX11_valve_0 : decode cX11_valve 0 = .ok (.aload_n 0, 1) := by decide +kernel
theorem dX11_valve_1 : decode cX11_valve 1 = .ok (.getfield 12, 3) := by decide +kernel
theorem dX11_valve_4 : decode cX11_valve 4 = .ok (.iload_n 1, 1) := by decide +kernel
theorem dX11_valve_5 : decode cX11_valve 5 = .ok (.invokevirtual 90, 3) := by decide +kernel
theorem dX11_valve_8 : decode cX11_valve 8 = .ok (.ifnonnull 5, 3) := by decide +kernel
theorem dX11_valve_11 : decode cX11_valve 11 = .ok (.iconst (-1), 1) := by decide +kernel
theorem dX11_valve_12 : decode cX11_valve 12 = .ok (.ireturn, 1) := by decide +kernel
theorem dX11_valve_13 : decode cX11_valve 13 = .ok (.iload_n 2, 1) := by decide +kernel
theorem dX11_valve_14 : decode cX11_valve 14 = .ok (.iconst 0, 1) := by decide +kernel
theorem dX11_valve_15 : decode cX11_valve 15 = .ok (.iconst 2, 1) := by decide +kernel
theorem dX11_valve_16 : decode cX11_valve 16 = .ok (.invokestatic 73, 3) := by decide +kernel
theorem dX11_valve_19 : decode cX11_valve 19 = .ok (.ifCond .eq 18, 3) := by decide +kernel
theorem dX11_valve_22 : decode cX11_valve 22 = .ok (.aload_n 0, 1) := by decide +kernel
theorem dX11_valve_23 : decode cX11_valve 23 = .ok (.getfield 21, 3) := by decide +kernel
theorem dX11_valve_26 : decode cX11_valve 26 = .ok (.getfield 142, 3) := by decide +kernel
theorem dX11_valve_29 : decode cX11_valve 29 = .ok (.iload_n 1, 1) := by decide +kernel
theorem dX11_valve_30 : decode cX11_valve 30 = .ok (.iload_n 2, 1) := by decide +kernel
theorem dX11_valve_31 : decode cX11_valve 31 = .ok (.invokestatic 106, 3) := by decide +kernel
theorem dX11_valve_34 : decode cX11_valve 34 = .ok (.goto 5, 3) := by decide +kernel
theorem dX11_valve_37 : decode cX11_valve 37 = .ok (.bipush (-2), 2) := by decide +kernel
theorem dX11_valve_39 : decode cX11_valve 39 = .ok (.ireturn, 1) := by decide +kernel
set_option maxRecDepth 100000 in
theorem ggX11_fill_X4_at : GoodIn wsX11_fill wsX4_at := goodIn_s _ [9, 10, 55, 56, 57, 58, 59] [8] (by decide +kernel) rfl (by decide +kernel)
set_option maxRecDepth 20000 in
theorem gX11_fill_X4_at : GoodIn wsX11_fill (wsV RX11 90 RX4 yX4_at wsX4_at) := goodIn_app (goodIn_of _ (by decide +kernel)) ggX11_fill_X4_at
set_option maxRecDepth 100000 in
theorem ggX11_fill_X0_room : GoodIn wsX11_fill wsX0_room := goodIn_s _ [16, 17, 60, 61, 62, 63, 64, 65, 66, 67, 68, 69, 70, 71, 72, 73, 74, 75, 76, 77, 78, 79, 80] [15] (by decide +kernel) rfl (by decide +kernel)
set_option maxRecDepth 20000 in
theorem gX11_fill_X0_room : GoodIn wsX11_fill (wsV RX11 145 RX0 yX0_room wsX0_room) := goodIn_app (goodIn_of _ (by decide +kernel)) ggX11_fill_X0_room
set_option maxRecDepth 20000 in
theorem gX11_fill_X0_room_u145X2 : GoodIn wsX11_fill (va_wsU RX11 145 RX2 "OilPush$Cylinder" ⟨"OilPush$Cylinder", "room", "()I"⟩ yX0_room wsX0_room) := goodIn_app (goodIn_of _ (by decide +kernel)) ggX11_fill_X0_room
set_option maxRecDepth 20000 in
theorem gX11_fill_X0_room_u145X10 : GoodIn wsX11_fill (va_wsU RX11 145 RX10 "OilPush$Cylinder" ⟨"OilPush$Cylinder", "room", "()I"⟩ yX0_room wsX0_room) := goodIn_app (goodIn_of _ (by decide +kernel)) ggX11_fill_X0_room
set_option maxRecDepth 100000 in
theorem ggX11_fill_X11_within : GoodIn wsX11_fill wsX11_within := goodIn_s _ [] [25] (by decide +kernel) rfl (by decide +kernel)
set_option maxRecDepth 20000 in
theorem gX11_fill_X11_within : GoodIn wsX11_fill (va_wsS RX11 73 yX11_within wsX11_within) := goodIn_app (goodIn_of _ (by decide +kernel)) ggX11_fill_X11_within
set_option maxRecDepth 100000 in
theorem ggX11_fill_X11_swap : GoodIn wsX11_fill wsX11_swap := goodIn_s _ [29, 30, 24, 32, 33] [28, 31, 34] (by decide +kernel) rfl (by decide +kernel)
set_option maxRecDepth 20000 in
theorem gX11_fill_X11_swap : GoodIn wsX11_fill (va_wsS RX11 106 yX11_swap wsX11_swap) := goodIn_app (goodIn_of _ (by decide +kernel)) ggX11_fill_X11_swap
theorem dX11_fill_0 : decode cX11_fill 0 = .ok (.aload_n 0, 1) := by decide +kernel
theorem dX11_fill_1 : decode cX11_fill 1 = .ok (.getfield 12, 3) := by decide +kernel
theorem dX11_fill_4 : decode cX11_fill 4 = .ok (.iload_n 1, 1) := by decide +kernel
theorem dX11_fill_5 : decode cX11_fill 5 = .ok (.invokevirtual 90, 3) := by decide +kernel
theorem dX11_fill_8 : decode cX11_fill 8 = .ok (.astore_n 3, 1) := by decide +kernel
theorem dX11_fill_9 : decode cX11_fill 9 = .ok (.aload_n 3, 1) := by decide +kernel
theorem dX11_fill_10 : decode cX11_fill 10 = .ok (.ifnonnull 5, 3) := by decide +kernel
theorem dX11_fill_13 : decode cX11_fill 13 = .ok (.iconst (-1), 1) := by decide +kernel
theorem dX11_fill_14 : decode cX11_fill 14 = .ok (.ireturn, 1) := by decide +kernel
theorem dX11_fill_15 : decode cX11_fill 15 = .ok (.iload_n 2, 1) := by decide +kernel
theorem dX11_fill_16 : decode cX11_fill 16 = .ok (.iconst 0, 1) := by decide +kernel
theorem dX11_fill_17 : decode cX11_fill 17 = .ok (.aload_n 3, 1) := by decide +kernel
theorem dX11_fill_18 : decode cX11_fill 18 = .ok (.invokevirtual 145, 3) := by decide +kernel
theorem dX11_fill_21 : decode cX11_fill 21 = .ok (.invokestatic 73, 3) := by decide +kernel
theorem dX11_fill_24 : decode cX11_fill 24 = .ok (.ifCond .eq 18, 3) := by decide +kernel
theorem dX11_fill_27 : decode cX11_fill 27 = .ok (.aload_n 0, 1) := by decide +kernel
theorem dX11_fill_28 : decode cX11_fill 28 = .ok (.getfield 21, 3) := by decide +kernel
theorem dX11_fill_31 : decode cX11_fill 31 = .ok (.getfield 149, 3) := by decide +kernel
theorem dX11_fill_34 : decode cX11_fill 34 = .ok (.iload_n 1, 1) := by decide +kernel
theorem dX11_fill_35 : decode cX11_fill 35 = .ok (.iload_n 2, 1) := by decide +kernel
theorem dX11_fill_36 : decode cX11_fill 36 = .ok (.invokestatic 106, 3) := by decide +kernel
theorem dX11_fill_39 : decode cX11_fill 39 = .ok (.goto 5, 3) := by decide +kernel
theorem dX11_fill_42 : decode cX11_fill 42 = .ok (.bipush (-2), 2) := by decide +kernel
theorem dX11_fill_44 : decode cX11_fill 44 = .ok (.ireturn, 1) := by decide +kernel
set_option maxRecDepth 100000 in
theorem ggX11_burst_X4_at : GoodIn wsX11_burst wsX4_at := goodIn_s _ [9, 10, 41, 42, 43, 44, 45] [8] (by decide +kernel) rfl (by decide +kernel)
set_option maxRecDepth 20000 in
theorem gX11_burst_X4_at : GoodIn wsX11_burst (wsV RX11 90 RX4 yX4_at wsX4_at) := goodIn_app (goodIn_of _ (by decide +kernel)) ggX11_burst_X4_at
set_option maxRecDepth 100000 in
theorem ggX11_burst_X11_swap : GoodIn wsX11_burst wsX11_swap := goodIn_s _ [15, 16, 13, 18, 19] [14, 17, 20] (by decide +kernel) rfl (by decide +kernel)
end
section
set_option maxRecDepth 20000 in
theorem gX11_burst_X11_swap : GoodIn wsX11_burst (va_wsS RX11 106 yX11_swap wsX11_swap) := goodIn_app (goodIn_of _ (by decide +kernel)) ggX11_burst_X11_swap
theorem dX11_burst_0 : decode cX11_burst 0 = .ok (.aload_n 0, 1) := by decide +kernel
theorem dX11_burst_1 : decode cX11_burst 1 = .ok (.getfield 12, 3) := by decide +kernel
theorem dX11_burst_4 : decode cX11_burst 4 = .ok (.iload_n 1, 1) := by decide +kernel
theorem dX11_burst_5 : decode cX11_burst 5 = .ok (.invokevirtual 90, 3) := by decide +kernel
theorem dX11_burst_8 : decode cX11_burst 8 = .ok (.ifnonnull 5, 3) := by decide +kernel
theorem dX11_burst_11 : decode cX11_burst 11 = .ok (.iconst (-1), 1) := by decide +kernel
theorem dX11_burst_12 : decode cX11_burst 12 = .ok (.ireturn, 1) := by decide +kernel
theorem dX11_burst_13 : decode cX11_burst 13 = .ok (.iload_n 2, 1) := by decide +kernel
theorem dX11_burst_14 : decode cX11_burst 14 = .ok (.ifCond .eq 7, 3) := by decide +kernel
theorem dX11_burst_17 : decode cX11_burst 17 = .ok (.iconst 1, 1) := by decide +kernel
theorem dX11_burst_18 : decode cX11_burst 18 = .ok (.goto 4, 3) := by decide +kernel
theorem dX11_burst_21 : decode cX11_burst 21 = .ok (.iconst 0, 1) := by decide +kernel
theorem dX11_burst_22 : decode cX11_burst 22 = .ok (.istore_n 3, 1) := by decide +kernel
theorem dX11_burst_23 : decode cX11_burst 23 = .ok (.aload_n 0, 1) := by decide +kernel
theorem dX11_burst_24 : decode cX11_burst 24 = .ok (.getfield 21, 3) := by decide +kernel
theorem dX11_burst_27 : decode cX11_burst 27 = .ok (.getfield 152, 3) := by decide +kernel
theorem dX11_burst_30 : decode cX11_burst 30 = .ok (.iload_n 1, 1) := by decide +kernel
theorem dX11_burst_31 : decode cX11_burst 31 = .ok (.iload_n 3, 1) := by decide +kernel
theorem dX11_burst_32 : decode cX11_burst 32 = .ok (.invokestatic 106, 3) := by decide +kernel
theorem dX11_burst_35 : decode cX11_burst 35 = .ok (.iload_n 3, 1) := by decide +kernel
theorem dX11_burst_36 : decode cX11_burst 36 = .ok (.if_icmp .ne 7, 3) := by decide +kernel
theorem dX11_burst_39 : decode cX11_burst 39 = .ok (.iconst 0, 1) := by decide +kernel
theorem dX11_burst_40 : decode cX11_burst 40 = .ok (.goto 4, 3) := by decide +kernel
theorem dX11_burst_43 : decode cX11_burst 43 = .ok (.iconst 1, 1) := by decide +kernel
theorem dX11_burst_44 : decode cX11_burst 44 = .ok (.ireturn, 1) := by decide +kernel
set_option maxRecDepth 100000 in
theorem ggX11_store_X11_within : GoodIn wsX11_store wsX11_within := goodIn_s _ [] [10] (by decide +kernel) rfl (by decide +kernel)
set_option maxRecDepth 20000 in
theorem gX11_store_X11_within : GoodIn wsX11_store (va_wsS RX11 73 yX11_within wsX11_within) := goodIn_app (goodIn_of _ (by decide +kernel)) ggX11_store_X11_within
theorem dX11_store_0 : decode cX11_store 0 = .ok (.iload_n 1, 1) := by decide +kernel
theorem dX11_store_1 : decode cX11_store 1 = .ok (.iconst 0, 1) := by decide +kernel
theorem dX11_store_2 : decode cX11_store 2 = .ok (.sipush 5000, 3) := by decide +kernel
theorem dX11_store_5 : decode cX11_store 5 = .ok (.invokestatic 73, 3) := by decide +kernel
theorem dX11_store_8 : decode cX11_store 8 = .ok (.ifCond .eq 24, 3) := by decide +kernel
theorem dX11_store_11 : decode cX11_store 11 = .ok (.iload_n 2, 1) := by decide +kernel
theorem dX11_store_12 : decode cX11_store 12 = .ok (.iconst 0, 1) := by decide +kernel
theorem dX11_store_13 : decode cX11_store 13 = .ok (.sipush 1000, 3) := by decide +kernel
theorem dX11_store_16 : decode cX11_store 16 = .ok (.invokestatic 73, 3) := by decide +kernel
theorem dX11_store_19 : decode cX11_store 19 = .ok (.ifCond .eq 13, 3) := by decide +kernel
theorem dX11_store_22 : decode cX11_store 22 = .ok (.iload_n 3, 1) := by decide +kernel
theorem dX11_store_23 : decode cX11_store 23 = .ok (.iconst 1, 1) := by decide +kernel
theorem dX11_store_24 : decode cX11_store 24 = .ok (.bipush 100, 2) := by decide +kernel
theorem dX11_store_26 : decode cX11_store 26 = .ok (.invokestatic 73, 3) := by decide +kernel
theorem dX11_store_29 : decode cX11_store 29 = .ok (.ifCond .ne 6, 3) := by decide +kernel
theorem dX11_store_32 : decode cX11_store 32 = .ok (.bipush (-2), 2) := by decide +kernel
theorem dX11_store_34 : decode cX11_store 34 = .ok (.ireturn, 1) := by decide +kernel
theorem dX11_store_35 : decode cX11_store 35 = .ok (.aload_n 0, 1) := by decide +kernel
theorem dX11_store_36 : decode cX11_store 36 = .ok (.getfield 21, 3) := by decide +kernel
theorem dX11_store_39 : decode cX11_store 39 = .ok (.getfield 155, 3) := by decide +kernel
theorem dX11_store_42 : decode cX11_store 42 = .ok (.getfield 159, 3) := by decide +kernel
theorem dX11_store_45 : decode cX11_store 45 = .ok (.iload_n 1, 1) := by decide +kernel
theorem dX11_store_46 : decode cX11_store 46 = .ok (.if_icmp .le 6, 3) := by decide +kernel
theorem dX11_store_49 : decode cX11_store 49 = .ok (.bipush (-3), 2) := by decide +kernel
theorem dX11_store_51 : decode cX11_store 51 = .ok (.ireturn, 1) := by decide +kernel
theorem dX11_store_52 : decode cX11_store 52 = .ok (.aload_n 0, 1) := by decide +kernel
theorem dX11_store_53 : decode cX11_store 53 = .ok (.getfield 21, 3) := by decide +kernel
theorem dX11_store_56 : decode cX11_store 56 = .ok (.getfield 155, 3) := by decide +kernel
theorem dX11_store_59 : decode cX11_store 59 = .ok (.iload_n 1, 1) := by decide +kernel
theorem dX11_store_60 : decode cX11_store 60 = .ok (.putfield 163, 3) := by decide +kernel
theorem dX11_store_63 : decode cX11_store 63 = .ok (.aload_n 0, 1) := by decide +kernel
theorem dX11_store_64 : decode cX11_store 64 = .ok (.getfield 21, 3) := by decide +kernel
theorem dX11_store_67 : decode cX11_store 67 = .ok (.getfield 155, 3) := by decide +kernel
theorem dX11_store_70 : decode cX11_store 70 = .ok (.iload_n 2, 1) := by decide +kernel
theorem dX11_store_71 : decode cX11_store 71 = .ok (.putfield 166, 3) := by decide +kernel
theorem dX11_store_74 : decode cX11_store 74 = .ok (.aload_n 0, 1) := by decide +kernel
theorem dX11_store_75 : decode cX11_store 75 = .ok (.getfield 21, 3) := by decide +kernel
theorem dX11_store_78 : decode cX11_store 78 = .ok (.getfield 155, 3) := by decide +kernel
theorem dX11_store_81 : decode cX11_store 81 = .ok (.iload_n 3, 1) := by decide +kernel
theorem dX11_store_82 : decode cX11_store 82 = .ok (.putfield 169, 3) := by decide +kernel
theorem dX11_store_85 : decode cX11_store 85 = .ok (.iconst 1, 1) := by decide +kernel
theorem dX11_store_86 : decode cX11_store 86 = .ok (.ireturn, 1) := by decide +kernel
set_option maxRecDepth 100000 in
theorem ggX11_about_X4_at : GoodIn wsX11_about wsX4_at := goodIn_s _ [16, 17, 138, 139, 140, 141, 142] [15] (by decide +kernel) rfl (by decide +kernel)
set_option maxRecDepth 20000 in
theorem gX11_about_X4_at : GoodIn wsX11_about (wsV RX11 90 RX4 yX4_at wsX4_at) := goodIn_app (goodIn_of _ (by decide +kernel)) ggX11_about_X4_at
set_option maxRecDepth 100000 in
theorem ggX11_about_X0_kind : GoodIn wsX11_about wsX0_kind := goodIn_s _ [] [22] (by decide +kernel) rfl (by decide +kernel)
set_option maxRecDepth 20000 in
theorem gX11_about_X0_kind : GoodIn wsX11_about (wsV RX11 172 RX0 yX0_kind wsX0_kind) := goodIn_app (goodIn_of _ (by decide +kernel)) ggX11_about_X0_kind
set_option maxRecDepth 100000 in
theorem ggX11_about_X2_kind : GoodIn wsX11_about wsX2_kind := goodIn_s _ [] [29] (by decide +kernel) rfl (by decide +kernel)
set_option maxRecDepth 20000 in
theorem gX11_about_X2_kind_u172X2 : GoodIn wsX11_about (va_wsO RX11 172 RX2 "OilPush$Cylinder" ⟨"OilPush$Cylinder", "kind", "()I"⟩ yX2_kind wsX2_kind) := goodIn_app (goodIn_of _ (by decide +kernel)) ggX11_about_X2_kind
set_option maxRecDepth 100000 in
theorem ggX11_about_X10_kind : GoodIn wsX11_about wsX10_kind := goodIn_s _ [] [33] (by decide +kernel) rfl (by decide +kernel)
set_option maxRecDepth 20000 in
theorem gX11_about_X10_kind_u172X10 : GoodIn wsX11_about (va_wsO RX11 172 RX10 "OilPush$Cylinder" ⟨"OilPush$Cylinder", "kind", "()I"⟩ yX10_kind wsX10_kind) := goodIn_app (goodIn_of _ (by decide +kernel)) ggX11_about_X10_kind
set_option maxRecDepth 100000 in
theorem ggX11_about_X11_get : GoodIn wsX11_about wsX11_get := goodIn_s _ [] [37] (by decide +kernel) rfl (by decide +kernel)
set_option maxRecDepth 20000 in
theorem gX11_about_X11_get : GoodIn wsX11_about (va_wsS RX11 181 yX11_get wsX11_get) := goodIn_app (goodIn_of _ (by decide +kernel)) ggX11_about_X11_get
set_option maxRecDepth 100000 in
theorem ggX11_about_X0_loadAt : GoodIn wsX11_about wsX0_loadAt := goodIn_s _ [42, 43, 44, 45, 46, 48, 49, 50, 21, 52, 53, 54, 55, 56, 57, 35, 36, 99, 100, 101, 102, 103, 104, 105, 106, 107, 108, 109, 110, 111, 112, 113, 114, 115, 116, 117, 118, 119] [41, 47, 51, 37] (by decide +kernel) rfl (by decide +kernel)
set_option maxRecDepth 20000 in
theorem gX11_about_X0_loadAt : GoodIn wsX11_about (wsV RX11 185 RX0 yX0_loadAt wsX0_loadAt) := goodIn_app (goodIn_of _ (by decide +kernel)) ggX11_about_X0_loadAt
set_option maxRecDepth 20000 in
theorem gX11_about_X0_loadAt_u185X2 : GoodIn wsX11_about (va_wsU RX11 185 RX2 "OilPush$Cylinder" ⟨"OilPush$Cylinder", "loadAt", "(I)I"⟩ yX0_loadAt wsX0_loadAt) := goodIn_app (goodIn_of _ (by decide +kernel)) ggX11_about_X0_loadAt
set_option maxRecDepth 20000 in
theorem gX11_about_X0_loadAt_u185X10 : GoodIn wsX11_about (va_wsU RX11 185 RX10 "OilPush$Cylinder" ⟨"OilPush$Cylinder", "loadAt", "(I)I"⟩ yX0_loadAt wsX0_loadAt) := goodIn_app (goodIn_of _ (by decide +kernel)) ggX11_about_X0_loadAt
set_option maxRecDepth 100000 in
theorem ggX11_about_X0_needAt : GoodIn wsX11_about wsX0_needAt := goodIn_s _ [66, 67, 39, 40, 21, 42, 43, 44, 45, 46, 48, 49, 50, 52, 53, 54, 55, 56, 57, 35, 36, 68, 59, 60, 61, 69, 70, 71, 73, 74, 75, 76, 77, 78, 32, 99, 100, 101, 102, 103, 104, 105, 106, 107, 108, 109, 110, 111, 112, 113, 114, 115, 116, 117, 118, 119] [65, 41, 47, 51, 37, 72, 79] (by decide +kernel) rfl (by decide +kernel)
set_option maxRecDepth 20000 in
theorem gX11_about_X0_needAt : GoodIn wsX11_about (wsV RX11 188 RX0 yX0_needAt wsX0_needAt) := goodIn_app (goodIn_of _ (by decide +kernel)) ggX11_about_X0_needAt
set_option maxRecDepth 20000 in
theorem gX11_about_X0_needAt_u188X2 : GoodIn wsX11_about (va_wsU RX11 188 RX2 "OilPush$Cylinder" ⟨"OilPush$Cylinder", "needAt", "(I)I"⟩ yX0_needAt wsX0_needAt) := goodIn_app (goodIn_of _ (by decide +kernel)) ggX11_about_X0_needAt
set_option maxRecDepth 20000 in
theorem gX11_about_X0_needAt_u188X10 : GoodIn wsX11_about (va_wsU RX11 188 RX10 "OilPush$Cylinder" ⟨"OilPush$Cylinder", "needAt", "(I)I"⟩ yX0_needAt wsX0_needAt) := goodIn_app (goodIn_of _ (by decide +kernel)) ggX11_about_X0_needAt
theorem dX11_about_0 : decode cX11_about 0 = .ok (.aload_n 0, 1) := by decide +kernel
theorem dX11_about_1 : decode cX11_about 1 = .ok (.getfield 12, 3) := by decide +kernel
theorem dX11_about_4 : decode cX11_about 4 = .ok (.iload_n 1, 1) := by decide +kernel
theorem dX11_about_5 : decode cX11_about 5 = .ok (.invokevirtual 90, 3) := by decide +kernel
theorem dX11_about_8 : decode cX11_about 8 = .ok (.astore_n 3, 1) := by decide +kernel
theorem dX11_about_9 : decode cX11_about 9 = .ok (.aload_n 3, 1) := by decide +kernel
theorem dX11_about_10 : decode cX11_about 10 = .ok (.ifnonnull 5, 3) := by decide +kernel
theorem dX11_about_13 : decode cX11_about 13 = .ok (.iconst (-1), 1) := by decide +kernel
theorem dX11_about_14 : decode cX11_about 14 = .ok (.ireturn, 1) := by decide +kernel
theorem dX11_about_15 : decode cX11_about 15 = .ok (.iload_n 2, 1) := by decide +kernel
theorem dX11_about_16 : decode cX11_about 16 = .ok (.tableswitch 156 0 9 #[56, 61, 66, 71, 83, 99, 115, 127, 132, 144], 56) := by decide +kernel
theorem dX11_about_72 : decode cX11_about 72 = .ok (.aload_n 3, 1) := by decide +kernel
theorem dX11_about_73 : decode cX11_about 73 = .ok (.invokevirtual 172, 3) := by decide +kernel
theorem dX11_about_76 : decode cX11_about 76 = .ok (.ireturn, 1) := by decide +kernel
theorem dX11_about_77 : decode cX11_about 77 = .ok (.aload_n 3, 1) := by decide +kernel
theorem dX11_about_78 : decode cX11_about 78 = .ok (.getfield 175, 3) := by decide +kernel
theorem dX11_about_81 : decode cX11_about 81 = .ok (.ireturn, 1) := by decide +kernel
theorem dX11_about_82 : decode cX11_about 82 = .ok (.aload_n 3, 1) := by decide +kernel
theorem dX11_about_83 : decode cX11_about 83 = .ok (.getfield 178, 3) := by decide +kernel
theorem dX11_about_86 : decode cX11_about 86 = .ok (.ireturn, 1) := by decide +kernel
theorem dX11_about_87 : decode cX11_about 87 = .ok (.aload_n 0, 1) := by decide +kernel
theorem dX11_about_88 : decode cX11_about 88 = .ok (.getfield 21, 3) := by decide +kernel
theorem dX11_about_91 : decode cX11_about 91 = .ok (.getfield 149, 3) := by decide +kernel
theorem dX11_about_94 : decode cX11_about 94 = .ok (.iload_n 1, 1) := by decide +kernel
theorem dX11_about_95 : decode cX11_about 95 = .ok (.invokestatic 181, 3) := by decide +kernel
theorem dX11_about_98 : decode cX11_about 98 = .ok (.ireturn, 1) := by decide +kernel
theorem dX11_about_99 : decode cX11_about 99 = .ok (.aload_n 3, 1) := by decide +kernel
theorem dX11_about_100 : decode cX11_about 100 = .ok (.aload_n 0, 1) := by decide +kernel
theorem dX11_about_101 : decode cX11_about 101 = .ok (.getfield 21, 3) := by decide +kernel
theorem dX11_about_104 : decode cX11_about 104 = .ok (.getfield 149, 3) := by decide +kernel
theorem dX11_about_107 : decode cX11_about 107 = .ok (.iload_n 1, 1) := by decide +kernel
theorem dX11_about_108 : decode cX11_about 108 = .ok (.invokestatic 181, 3) := by decide +kernel
theorem dX11_about_111 : decode cX11_about 111 = .ok (.invokevirtual 185, 3) := by decide +kernel
theorem dX11_about_114 : decode cX11_about 114 = .ok (.ireturn, 1) := by decide +kernel
theorem dX11_about_115 : decode cX11_about 115 = .ok (.aload_n 3, 1) := by decide +kernel
theorem dX11_about_116 : decode cX11_about 116 = .ok (.aload_n 0, 1) := by decide +kernel
theorem dX11_about_117 : decode cX11_about 117 = .ok (.getfield 21, 3) := by decide +kernel
theorem dX11_about_120 : decode cX11_about 120 = .ok (.getfield 149, 3) := by decide +kernel
theorem dX11_about_123 : decode cX11_about 123 = .ok (.iload_n 1, 1) := by decide +kernel
theorem dX11_about_124 : decode cX11_about 124 = .ok (.invokestatic 181, 3) := by decide +kernel
theorem dX11_about_127 : decode cX11_about 127 = .ok (.invokevirtual 188, 3) := by decide +kernel
theorem dX11_about_130 : decode cX11_about 130 = .ok (.ireturn, 1) := by decide +kernel
theorem dX11_about_131 : decode cX11_about 131 = .ok (.aload_n 0, 1) := by decide +kernel
theorem dX11_about_132 : decode cX11_about 132 = .ok (.getfield 21, 3) := by decide +kernel
theorem dX11_about_135 : decode cX11_about 135 = .ok (.getfield 142, 3) := by decide +kernel
theorem dX11_about_138 : decode cX11_about 138 = .ok (.iload_n 1, 1) := by decide +kernel
theorem dX11_about_139 : decode cX11_about 139 = .ok (.invokestatic 181, 3) := by decide +kernel
theorem dX11_about_142 : decode cX11_about 142 = .ok (.ireturn, 1) := by decide +kernel
theorem dX11_about_143 : decode cX11_about 143 = .ok (.aload_n 3, 1) := by decide +kernel
theorem dX11_about_144 : decode cX11_about 144 = .ok (.getfield 191, 3) := by decide +kernel
theorem dX11_about_147 : decode cX11_about 147 = .ok (.ireturn, 1) := by decide +kernel
theorem dX11_about_148 : decode cX11_about 148 = .ok (.aload_n 0, 1) := by decide +kernel
theorem dX11_about_149 : decode cX11_about 149 = .ok (.getfield 21, 3) := by decide +kernel
theorem dX11_about_152 : decode cX11_about 152 = .ok (.getfield 152, 3) := by decide +kernel
theorem dX11_about_155 : decode cX11_about 155 = .ok (.iload_n 1, 1) := by decide +kernel
theorem dX11_about_156 : decode cX11_about 156 = .ok (.invokestatic 181, 3) := by decide +kernel
theorem dX11_about_159 : decode cX11_about 159 = .ok (.ireturn, 1) := by decide +kernel
theorem dX11_about_160 : decode cX11_about 160 = .ok (.aload_n 0, 1) := by decide +kernel
theorem dX11_about_161 : decode cX11_about 161 = .ok (.getfield 28, 3) := by decide +kernel
theorem dX11_about_164 : decode cX11_about 164 = .ok (.getfield 194, 3) := by decide +kernel
theorem dX11_about_167 : decode cX11_about 167 = .ok (.iload_n 1, 1) := by decide +kernel
theorem dX11_about_168 : decode cX11_about 168 = .ok (.invokestatic 181, 3) := by decide +kernel
theorem dX11_about_171 : decode cX11_about 171 = .ok (.ireturn, 1) := by decide +kernel
theorem dX11_about_172 : decode cX11_about 172 = .ok (.bipush (-2), 2) := by decide +kernel
theorem dX11_about_174 : decode cX11_about 174 = .ok (.ireturn, 1) := by decide +kernel
set_option maxRecDepth 100000 in
theorem ggX11_tick_X11_within : GoodIn wsX11_tick wsX11_within := goodIn_s _ [] [12] (by decide +kernel) rfl (by decide +kernel)
set_option maxRecDepth 20000 in
theorem gX11_tick_X11_within : GoodIn wsX11_tick (va_wsS RX11 73 yX11_within wsX11_within) := goodIn_app (goodIn_of _ (by decide +kernel)) ggX11_tick_X11_within
set_option maxRecDepth 100000 in
theorem ggX11_tick_X3_obey : GoodIn wsX11_tick wsX3_obey := goodIn_s _ [18, 19, 20, 21, 22, 23, 24, 25, 26, 27, 11, 29, 30, 31, 32, 34, 35, 36, 37, 38, 39, 41, 42, 43, 45, 46, 47, 48, 49, 50, 51, 52, 53, 54, 55, 191, 192, 193, 194, 195, 196, 197, 198, 199, 200, 201, 202, 203, 204, 205, 206, 207, 208, 209, 210, 211, 212, 213, 214, 215, 216, 217, 218, 219, 220, 221, 186, 187, 188, 189, 190] [17, 28, 33, 40, 44, 56] (by decide +kernel) rfl (by decide +kernel)
set_option maxRecDepth 20000 in
theorem gX11_tick_X3_obey : GoodIn wsX11_tick (wsV RX11 200 RX3 yX3_obey wsX3_obey) := goodIn_app (goodIn_of _ (by decide +kernel)) ggX11_tick_X3_obey
set_option maxRecDepth 100000 in
theorem ggX11_tick_X1_run : GoodIn wsX11_tick wsX1_run := goodIn_s _ [62, 63, 64, 65, 66, 67, 68, 69, 70, 72, 73, 74, 75, 76, 78, 30, 31, 32, 34, 35, 79, 80, 81, 60, 83, 84, 27, 11, 85, 86, 87, 89, 90, 91, 92, 93, 94, 95, 39, 97, 98, 99, 41, 42, 43, 45, 46, 47, 48, 49, 50, 100, 101, 102, 103, 55, 104, 105, 106, 108, 109, 110, 111, 112, 113, 114, 116, 117, 118, 119, 120, 121, 123, 124, 125, 126, 127, 128, 129, 131, 132, 133, 134, 135, 136, 137, 138, 139, 141, 142, 143, 144, 146, 147, 148, 149, 150, 152, 153, 154, 155, 157, 158, 159, 160, 161, 162, 164, 165, 166, 167, 168, 169, 222, 223, 224, 225, 226, 227, 228, 229, 230, 231, 232, 233, 234, 186, 187, 188, 189, 190, 191, 192, 193, 194, 195, 235, 236, 237, 238, 201, 202, 203, 204, 205, 206, 207, 208, 209, 210, 211, 212, 213, 214, 215, 216, 217, 218, 219, 220, 221] [61, 71, 77, 33, 82, 28, 88, 96, 44, 56, 107, 115, 122, 130, 140, 145, 151, 156, 163, 170] (by decide +kernel) rfl (by decide +kernel)
set_option maxRecDepth 20000 in
theorem gX11_tick_X1_run : GoodIn wsX11_tick (wsV RX11 204 RX1 yX1_run wsX1_run) := goodIn_app (goodIn_of _ (by decide +kernel)) ggX11_tick_X1_run
theorem dX11_tick_0 : decode cX11_tick 0 = .ok (.iload_n 1, 1) := by decide +kernel
theorem dX11_tick_1 : decode cX11_tick 1 = .ok (.iconst 0, 1) := by decide +kernel
theorem dX11_tick_2 : decode cX11_tick 2 = .ok (.sipush 200, 3) := by decide +kernel
theorem dX11_tick_5 : decode cX11_tick 5 = .ok (.invokestatic 73, 3) := by decide +kernel
theorem dX11_tick_8 : decode cX11_tick 8 = .ok (.ifCond .ne 6, 3) := by decide +kernel
theorem dX11_tick_11 : decode cX11_tick 11 = .ok (.bipush (-2), 2) := by decide +kernel
theorem dX11_tick_13 : decode cX11_tick 13 = .ok (.ireturn, 1) := by decide +kernel
theorem dX11_tick_14 : decode cX11_tick 14 = .ok (.aload_n 0, 1) := by decide +kernel
theorem dX11_tick_15 : decode cX11_tick 15 = .ok (.getfield 197, 3) := by decide +kernel
theorem dX11_tick_18 : decode cX11_tick 18 = .ok (.iload_n 1, 1) := by decide +kernel
theorem dX11_tick_19 : decode cX11_tick 19 = .ok (.iadd, 1) := by decide +kernel
theorem dX11_tick_20 : decode cX11_tick 20 = .ok (.ldc 131, 2) := by decide +kernel
theorem dX11_tick_22 : decode cX11_tick 22 = .ok (.if_icmp .le 6, 3) := by decide +kernel
theorem dX11_tick_25 : decode cX11_tick 25 = .ok (.bipush (-3), 2) := by decide +kernel
theorem dX11_tick_27 : decode cX11_tick 27 = .ok (.ireturn, 1) := by decide +kernel
theorem dX11_tick_28 : decode cX11_tick 28 = .ok (.iconst 0, 1) := by decide +kernel
theorem dX11_tick_29 : decode cX11_tick 29 = .ok (.istore_n 2, 1) := by decide +kernel
theorem dX11_tick_30 : decode cX11_tick 30 = .ok (.iload_n 2, 1) := by decide +kernel
theorem dX11_tick_31 : decode cX11_tick 31 = .ok (.iload_n 1, 1) := by decide +kernel
theorem dX11_tick_32 : decode cX11_tick 32 = .ok (.if_icmp .ge 46, 3) := by decide +kernel
theorem dX11_tick_35 : decode cX11_tick 35 = .ok (.aload_n 0, 1) := by decide +kernel
theorem dX11_tick_36 : decode cX11_tick 36 = .ok (.getfield 35, 3) := by decide +kernel
theorem dX11_tick_39 : decode cX11_tick 39 = .ok (.aload_n 0, 1) := by decide +kernel
theorem dX11_tick_40 : decode cX11_tick 40 = .ok (.getfield 12, 3) := by decide +kernel
theorem dX11_tick_43 : decode cX11_tick 43 = .ok (.aload_n 0, 1) := by decide +kernel
theorem dX11_tick_44 : decode cX11_tick 44 = .ok (.getfield 21, 3) := by decide +kernel
theorem dX11_tick_47 : decode cX11_tick 47 = .ok (.invokevirtual 200, 3) := by decide +kernel
theorem dX11_tick_50 : decode cX11_tick 50 = .ok (.aload_n 0, 1) := by decide +kernel
theorem dX11_tick_51 : decode cX11_tick 51 = .ok (.getfield 28, 3) := by decide +kernel
theorem dX11_tick_54 : decode cX11_tick 54 = .ok (.aload_n 0, 1) := by decide +kernel
theorem dX11_tick_55 : decode cX11_tick 55 = .ok (.getfield 12, 3) := by decide +kernel
theorem dX11_tick_58 : decode cX11_tick 58 = .ok (.aload_n 0, 1) := by decide +kernel
theorem dX11_tick_59 : decode cX11_tick 59 = .ok (.getfield 21, 3) := by decide +kernel
theorem dX11_tick_62 : decode cX11_tick 62 = .ok (.aload_n 0, 1) := by decide +kernel
theorem dX11_tick_63 : decode cX11_tick 63 = .ok (.getfield 12, 3) := by decide +kernel
theorem dX11_tick_66 : decode cX11_tick 66 = .ok (.getfield 103, 3) := by decide +kernel
theorem dX11_tick_69 : decode cX11_tick 69 = .ok (.invokevirtual 204, 3) := by decide +kernel
theorem dX11_tick_72 : decode cX11_tick 72 = .ok (.iinc 2 1, 3) := by decide +kernel
theorem dX11_tick_75 : decode cX11_tick 75 = .ok (.goto (-45), 3) := by decide +kernel
theorem dX11_tick_78 : decode cX11_tick 78 = .ok (.aload_n 0, 1) := by decide +kernel
theorem dX11_tick_79 : decode cX11_tick 79 = .ok (.dup, 1) := by decide +kernel
theorem dX11_tick_80 : decode cX11_tick 80 = .ok (.getfield 197, 3) := by decide +kernel
theorem dX11_tick_83 : decode cX11_tick 83 = .ok (.iload_n 1, 1) := by decide +kernel
theorem dX11_tick_84 : decode cX11_tick 84 = .ok (.iadd, 1) := by decide +kernel
theorem dX11_tick_85 : decode cX11_tick 85 = .ok (.putfield 197, 3) := by decide +kernel
theorem dX11_tick_88 : decode cX11_tick 88 = .ok (.aload_n 0, 1) := by decide +kernel
theorem dX11_tick_89 : decode cX11_tick 89 = .ok (.aload_n 0, 1) := by decide +kernel
theorem dX11_tick_90 : decode cX11_tick 90 = .ok (.getfield 208, 3) := by decide +kernel
theorem dX11_tick_93 : decode cX11_tick 93 = .ok (.ifCond .ne 7, 3) := by decide +kernel
theorem dX11_tick_96 : decode cX11_tick 96 = .ok (.iload_n 1, 1) := by decide +kernel
theorem dX11_tick_97 : decode cX11_tick 97 = .ok (.ifCond .le 7, 3) := by decide +kernel
theorem dX11_tick_100 : decode cX11_tick 100 = .ok (.iconst 1, 1) := by decide +kernel
theorem dX11_tick_101 : decode cX11_tick 101 = .ok (.goto 4, 3) := by decide +kernel
theorem dX11_tick_104 : decode cX11_tick 104 = .ok (.iconst 0, 1) := by decide +kernel
theorem dX11_tick_105 : decode cX11_tick 105 = .ok (.putfield 208, 3) := by decide +kernel
theorem dX11_tick_108 : decode cX11_tick 108 = .ok (.aload_n 0, 1) := by decide +kernel
theorem dX11_tick_109 : decode cX11_tick 109 = .ok (.getfield 197, 3) := by decide +kernel
theorem dX11_tick_112 : decode cX11_tick 112 = .ok (.ireturn, 1) := by decide +kernel
set_option maxRecDepth 100000 in
theorem ggX11_gauge_X11_within : GoodIn wsX11_gauge wsX11_within := goodIn_s _ [] [10] (by decide +kernel) rfl (by decide +kernel)
set_option maxRecDepth 20000 in
theorem gX11_gauge_X11_within : GoodIn wsX11_gauge (va_wsS RX11 73 yX11_within wsX11_within) := goodIn_app (goodIn_of _ (by decide +kernel)) ggX11_gauge_X11_within
theorem dX11_gauge_0 : decode cX11_gauge 0 = .ok (.iload_n 1, 1) := by decide +kernel
theorem dX11_gauge_1 : decode cX11_gauge 1 = .ok (.iconst 0, 1) := by decide +kernel
theorem dX11_gauge_2 : decode cX11_gauge 2 = .ok (.iconst 3, 1) := by decide +kernel
theorem dX11_gauge_3 : decode cX11_gauge 3 = .ok (.invokestatic 73, 3) := by decide +kernel
theorem dX11_gauge_6 : decode cX11_gauge 6 = .ok (.ifCond .ne 6, 3) := by decide +kernel
theorem dX11_gauge_9 : decode cX11_gauge 9 = .ok (.bipush (-2), 2) := by decide +kernel
theorem dX11_gauge_11 : decode cX11_gauge 11 = .ok (.ireturn, 1) := by decide +kernel
theorem dX11_gauge_12 : decode cX11_gauge 12 = .ok (.aload_n 0, 1) := by decide +kernel
theorem dX11_gauge_13 : decode cX11_gauge 13 = .ok (.getfield 208, 3) := by decide +kernel
theorem dX11_gauge_16 : decode cX11_gauge 16 = .ok (.ifCond .ne 6, 3) := by decide +kernel
theorem dX11_gauge_19 : decode cX11_gauge 19 = .ok (.bipush (-3), 2) := by decide +kernel
theorem dX11_gauge_21 : decode cX11_gauge 21 = .ok (.ireturn, 1) := by decide +kernel
theorem dX11_gauge_22 : decode cX11_gauge 22 = .ok (.iload_n 1, 1) := by decide +kernel
theorem dX11_gauge_23 : decode cX11_gauge 23 = .ok (.tableswitch 49 0 2 #[25, 33, 41], 25) := by decide +kernel
theorem dX11_gauge_48 : decode cX11_gauge 48 = .ok (.aload_n 0, 1) := by decide +kernel
theorem dX11_gauge_49 : decode cX11_gauge 49 = .ok (.getfield 28, 3) := by decide +kernel
theorem dX11_gauge_52 : decode cX11_gauge 52 = .ok (.getfield 212, 3) := by decide +kernel
theorem dX11_gauge_55 : decode cX11_gauge 55 = .ok (.ireturn, 1) := by decide +kernel
theorem dX11_gauge_56 : decode cX11_gauge 56 = .ok (.aload_n 0, 1) := by decide +kernel
theorem dX11_gauge_57 : decode cX11_gauge 57 = .ok (.getfield 28, 3) := by decide +kernel
theorem dX11_gauge_60 : decode cX11_gauge 60 = .ok (.getfield 215, 3) := by decide +kernel
theorem dX11_gauge_63 : decode cX11_gauge 63 = .ok (.ireturn, 1) := by decide +kernel
theorem dX11_gauge_64 : decode cX11_gauge 64 = .ok (.aload_n 0, 1) := by decide +kernel
theorem dX11_gauge_65 : decode cX11_gauge 65 = .ok (.getfield 28, 3) := by decide +kernel
theorem dX11_gauge_68 : decode cX11_gauge 68 = .ok (.getfield 218, 3) := by decide +kernel
theorem dX11_gauge_71 : decode cX11_gauge 71 = .ok (.ireturn, 1) := by decide +kernel
theorem dX11_gauge_72 : decode cX11_gauge 72 = .ok (.aload_n 0, 1) := by decide +kernel
theorem dX11_gauge_73 : decode cX11_gauge 73 = .ok (.getfield 28, 3) := by decide +kernel
theorem dX11_gauge_76 : decode cX11_gauge 76 = .ok (.getfield 221, 3) := by decide +kernel
theorem dX11_gauge_79 : decode cX11_gauge 79 = .ok (.ireturn, 1) := by decide +kernel
set_option maxRecDepth 100000 in
theorem ggX11_mover_X11_within : GoodIn wsX11_mover wsX11_within := goodIn_s _ [] [7] (by decide +kernel) rfl (by decide +kernel)
set_option maxRecDepth 20000 in
theorem gX11_mover_X11_within : GoodIn wsX11_mover (va_wsS RX11 73 yX11_within wsX11_within) := goodIn_app (goodIn_of _ (by decide +kernel)) ggX11_mover_X11_within
set_option maxRecDepth 100000 in
theorem ggX11_mover_X11_get : GoodIn wsX11_mover wsX11_get := goodIn_s _ [] [10] (by decide +kernel) rfl (by decide +kernel)
set_option maxRecDepth 20000 in
theorem gX11_mover_X11_get : GoodIn wsX11_mover (va_wsS RX11 181 yX11_get wsX11_get) := goodIn_app (goodIn_of _ (by decide +kernel)) ggX11_mover_X11_get
theorem dX11_mover_0 : decode cX11_mover 0 = .ok (.iload_n 1, 1) := by decide +kernel
theorem dX11_mover_1 : decode cX11_mover 1 = .ok (.iconst 0, 1) := by decide +kernel
theorem dX11_mover_2 : decode cX11_mover 2 = .ok (.aload_n 0, 1) := by decide +kernel
theorem dX11_mover_3 : decode cX11_mover 3 = .ok (.getfield 28, 3) := by decide +kernel
theorem dX11_mover_6 : decode cX11_mover 6 = .ok (.getfield 221, 3) := by decide +kernel
theorem dX11_mover_9 : decode cX11_mover 9 = .ok (.iconst 1, 1) := by decide +kernel
theorem dX11_mover_10 : decode cX11_mover 10 = .ok (.isub, 1) := by decide +kernel
theorem dX11_mover_11 : decode cX11_mover 11 = .ok (.invokestatic 73, 3) := by decide +kernel
theorem dX11_mover_14 : decode cX11_mover 14 = .ok (.ifCond .eq 17, 3) := by decide +kernel
theorem dX11_mover_17 : decode cX11_mover 17 = .ok (.aload_n 0, 1) := by decide +kernel
theorem dX11_mover_18 : decode cX11_mover 18 = .ok (.getfield 28, 3) := by decide +kernel
theorem dX11_mover_21 : decode cX11_mover 21 = .ok (.getfield 224, 3) := by decide +kernel
theorem dX11_mover_24 : decode cX11_mover 24 = .ok (.iload_n 1, 1) := by decide +kernel
theorem dX11_mover_25 : decode cX11_mover 25 = .ok (.invokestatic 181, 3) := by decide +kernel
theorem dX11_mover_28 : decode cX11_mover 28 = .ok (.goto 4, 3) := by decide +kernel
theorem dX11_mover_31 : decode cX11_mover 31 = .ok (.iconst (-1), 1) := by decide +kernel
theorem dX11_mover_32 : decode cX11_mover 32 = .ok (.ireturn, 1) := by decide +kernel
set_option maxRecDepth 100000 in
theorem ggX11_sum_X8_pressure : GoodIn wsX11_sum wsX8_pressure := goodIn_s _ [14, 15, 16, 50, 51, 52, 53] [13] (by decide +kernel) rfl (by decide +kernel)
set_option maxRecDepth 20000 in
theorem gX11_sum_X8_pressure : GoodIn wsX11_sum (wsV RX11 237 RX8 yX8_pressure wsX8_pressure) := goodIn_app (goodIn_of _ (by decide +kernel)) ggX11_sum_X8_pressure
theorem dX11_sum_0 : decode cX11_sum 0 = .ok (.iload_n 1, 1) := by decide +kernel
theorem dX11_sum_1 : decode cX11_sum 1 = .ok (.tableswitch 83 0 4 #[35, 43, 51, 59, 71], 35) := by decide +kernel
theorem dX11_sum_36 : decode cX11_sum 36 = .ok (.aload_n 0, 1) := by decide +kernel
theorem dX11_sum_37 : decode cX11_sum 37 = .ok (.getfield 28, 3) := by decide +kernel
theorem dX11_sum_40 : decode cX11_sum 40 = .ok (.getfield 227, 3) := by decide +kernel
theorem dX11_sum_43 : decode cX11_sum 43 = .ok (.lreturn, 1) := by decide +kernel
theorem dX11_sum_44 : decode cX11_sum 44 = .ok (.aload_n 0, 1) := by decide +kernel
theorem dX11_sum_45 : decode cX11_sum 45 = .ok (.getfield 28, 3) := by decide +kernel
theorem dX11_sum_48 : decode cX11_sum 48 = .ok (.getfield 231, 3) := by decide +kernel
theorem dX11_sum_51 : decode cX11_sum 51 = .ok (.lreturn, 1) := by decide +kernel
theorem dX11_sum_52 : decode cX11_sum 52 = .ok (.aload_n 0, 1) := by decide +kernel
theorem dX11_sum_53 : decode cX11_sum 53 = .ok (.getfield 28, 3) := by decide +kernel
theorem dX11_sum_56 : decode cX11_sum 56 = .ok (.getfield 234, 3) := by decide +kernel
theorem dX11_sum_59 : decode cX11_sum 59 = .ok (.lreturn, 1) := by decide +kernel
theorem dX11_sum_60 : decode cX11_sum 60 = .ok (.aload_n 0, 1) := by decide +kernel
theorem dX11_sum_61 : decode cX11_sum 61 = .ok (.getfield 21, 3) := by decide +kernel
theorem dX11_sum_64 : decode cX11_sum 64 = .ok (.getfield 155, 3) := by decide +kernel
theorem dX11_sum_67 : decode cX11_sum 67 = .ok (.getfield 159, 3) := by decide +kernel
theorem dX11_sum_70 : decode cX11_sum 70 = .ok (.i2l, 1) := by decide +kernel
theorem dX11_sum_71 : decode cX11_sum 71 = .ok (.lreturn, 1) := by decide +kernel
theorem dX11_sum_72 : decode cX11_sum 72 = .ok (.aload_n 0, 1) := by decide +kernel
theorem dX11_sum_73 : decode cX11_sum 73 = .ok (.getfield 21, 3) := by decide +kernel
theorem dX11_sum_76 : decode cX11_sum 76 = .ok (.getfield 155, 3) := by decide +kernel
theorem dX11_sum_79 : decode cX11_sum 79 = .ok (.invokevirtual 237, 3) := by decide +kernel
theorem dX11_sum_82 : decode cX11_sum 82 = .ok (.i2l, 1) := by decide +kernel
theorem dX11_sum_83 : decode cX11_sum 83 = .ok (.lreturn, 1) := by decide +kernel
theorem dX11_sum_84 : decode cX11_sum 84 = .ok (.ldc2_w 239, 3) := by decide +kernel
theorem dX11_sum_87 : decode cX11_sum 87 = .ok (.lreturn, 1) := by decide +kernel
set_option maxRecDepth 100000 in
theorem ggX11_order_X4_at : GoodIn wsX11_order wsX4_at := goodIn_s _ [9, 10, 47, 48, 49, 50, 51] [8] (by decide +kernel) rfl (by decide +kernel)
set_option maxRecDepth 20000 in
theorem gX11_order_X4_at : GoodIn wsX11_order (wsV RX11 90 RX4 yX4_at wsX4_at) := goodIn_app (goodIn_of _ (by decide +kernel)) ggX11_order_X4_at
set_option maxRecDepth 100000 in
theorem ggX11_order_X11_within : GoodIn wsX11_order wsX11_within := goodIn_s _ [] [14] (by decide +kernel) rfl (by decide +kernel)
set_option maxRecDepth 20000 in
theorem gX11_order_X11_within : GoodIn wsX11_order (va_wsS RX11 73 yX11_within wsX11_within) := goodIn_app (goodIn_of _ (by decide +kernel)) ggX11_order_X11_within
set_option maxRecDepth 100000 in
theorem ggX11_order_X3_add : GoodIn wsX11_order wsX3_add := goodIn_s _ [20, 21, 22, 23, 24, 25, 13, 42, 43, 44, 45, 46] [19, 26] (by decide +kernel) rfl (by decide +kernel)
set_option maxRecDepth 20000 in
theorem gX11_order_X3_add : GoodIn wsX11_order (wsV RX11 241 RX3 yX3_add wsX3_add) := goodIn_app (goodIn_of _ (by decide +kernel)) ggX11_order_X3_add
theorem dX11_order_0 : decode cX11_order 0 = .ok (.aload_n 0, 1) := by decide +kernel
theorem dX11_order_1 : decode cX11_order 1 = .ok (.getfield 12, 3) := by decide +kernel
theorem dX11_order_4 : decode cX11_order 4 = .ok (.iload_n 1, 1) := by decide +kernel
theorem dX11_order_5 : decode cX11_order 5 = .ok (.invokevirtual 90, 3) := by decide +kernel
theorem dX11_order_8 : decode cX11_order 8 = .ok (.ifnull 14, 3) := by decide +kernel
theorem dX11_order_11 : decode cX11_order 11 = .ok (.aload_n 0, 1) := by decide +kernel
theorem dX11_order_12 : decode cX11_order 12 = .ok (.getfield 12, 3) := by decide +kernel
theorem dX11_order_15 : decode cX11_order 15 = .ok (.iload_n 3, 1) := by decide +kernel
theorem dX11_order_16 : decode cX11_order 16 = .ok (.invokevirtual 90, 3) := by decide +kernel
theorem dX11_order_19 : decode cX11_order 19 = .ok (.ifnonnull 5, 3) := by decide +kernel
theorem dX11_order_22 : decode cX11_order 22 = .ok (.iconst (-1), 1) := by decide +kernel
theorem dX11_order_23 : decode cX11_order 23 = .ok (.ireturn, 1) := by decide +kernel
theorem dX11_order_24 : decode cX11_order 24 = .ok (.iload_n 2, 1) := by decide +kernel
theorem dX11_order_25 : decode cX11_order 25 = .ok (.iconst 0, 1) := by decide +kernel
theorem dX11_order_26 : decode cX11_order 26 = .ok (.iconst 2, 1) := by decide +kernel
theorem dX11_order_27 : decode cX11_order 27 = .ok (.invokestatic 73, 3) := by decide +kernel
theorem dX11_order_30 : decode cX11_order 30 = .ok (.ifCond .eq 13, 3) := by decide +kernel
theorem dX11_order_33 : decode cX11_order 33 = .ok (.iload 4, 2) := by decide +kernel
theorem dX11_order_35 : decode cX11_order 35 = .ok (.iconst 0, 1) := by decide +kernel
theorem dX11_order_36 : decode cX11_order 36 = .ok (.iconst 2, 1) := by decide +kernel
theorem dX11_order_37 : decode cX11_order 37 = .ok (.invokestatic 73, 3) := by decide +kernel
theorem dX11_order_40 : decode cX11_order 40 = .ok (.ifCond .ne 6, 3) := by decide +kernel
theorem dX11_order_43 : decode cX11_order 43 = .ok (.bipush (-2), 2) := by decide +kernel
theorem dX11_order_45 : decode cX11_order 45 = .ok (.ireturn, 1) := by decide +kernel
theorem dX11_order_46 : decode cX11_order 46 = .ok (.aload_n 0, 1) := by decide +kernel
theorem dX11_order_47 : decode cX11_order 47 = .ok (.getfield 35, 3) := by decide +kernel
theorem dX11_order_50 : decode cX11_order 50 = .ok (.iload_n 1, 1) := by decide +kernel
theorem dX11_order_51 : decode cX11_order 51 = .ok (.iload_n 2, 1) := by decide +kernel
theorem dX11_order_52 : decode cX11_order 52 = .ok (.iload_n 3, 1) := by decide +kernel
theorem dX11_order_53 : decode cX11_order 53 = .ok (.iload 4, 2) := by decide +kernel
theorem dX11_order_55 : decode cX11_order 55 = .ok (.invokevirtual 241, 3) := by decide +kernel
theorem dX11_order_58 : decode cX11_order 58 = .ok (.ifCond .eq 13, 3) := by decide +kernel
theorem dX11_order_61 : decode cX11_order 61 = .ok (.aload_n 0, 1) := by decide +kernel
theorem dX11_order_62 : decode cX11_order 62 = .ok (.getfield 35, 3) := by decide +kernel
theorem dX11_order_65 : decode cX11_order 65 = .ok (.getfield 244, 3) := by decide +kernel
theorem dX11_order_68 : decode cX11_order 68 = .ok (.goto 5, 3) := by decide +kernel
theorem dX11_order_71 : decode cX11_order 71 = .ok (.bipush (-4), 2) := by decide +kernel
theorem dX11_order_73 : decode cX11_order 73 = .ok (.ireturn, 1) := by decide +kernel
theorem dX11_waits_0 : decode cX11_waits 0 = .ok (.aload_n 0, 1) := by decide +kernel
theorem dX11_waits_1 : decode cX11_waits 1 = .ok (.getfield 21, 3) := by decide +kernel
theorem dX11_waits_4 : decode cX11_waits 4 = .ok (.getfield 245, 3) := by decide +kernel
theorem dX11_waits_7 : decode cX11_waits 7 = .ok (.ireturn, 1) := by decide +kernel
set_option maxRecDepth 100000 in
theorem ggX11_start_X7_become : GoodIn wsX11_start wsX7_become := goodIn_s _ [10, 11, 12, 13, 14, 15, 16, 18, 20, 21, 22, 23, 25, 26, 27, 28, 44, 45, 46, 47, 48, 49, 50, 51, 52] [9, 17, 19, 24] (by decide +kernel) rfl (by decide +kernel)
set_option maxRecDepth 20000 in
theorem gX11_start_X7_become : GoodIn wsX11_start (wsV RX11 248 RX7 yX7_become wsX7_become) := goodIn_app (goodIn_of _ (by decide +kernel)) ggX11_start_X7_become
theorem dX11_start_0 : decode cX11_start 0 = .ok (.aload_n 0, 1) := by decide +kernel
theorem dX11_start_1 : decode cX11_start 1 = .ok (.getfield 39, 3) := by decide +kernel
theorem dX11_start_4 : decode cX11_start 4 = .ok (.aload_n 0, 1) := by decide +kernel
theorem dX11_start_5 : decode cX11_start 5 = .ok (.getfield 21, 3) := by decide +kernel
theorem dX11_start_8 : decode cX11_start 8 = .ok (.invokevirtual 248, 3) := by decide +kernel
theorem dX11_start_11 : decode cX11_start 11 = .ok (.aload_n 0, 1) := by decide +kernel
theorem dX11_start_12 : decode cX11_start 12 = .ok (.iconst 1, 1) := by decide +kernel
theorem dX11_start_13 : decode cX11_start 13 = .ok (.putfield 252, 3) := by decide +kernel
theorem dX11_start_16 : decode cX11_start 16 = .ok (.aload_n 0, 1) := by decide +kernel
theorem dX11_start_17 : decode cX11_start 17 = .ok (.iconst 0, 1) := by decide +kernel
theorem dX11_start_18 : decode cX11_start 18 = .ok (.putfield 197, 3) := by decide +kernel
theorem dX11_start_21 : decode cX11_start 21 = .ok (.iconst 1, 1) := by decide +kernel
theorem dX11_start_22 : decode cX11_start 22 = .ok (.ireturn, 1) := by decide +kernel
set_option maxRecDepth 100000 in
theorem ggX11_reading_X4_at : GoodIn wsX11_reading wsX4_at := goodIn_s _ [9, 10, 56, 57, 58, 59, 60] [8] (by decide +kernel) rfl (by decide +kernel)
set_option maxRecDepth 20000 in
theorem gX11_reading_X4_at : GoodIn wsX11_reading (wsV RX11 90 RX4 yX4_at wsX4_at) := goodIn_app (goodIn_of _ (by decide +kernel)) ggX11_reading_X4_at
set_option maxRecDepth 100000 in
theorem ggX11_reading_X11_within : GoodIn wsX11_reading wsX11_within := goodIn_s _ [] [14] (by decide +kernel) rfl (by decide +kernel)
set_option maxRecDepth 20000 in
theorem gX11_reading_X11_within : GoodIn wsX11_reading (va_wsS RX11 73 yX11_within wsX11_within) := goodIn_app (goodIn_of _ (by decide +kernel)) ggX11_reading_X11_within
set_option maxRecDepth 100000 in
theorem ggX11_reading_X0_room : GoodIn wsX11_reading wsX0_room := goodIn_s _ [20, 21, 61, 62, 63, 64, 65, 66, 67, 68, 69, 70, 71, 72, 73, 74, 75, 76, 77, 78, 79, 80, 81] [19] (by decide +kernel) rfl (by decide +kernel)
set_option maxRecDepth 20000 in
theorem gX11_reading_X0_room : GoodIn wsX11_reading (wsV RX11 145 RX0 yX0_room wsX0_room) := goodIn_app (goodIn_of _ (by decide +kernel)) ggX11_reading_X0_room
set_option maxRecDepth 20000 in
theorem gX11_reading_X0_room_u145X2 : GoodIn wsX11_reading (va_wsU RX11 145 RX2 "OilPush$Cylinder" ⟨"OilPush$Cylinder", "room", "()I"⟩ yX0_room wsX0_room) := goodIn_app (goodIn_of _ (by decide +kernel)) ggX11_reading_X0_room
set_option maxRecDepth 20000 in
theorem gX11_reading_X0_room_u145X10 : GoodIn wsX11_reading (va_wsU RX11 145 RX10 "OilPush$Cylinder" ⟨"OilPush$Cylinder", "room", "()I"⟩ yX0_room wsX0_room) := goodIn_app (goodIn_of _ (by decide +kernel)) ggX11_reading_X0_room
set_option maxRecDepth 100000 in
theorem ggX11_reading_X5_add : GoodIn wsX11_reading wsX5_add := goodIn_s _ [31, 32, 33, 34, 35, 13, 52, 53, 54, 55] [30, 36] (by decide +kernel) rfl (by decide +kernel)
set_option maxRecDepth 20000 in
theorem gX11_reading_X5_add : GoodIn wsX11_reading (wsV RX11 255 RX5 yX5_add wsX5_add) := goodIn_app (goodIn_of _ (by decide +kernel)) ggX11_reading_X5_add
theorem dX11_reading_0 : decode cX11_reading 0 = .ok (.aload_n 0, 1) := by decide +kernel
theorem dX11_reading_1 : decode cX11_reading 1 = .ok (.getfield 12, 3) := by decide +kernel
theorem dX11_reading_4 : decode cX11_reading 4 = .ok (.iload_n 2, 1) := by decide +kernel
theorem dX11_reading_5 : decode cX11_reading 5 = .ok (.invokevirtual 90, 3) := by decide +kernel
theorem dX11_reading_8 : decode cX11_reading 8 = .ok (.astore 4, 2) := by decide +kernel
theorem dX11_reading_10 : decode cX11_reading 10 = .ok (.aload 4, 2) := by decide +kernel
theorem dX11_reading_12 : decode cX11_reading 12 = .ok (.ifnonnull 5, 3) := by decide +kernel
theorem dX11_reading_15 : decode cX11_reading 15 = .ok (.iconst (-1), 1) := by decide +kernel
theorem dX11_reading_16 : decode cX11_reading 16 = .ok (.ireturn, 1) := by decide +kernel
theorem dX11_reading_17 : decode cX11_reading 17 = .ok (.iload_n 1, 1) := by decide +kernel
theorem dX11_reading_18 : decode cX11_reading 18 = .ok (.iconst 0, 1) := by decide +kernel
theorem dX11_reading_19 : decode cX11_reading 19 = .ok (.sipush 200, 3) := by decide +kernel
theorem dX11_reading_22 : decode cX11_reading 22 = .ok (.invokestatic 73, 3) := by decide +kernel
theorem dX11_reading_25 : decode cX11_reading 25 = .ok (.ifCond .eq 16, 3) := by decide +kernel
theorem dX11_reading_28 : decode cX11_reading 28 = .ok (.iload_n 3, 1) := by decide +kernel
theorem dX11_reading_29 : decode cX11_reading 29 = .ok (.iconst 0, 1) := by decide +kernel
theorem dX11_reading_30 : decode cX11_reading 30 = .ok (.aload 4, 2) := by decide +kernel
theorem dX11_reading_32 : decode cX11_reading 32 = .ok (.invokevirtual 145, 3) := by decide +kernel
theorem dX11_reading_35 : decode cX11_reading 35 = .ok (.invokestatic 73, 3) := by decide +kernel
theorem dX11_reading_38 : decode cX11_reading 38 = .ok (.ifCond .ne 6, 3) := by decide +kernel
theorem dX11_reading_41 : decode cX11_reading 41 = .ok (.bipush (-2), 2) := by decide +kernel
theorem dX11_reading_43 : decode cX11_reading 43 = .ok (.ireturn, 1) := by decide +kernel
theorem dX11_reading_44 : decode cX11_reading 44 = .ok (.aload_n 0, 1) := by decide +kernel
theorem dX11_reading_45 : decode cX11_reading 45 = .ok (.getfield 55, 3) := by decide +kernel
theorem dX11_reading_48 : decode cX11_reading 48 = .ok (.iload_n 1, 1) := by decide +kernel
theorem dX11_reading_49 : decode cX11_reading 49 = .ok (.iload_n 2, 1) := by decide +kernel
theorem dX11_reading_50 : decode cX11_reading 50 = .ok (.iload_n 3, 1) := by decide +kernel
theorem dX11_reading_51 : decode cX11_reading 51 = .ok (.invokevirtual 255, 3) := by decide +kernel
theorem dX11_reading_54 : decode cX11_reading 54 = .ok (.ifCond .eq 13, 3) := by decide +kernel
theorem dX11_reading_57 : decode cX11_reading 57 = .ok (.aload_n 0, 1) := by decide +kernel
theorem dX11_reading_58 : decode cX11_reading 58 = .ok (.getfield 55, 3) := by decide +kernel
theorem dX11_reading_61 : decode cX11_reading 61 = .ok (.getfield 256, 3) := by decide +kernel
theorem dX11_reading_64 : decode cX11_reading 64 = .ok (.goto 5, 3) := by decide +kernel
theorem dX11_reading_67 : decode cX11_reading 67 = .ok (.bipush (-4), 2) := by decide +kernel
theorem dX11_reading_69 : decode cX11_reading 69 = .ok (.ireturn, 1) := by decide +kernel
theorem dX11_forget_0 : decode cX11_forget 0 = .ok (.aload_n 0, 1) := by decide +kernel
theorem dX11_forget_1 : decode cX11_forget 1 = .ok (.getfield 55, 3) := by decide +kernel
theorem dX11_forget_4 : decode cX11_forget 4 = .ok (.getfield 256, 3) := by decide +kernel
theorem dX11_forget_7 : decode cX11_forget 7 = .ok (.istore_n 1, 1) := by decide +kernel
theorem dX11_forget_8 : decode cX11_forget 8 = .ok (.aload_n 0, 1) := by decide +kernel
theorem dX11_forget_9 : decode cX11_forget 9 = .ok (.getfield 55, 3) := by decide +kernel
theorem dX11_forget_12 : decode cX11_forget 12 = .ok (.iconst 0, 1) := by decide +kernel
theorem dX11_forget_13 : decode cX11_forget 13 = .ok (.putfield 256, 3) := by decide +kernel
theorem dX11_forget_16 : decode cX11_forget 16 = .ok (.iload_n 1, 1) := by decide +kernel
theorem dX11_forget_17 : decode cX11_forget 17 = .ok (.ireturn, 1) := by decide +kernel
set_option maxRecDepth 100000 in
theorem ggX11_leak_X5_latest : GoodIn wsX11_leak wsX5_latest := goodIn_s _ [11, 12, 13, 14, 15, 17, 18, 231, 232, 233, 234] [10, 16, 19] (by decide +kernel) rfl (by decide +kernel)
set_option maxRecDepth 20000 in
theorem gX11_leak_X5_latest : GoodIn wsX11_leak (wsV RX11 257 RX5 yX5_latest wsX5_latest) := goodIn_app (goodIn_of _ (by decide +kernel)) ggX11_leak_X5_latest
set_option maxRecDepth 100000 in
theorem ggX11_leak_X4_isHeld : GoodIn wsX11_leak wsX4_isHeld := goodIn_s _ [25, 26, 27, 28, 23, 30, 31, 226, 227, 228, 229, 230] [24, 29] (by decide +kernel) rfl (by decide +kernel)
set_option maxRecDepth 20000 in
theorem gX11_leak_X4_isHeld : GoodIn wsX11_leak (wsV RX11 260 RX4 yX4_isHeld wsX4_isHeld) := goodIn_app (goodIn_of _ (by decide +kernel)) ggX11_leak_X4_isHeld
set_option maxRecDepth 100000 in
theorem ggX11_leak_X11_wouldTellAll : GoodIn wsX11_leak wsX11_wouldTellAll := goodIn_s _ [36, 37, 38, 3, 39, 4, 40, 41, 42, 43, 44, 46, 47, 48, 49, 50, 17, 18, 51, 53, 54, 55, 56, 58, 59, 60, 61, 62, 6, 7, 8, 9, 11, 12, 13, 14, 15, 63, 64, 65, 67, 68, 69, 70, 71, 72, 73, 75, 76, 77, 78, 79, 80, 81, 82, 83, 84, 27, 28, 23, 30, 31, 85, 86, 87, 88, 90, 91, 92, 94, 95, 96, 97, 98, 99, 100, 101, 102, 103, 104, 105, 106, 107, 109, 110, 111, 112, 113, 114, 115, 116, 118, 119, 120, 121, 122, 123, 124, 125, 127, 128, 129, 130, 131, 133, 134, 135, 136, 137, 138, 139, 141, 142, 143, 144, 145, 146, 147, 148, 149, 150, 152, 153, 154, 155, 156, 157, 158, 160, 161, 162, 163, 164, 165, 167, 168, 169, 170, 171, 172, 173, 175, 176, 177, 178, 179, 180, 181, 182, 183, 185, 186, 187, 188, 190, 191, 192, 193, 194, 196, 197, 198, 200, 201, 202, 204, 205, 206, 207, 208, 209, 211, 212, 213, 214, 215, 216, 217, 218, 219, 220, 221, 222, 223, 224, 225, 235, 236, 237, 238, 239, 240, 241, 242, 243, 231, 232, 233, 234, 244, 245, 246, 247, 248, 249, 250, 251, 252, 253, 254, 255, 256, 257, 258, 259, 260, 261, 262, 263, 264, 265, 266, 267, 268, 269, 226, 227, 228, 229, 230, 270, 271, 272, 273, 274, 275, 276, 277, 278, 279, 280, 281, 282] [35, 45, 19, 52, 57, 10, 16, 66, 74, 29, 89, 93, 108, 117, 126, 132, 140, 151, 159, 166, 174, 184, 189, 195, 199, 203, 210] (by decide +kernel) rfl (by decide +kernel)
set_option maxRecDepth 20000 in
theorem gX11_leak_X11_wouldTellAll : GoodIn wsX11_leak (wsV RX11 263 RX11 yX11_wouldTellAll wsX11_wouldTellAll) := goodIn_app (goodIn_of _ (by decide +kernel)) ggX11_leak_X11_wouldTellAll
theorem dX11_leak_0 : decode cX11_leak 0 = .ok (.iload_n 1, 1) := by decide +kernel
theorem dX11_leak_1 : decode cX11_leak 1 = .ok (.ifCond .eq 11, 3) := by decide +kernel
theorem dX11_leak_4 : decode cX11_leak 4 = .ok (.iload_n 1, 1) := by decide +kernel
theorem dX11_leak_5 : decode cX11_leak 5 = .ok (.iconst 1, 1) := by decide +kernel
theorem dX11_leak_6 : decode cX11_leak 6 = .ok (.if_icmp .eq 6, 3) := by decide +kernel
theorem dX11_leak_9 : decode cX11_leak 9 = .ok (.bipush (-2), 2) := by decide +kernel
theorem dX11_leak_11 : decode cX11_leak 11 = .ok (.ireturn, 1) := by decide +kernel
theorem dX11_leak_12 : decode cX11_leak 12 = .ok (.aload_n 0, 1) := by decide +kernel
theorem dX11_leak_13 : decode cX11_leak 13 = .ok (.getfield 252, 3) := by decide +kernel
theorem dX11_leak_16 : decode cX11_leak 16 = .ok (.ifCond .eq 27, 3) := by decide +kernel
theorem dX11_leak_19 : decode cX11_leak 19 = .ok (.aload_n 0, 1) := by decide +kernel
theorem dX11_leak_20 : decode cX11_leak 20 = .ok (.getfield 197, 3) := by decide +kernel
theorem dX11_leak_23 : decode cX11_leak 23 = .ok (.sipush 200, 3) := by decide +kernel
theorem dX11_leak_26 : decode cX11_leak 26 = .ok (.if_icmp .gt 17, 3) := by decide +kernel
theorem dX11_leak_29 : decode cX11_leak 29 = .ok (.aload_n 0, 1) := by decide +kernel
theorem dX11_leak_30 : decode cX11_leak 30 = .ok (.getfield 55, 3) := by decide +kernel
theorem dX11_leak_33 : decode cX11_leak 33 = .ok (.invokevirtual 257, 3) := by decide +kernel
theorem dX11_leak_36 : decode cX11_leak 36 = .ok (.aload_n 0, 1) := by decide +kernel
theorem dX11_leak_37 : decode cX11_leak 37 = .ok (.getfield 197, 3) := by decide +kernel
theorem dX11_leak_40 : decode cX11_leak 40 = .ok (.if_icmp .le 6, 3) := by decide +kernel
theorem dX11_leak_43 : decode cX11_leak 43 = .ok (.bipush (-3), 2) := by decide +kernel
theorem dX11_leak_45 : decode cX11_leak 45 = .ok (.ireturn, 1) := by decide +kernel
theorem dX11_leak_46 : decode cX11_leak 46 = .ok (.iconst 0, 1) := by decide +kernel
theorem dX11_leak_47 : decode cX11_leak 47 = .ok (.istore_n 2, 1) := by decide +kernel
theorem dX11_leak_48 : decode cX11_leak 48 = .ok (.iload_n 2, 1) := by decide +kernel
theorem dX11_leak_49 : decode cX11_leak 49 = .ok (.aload_n 0, 1) := by decide +kernel
theorem dX11_leak_50 : decode cX11_leak 50 = .ok (.getfield 12, 3) := by decide +kernel
theorem dX11_leak_53 : decode cX11_leak 53 = .ok (.getfield 87, 3) := by decide +kernel
theorem dX11_leak_56 : decode cX11_leak 56 = .ok (.if_icmp .ge 53, 3) := by decide +kernel
theorem dX11_leak_59 : decode cX11_leak 59 = .ok (.iconst 1, 1) := by decide +kernel
theorem dX11_leak_60 : decode cX11_leak 60 = .ok (.istore_n 3, 1) := by decide +kernel
theorem dX11_leak_61 : decode cX11_leak 61 = .ok (.aload_n 0, 1) := by decide +kernel
theorem dX11_leak_62 : decode cX11_leak 62 = .ok (.getfield 12, 3) := by decide +kernel
theorem dX11_leak_65 : decode cX11_leak 65 = .ok (.iload_n 2, 1) := by decide +kernel
theorem dX11_leak_66 : decode cX11_leak 66 = .ok (.invokevirtual 260, 3) := by decide +kernel
theorem dX11_leak_69 : decode cX11_leak 69 = .ok (.ifCond .ne 34, 3) := by decide +kernel
theorem dX11_leak_72 : decode cX11_leak 72 = .ok (.iload_n 3, 1) := by decide +kernel
theorem dX11_leak_73 : decode cX11_leak 73 = .ok (.bipush 20, 2) := by decide +kernel
theorem dX11_leak_75 : decode cX11_leak 75 = .ok (.if_icmp .gt 28, 3) := by decide +kernel
theorem dX11_leak_78 : decode cX11_leak 78 = .ok (.aload_n 0, 1) := by decide +kernel
theorem dX11_leak_79 : decode cX11_leak 79 = .ok (.iload_n 2, 1) := by decide +kernel
theorem dX11_leak_80 : decode cX11_leak 80 = .ok (.iload_n 3, 1) := by decide +kernel
theorem dX11_leak_81 : decode cX11_leak 81 = .ok (.invokevirtual 263, 3) := by decide +kernel
theorem dX11_leak_84 : decode cX11_leak 84 = .ok (.ifCond .eq 13, 3) := by decide +kernel
theorem dX11_leak_87 : decode cX11_leak 87 = .ok (.iload_n 1, 1) := by decide +kernel
theorem dX11_leak_88 : decode cX11_leak 88 = .ok (.ifCond .ne 7, 3) := by decide +kernel
theorem dX11_leak_91 : decode cX11_leak 91 = .ok (.iload_n 2, 1) := by decide +kernel
theorem dX11_leak_92 : decode cX11_leak 92 = .ok (.goto 4, 3) := by decide +kernel
theorem dX11_leak_95 : decode cX11_leak 95 = .ok (.iload_n 3, 1) := by decide +kernel
theorem dX11_leak_96 : decode cX11_leak 96 = .ok (.ireturn, 1) := by decide +kernel
theorem dX11_leak_97 : decode cX11_leak 97 = .ok (.iinc 3 1, 3) := by decide +kernel
theorem dX11_leak_100 : decode cX11_leak 100 = .ok (.goto (-39), 3) := by decide +kernel
theorem dX11_leak_103 : decode cX11_leak 103 = .ok (.iinc 2 1, 3) := by decide +kernel
theorem dX11_leak_106 : decode cX11_leak 106 = .ok (.goto (-58), 3) := by decide +kernel
theorem dX11_leak_109 : decode cX11_leak 109 = .ok (.bipush (-9), 2) := by decide +kernel
theorem dX11_leak_111 : decode cX11_leak 111 = .ok (.ireturn, 1) := by decide +kernel
set_option maxRecDepth 100000 in
theorem ggX11_wouldTellAll_X7_become : GoodIn wsX11_wouldTellAll wsX7_become := goodIn_s _ [13, 14, 15, 16, 17, 18, 19, 21, 23, 24, 25, 26, 28, 29, 30, 31, 213, 214, 215, 216, 217, 218, 219, 220, 221] [12, 20, 22, 27] (by decide +kernel) rfl (by decide +kernel)
set_option maxRecDepth 20000 in
theorem gX11_wouldTellAll_X7_become : GoodIn wsX11_wouldTellAll (wsV RX11 248 RX7 yX7_become wsX7_become) := goodIn_app (goodIn_of _ (by decide +kernel)) ggX11_wouldTellAll_X7_become
set_option maxRecDepth 100000 in
theorem ggX11_wouldTellAll_X11_set : GoodIn wsX11_wouldTellAll wsX11_set := goodIn_s _ [] [22] (by decide +kernel) rfl (by decide +kernel)
set_option maxRecDepth 20000 in
theorem gX11_wouldTellAll_X11_set : GoodIn wsX11_wouldTellAll (va_wsS RX11 266 yX11_set wsX11_set) := goodIn_app (goodIn_of _ (by decide +kernel)) ggX11_wouldTellAll_X11_set
set_option maxRecDepth 100000 in
theorem ggX11_wouldTellAll_X5_latest : GoodIn wsX11_wouldTellAll wsX5_latest := goodIn_s _ [38, 39, 40, 41, 42, 18, 19, 222, 223, 224, 225] [37, 43, 20] (by decide +kernel) rfl (by decide +kernel)
set_option maxRecDepth 20000 in
theorem gX11_wouldTellAll_X5_latest : GoodIn wsX11_wouldTellAll (wsV RX11 257 RX5 yX5_latest wsX5_latest) := goodIn_app (goodIn_of _ (by decide +kernel)) ggX11_wouldTellAll_X5_latest
set_option maxRecDepth 100000 in
theorem ggX11_wouldTellAll_X5_areToldAt : GoodIn wsX11_wouldTellAll wsX5_areToldAt := goodIn_s _ [38, 39, 48, 49, 50, 18, 19, 222, 223, 224, 225, 213, 214, 215, 216, 217] [47, 20] (by decide +kernel) rfl (by decide +kernel)
set_option maxRecDepth 20000 in
theorem gX11_wouldTellAll_X5_areToldAt : GoodIn wsX11_wouldTellAll (wsV RX11 269 RX5 yX5_areToldAt wsX5_areToldAt) := goodIn_app (goodIn_of _ (by decide +kernel)) ggX11_wouldTellAll_X5_areToldAt
set_option maxRecDepth 100000 in
theorem ggX11_wouldTellAll_X3_obey : GoodIn wsX11_wouldTellAll wsX3_obey := goodIn_s _ [56, 57, 58, 59, 60, 61, 62, 63, 64, 18, 19, 65, 66, 67, 68, 70, 71, 72, 73, 74, 75, 77, 78, 79, 81, 82, 83, 84, 85, 86, 87, 88, 89, 90, 21, 213, 214, 215, 216, 217, 226, 227, 228, 229, 230, 231, 232, 233, 234, 235, 236, 237, 238, 239, 240, 241, 242, 243, 244, 245, 246, 247, 248, 249, 250, 251, 252, 253, 254, 255, 256] [55, 20, 69, 76, 80, 22] (by decide +kernel) rfl (by decide +kernel)
set_option maxRecDepth 20000 in
theorem gX11_wouldTellAll_X3_obey : GoodIn wsX11_wouldTellAll (wsV RX11 200 RX3 yX3_obey wsX3_obey) := goodIn_app (goodIn_of _ (by decide +kernel)) ggX11_wouldTellAll_X3_obey
set_option maxRecDepth 100000 in
theorem ggX11_wouldTellAll_X1_run : GoodIn wsX11_wouldTellAll wsX1_run := goodIn_s _ [96, 97, 98, 99, 100, 101, 102, 103, 42, 105, 106, 107, 108, 41, 109, 66, 67, 68, 70, 71, 110, 111, 112, 94, 114, 115, 18, 19, 116, 117, 118, 120, 121, 122, 123, 124, 125, 126, 75, 128, 129, 130, 77, 78, 79, 81, 82, 83, 84, 85, 86, 131, 132, 133, 134, 21, 135, 136, 137, 139, 140, 141, 142, 143, 144, 145, 147, 148, 149, 150, 151, 152, 154, 155, 156, 157, 158, 159, 160, 162, 163, 164, 165, 166, 167, 168, 169, 170, 172, 173, 174, 175, 177, 178, 179, 180, 181, 183, 184, 185, 26, 30, 29, 31, 187, 188, 189, 191, 192, 193, 194, 195, 196, 257, 258, 259, 260, 261, 262, 263, 264, 265, 266, 267, 268, 269, 252, 253, 254, 255, 256, 213, 214, 215, 216, 217, 218, 219, 220, 221, 231, 232, 233, 234, 235, 236, 237, 238, 239, 240, 241, 242, 243, 244, 245, 246, 247, 248, 249, 250, 251] [95, 104, 43, 69, 113, 20, 119, 127, 80, 22, 138, 146, 153, 161, 171, 176, 182, 186, 190, 197] (by decide +kernel) rfl (by decide +kernel)
set_option maxRecDepth 20000 in
theorem gX11_wouldTellAll_X1_run : GoodIn wsX11_wouldTellAll (wsV RX11 204 RX1 yX1_run wsX1_run) := goodIn_app (goodIn_of _ (by decide +kernel)) ggX11_wouldTellAll_X1_run
theorem dX11_wouldTellAll_0 : decode cX11_wouldTellAll 0 = .ok (.aload_n 0, 1) := by decide +kernel
theorem dX11_wouldTellAll_1 : decode cX11_wouldTellAll 1 = .ok (.getfield 42, 3) := by decide +kernel
theorem dX11_wouldTellAll_4 : decode cX11_wouldTellAll 4 = .ok (.aload_n 0, 1) := by decide +kernel
theorem dX11_wouldTellAll_5 : decode cX11_wouldTellAll 5 = .ok (.getfield 39, 3) := by decide +kernel
theorem dX11_wouldTellAll_8 : decode cX11_wouldTellAll 8 = .ok (.invokevirtual 248, 3) := by decide +kernel
theorem dX11_wouldTellAll_11 : decode cX11_wouldTellAll 11 = .ok (.aload_n 0, 1) := by decide +kernel
theorem dX11_wouldTellAll_12 : decode cX11_wouldTellAll 12 = .ok (.getfield 48, 3) := by decide +kernel
theorem dX11_wouldTellAll_15 : decode cX11_wouldTellAll 15 = .ok (.iload_n 1, 1) := by decide +kernel
theorem dX11_wouldTellAll_16 : decode cX11_wouldTellAll 16 = .ok (.iload_n 2, 1) := by decide +kernel
theorem dX11_wouldTellAll_17 : decode cX11_wouldTellAll 17 = .ok (.invokestatic 266, 3) := by decide +kernel
theorem dX11_wouldTellAll_20 : decode cX11_wouldTellAll 20 = .ok (.aload_n 0, 1) := by decide +kernel
theorem dX11_wouldTellAll_21 : decode cX11_wouldTellAll 21 = .ok (.getfield 55, 3) := by decide +kernel
theorem dX11_wouldTellAll_24 : decode cX11_wouldTellAll 24 = .ok (.invokevirtual 257, 3) := by decide +kernel
theorem dX11_wouldTellAll_27 : decode cX11_wouldTellAll 27 = .ok (.istore_n 3, 1) := by decide +kernel
theorem dX11_wouldTellAll_28 : decode cX11_wouldTellAll 28 = .ok (.aload_n 0, 1) := by decide +kernel
theorem dX11_wouldTellAll_29 : decode cX11_wouldTellAll 29 = .ok (.getfield 55, 3) := by decide +kernel
theorem dX11_wouldTellAll_32 : decode cX11_wouldTellAll 32 = .ok (.iconst 0, 1) := by decide +kernel
theorem dX11_wouldTellAll_33 : decode cX11_wouldTellAll 33 = .ok (.aload_n 0, 1) := by decide +kernel
theorem dX11_wouldTellAll_34 : decode cX11_wouldTellAll 34 = .ok (.getfield 42, 3) := by decide +kernel
theorem dX11_wouldTellAll_37 : decode cX11_wouldTellAll 37 = .ok (.invokevirtual 269, 3) := by decide +kernel
theorem dX11_wouldTellAll_40 : decode cX11_wouldTellAll 40 = .ok (.istore 4, 2) := by decide +kernel
theorem dX11_wouldTellAll_42 : decode cX11_wouldTellAll 42 = .ok (.iconst 1, 1) := by decide +kernel
theorem dX11_wouldTellAll_43 : decode cX11_wouldTellAll 43 = .ok (.istore 5, 2) := by decide +kernel
theorem dX11_wouldTellAll_45 : decode cX11_wouldTellAll 45 = .ok (.iload 4, 2) := by decide +kernel
theorem dX11_wouldTellAll_47 : decode cX11_wouldTellAll 47 = .ok (.ifCond .eq 64, 3) := by decide +kernel
theorem dX11_wouldTellAll_50 : decode cX11_wouldTellAll 50 = .ok (.iload 5, 2) := by decide +kernel
theorem dX11_wouldTellAll_52 : decode cX11_wouldTellAll 52 = .ok (.iload_n 3, 1) := by decide +kernel
theorem dX11_wouldTellAll_53 : decode cX11_wouldTellAll 53 = .ok (.if_icmp .gt 58, 3) := by decide +kernel
theorem dX11_wouldTellAll_56 : decode cX11_wouldTellAll 56 = .ok (.aload_n 0, 1) := by decide +kernel
theorem dX11_wouldTellAll_57 : decode cX11_wouldTellAll 57 = .ok (.getfield 35, 3) := by decide +kernel
theorem dX11_wouldTellAll_60 : decode cX11_wouldTellAll 60 = .ok (.aload_n 0, 1) := by decide +kernel
theorem dX11_wouldTellAll_61 : decode cX11_wouldTellAll 61 = .ok (.getfield 12, 3) := by decide +kernel
theorem dX11_wouldTellAll_64 : decode cX11_wouldTellAll 64 = .ok (.aload_n 0, 1) := by decide +kernel
theorem dX11_wouldTellAll_65 : decode cX11_wouldTellAll 65 = .ok (.getfield 42, 3) := by decide +kernel
theorem dX11_wouldTellAll_68 : decode cX11_wouldTellAll 68 = .ok (.invokevirtual 200, 3) := by decide +kernel
theorem dX11_wouldTellAll_71 : decode cX11_wouldTellAll 71 = .ok (.aload_n 0, 1) := by decide +kernel
theorem dX11_wouldTellAll_72 : decode cX11_wouldTellAll 72 = .ok (.getfield 45, 3) := by decide +kernel
theorem dX11_wouldTellAll_75 : decode cX11_wouldTellAll 75 = .ok (.aload_n 0, 1) := by decide +kernel
theorem dX11_wouldTellAll_76 : decode cX11_wouldTellAll 76 = .ok (.getfield 12, 3) := by decide +kernel
theorem dX11_wouldTellAll_79 : decode cX11_wouldTellAll 79 = .ok (.aload_n 0, 1) := by decide +kernel
theorem dX11_wouldTellAll_80 : decode cX11_wouldTellAll 80 = .ok (.getfield 42, 3) := by decide +kernel
theorem dX11_wouldTellAll_83 : decode cX11_wouldTellAll 83 = .ok (.aload_n 0, 1) := by decide +kernel
theorem dX11_wouldTellAll_84 : decode cX11_wouldTellAll 84 = .ok (.getfield 48, 3) := by decide +kernel
theorem dX11_wouldTellAll_87 : decode cX11_wouldTellAll 87 = .ok (.invokevirtual 204, 3) := by decide +kernel
theorem dX11_wouldTellAll_90 : decode cX11_wouldTellAll 90 = .ok (.aload_n 0, 1) := by decide +kernel
theorem dX11_wouldTellAll_91 : decode cX11_wouldTellAll 91 = .ok (.getfield 55, 3) := by decide +kernel
theorem dX11_wouldTellAll_94 : decode cX11_wouldTellAll 94 = .ok (.iload 5, 2) := by decide +kernel
theorem dX11_wouldTellAll_96 : decode cX11_wouldTellAll 96 = .ok (.aload_n 0, 1) := by decide +kernel
theorem dX11_wouldTellAll_97 : decode cX11_wouldTellAll 97 = .ok (.getfield 42, 3) := by decide +kernel
theorem dX11_wouldTellAll_100 : decode cX11_wouldTellAll 100 = .ok (.invokevirtual 269, 3) := by decide +kernel
theorem dX11_wouldTellAll_103 : decode cX11_wouldTellAll 103 = .ok (.istore 4, 2) := by decide +kernel
theorem dX11_wouldTellAll_105 : decode cX11_wouldTellAll 105 = .ok (.iinc 5 1, 3) := by decide +kernel
theorem dX11_wouldTellAll_108 : decode cX11_wouldTellAll 108 = .ok (.goto (-63), 3) := by decide +kernel
theorem dX11_wouldTellAll_111 : decode cX11_wouldTellAll 111 = .ok (.aload_n 0, 1) := by decide +kernel
theorem dX11_wouldTellAll_112 : decode cX11_wouldTellAll 112 = .ok (.getfield 48, 3) := by decide +kernel
theorem dX11_wouldTellAll_115 : decode cX11_wouldTellAll 115 = .ok (.iload_n 1, 1) := by decide +kernel
theorem dX11_wouldTellAll_116 : decode cX11_wouldTellAll 116 = .ok (.iconst 0, 1) := by decide +kernel
theorem dX11_wouldTellAll_117 : decode cX11_wouldTellAll 117 = .ok (.invokestatic 266, 3) := by decide +kernel
theorem dX11_wouldTellAll_120 : decode cX11_wouldTellAll 120 = .ok (.iload 4, 2) := by decide +kernel
theorem dX11_wouldTellAll_122 : decode cX11_wouldTellAll 122 = .ok (.ireturn, 1) := by decide +kernel
set_option maxRecDepth 100000 in
theorem ggX11_sheet_X11_sheetAt : GoodIn wsX11_sheet wsX11_sheetAt := goodIn_s _ [7, 35, 36, 37, 38, 39, 40, 41, 42, 43, 44, 45, 46, 47, 48, 49] [6] (by decide +kernel) rfl (by decide +kernel)
set_option maxRecDepth 20000 in
theorem gX11_sheet_X11_sheetAt : GoodIn wsX11_sheet (wsV RX11 113 RX11 yX11_sheetAt wsX11_sheetAt) := goodIn_app (goodIn_of _ (by decide +kernel)) ggX11_sheet_X11_sheetAt
set_option maxRecDepth 100000 in
theorem ggX11_sheet_X11_isLane : GoodIn wsX11_sheet wsX11_isLane := goodIn_s _ [11, 12, 5] [10, 13] (by decide +kernel) rfl (by decide +kernel)
set_option maxRecDepth 20000 in
theorem gX11_sheet_X11_isLane : GoodIn wsX11_sheet (va_wsS RX11 117 yX11_isLane wsX11_isLane) := goodIn_app (goodIn_of _ (by decide +kernel)) ggX11_sheet_X11_isLane
set_option maxRecDepth 100000 in
theorem ggX11_sheet_X11_faulted : GoodIn wsX11_sheet wsX11_faulted := goodIn_s _ [1, 35, 36, 37, 38, 39, 40, 41, 42, 43, 44, 45, 46, 47, 48, 49] [17] (by decide +kernel) rfl (by decide +kernel)
set_option maxRecDepth 20000 in
theorem gX11_sheet_X11_faulted : GoodIn wsX11_sheet (wsV RX11 124 RX11 yX11_faulted wsX11_faulted) := goodIn_app (goodIn_of _ (by decide +kernel)) ggX11_sheet_X11_faulted
set_option maxRecDepth 100000 in
theorem ggX11_sheet_X6_renew : GoodIn wsX11_sheet wsX6_renew := goodIn_s _ [23, 24, 25, 26, 27, 28, 30, 31, 32, 33, 50, 51, 52, 53] [22, 29, 34] (by decide +kernel) rfl (by decide +kernel)
set_option maxRecDepth 20000 in
theorem gX11_sheet_X6_renew : GoodIn wsX11_sheet (wsV RX11 273 RX6 yX6_renew wsX6_renew) := goodIn_app (goodIn_of _ (by decide +kernel)) ggX11_sheet_X6_renew
theorem dX11_sheet_0 : decode cX11_sheet 0 = .ok (.aload_n 0, 1) := by decide +kernel
theorem dX11_sheet_1 : decode cX11_sheet 1 = .ok (.iconst 0, 1) := by decide +kernel
theorem dX11_sheet_2 : decode cX11_sheet 2 = .ok (.putfield 110, 3) := by decide +kernel
theorem dX11_sheet_5 : decode cX11_sheet 5 = .ok (.aload_n 0, 1) := by decide +kernel
theorem dX11_sheet_6 : decode cX11_sheet 6 = .ok (.iload_n 1, 1) := by decide +kernel
theorem dX11_sheet_7 : decode cX11_sheet 7 = .ok (.invokevirtual 113, 3) := by decide +kernel
theorem dX11_sheet_10 : decode cX11_sheet 10 = .ok (.astore 4, 2) := by decide +kernel
theorem dX11_sheet_12 : decode cX11_sheet 12 = .ok (.aload 4, 2) := by decide +kernel
theorem dX11_sheet_14 : decode cX11_sheet 14 = .ok (.ifnonnull 5, 3) := by decide +kernel
theorem dX11_sheet_17 : decode cX11_sheet 17 = .ok (.iconst (-1), 1) := by decide +kernel
theorem dX11_sheet_18 : decode cX11_sheet 18 = .ok (.ireturn, 1) := by decide +kernel
theorem dX11_sheet_19 : decode cX11_sheet 19 = .ok (.iload_n 2, 1) := by decide +kernel
theorem dX11_sheet_20 : decode cX11_sheet 20 = .ok (.invokestatic 117, 3) := by decide +kernel
theorem dX11_sheet_23 : decode cX11_sheet 23 = .ok (.ifCond .eq 9, 3) := by decide +kernel
theorem dX11_sheet_26 : decode cX11_sheet 26 = .ok (.iload_n 3, 1) := by decide +kernel
theorem dX11_sheet_27 : decode cX11_sheet 27 = .ok (.bipush 20, 2) := by decide +kernel
theorem dX11_sheet_29 : decode cX11_sheet 29 = .ok (.if_icmp .le 6, 3) := by decide +kernel
theorem dX11_sheet_32 : decode cX11_sheet 32 = .ok (.bipush (-2), 2) := by decide +kernel
theorem dX11_sheet_34 : decode cX11_sheet 34 = .ok (.ireturn, 1) := by decide +kernel
theorem dX11_sheet_35 : decode cX11_sheet 35 = .ok (.iload_n 3, 1) := by decide +kernel
theorem dX11_sheet_36 : decode cX11_sheet 36 = .ok (.ifCond .ge 9, 3) := by decide +kernel
theorem dX11_sheet_39 : decode cX11_sheet 39 = .ok (.aload_n 0, 1) := by decide +kernel
theorem dX11_sheet_40 : decode cX11_sheet 40 = .ok (.iconst 4, 1) := by decide +kernel
theorem dX11_sheet_41 : decode cX11_sheet 41 = .ok (.invokevirtual 124, 3) := by decide +kernel
theorem dX11_sheet_44 : decode cX11_sheet 44 = .ok (.ireturn, 1) := by decide +kernel
theorem dX11_sheet_45 : decode cX11_sheet 45 = .ok (.aload 4, 2) := by decide +kernel
theorem dX11_sheet_47 : decode cX11_sheet 47 = .ok (.iload_n 2, 1) := by decide +kernel
theorem dX11_sheet_48 : decode cX11_sheet 48 = .ok (.iload_n 3, 1) := by decide +kernel
theorem dX11_sheet_49 : decode cX11_sheet 49 = .ok (.invokevirtual 273, 3) := by decide +kernel
theorem dX11_sheet_52 : decode cX11_sheet 52 = .ok (.iconst 1, 1) := by decide +kernel
theorem dX11_sheet_53 : decode cX11_sheet 53 = .ok (.ireturn, 1) := by decide +kernel
set_option maxRecDepth 100000 in
theorem ggX11_lose_X11_sheetAt : GoodIn wsX11_lose wsX11_sheetAt := goodIn_s _ [7, 12, 13, 14, 15, 16, 17, 18, 19, 20, 21, 22, 23, 24, 25, 26] [6] (by decide +kernel) rfl (by decide +kernel)
set_option maxRecDepth 20000 in
theorem gX11_lose_X11_sheetAt : GoodIn wsX11_lose (wsV RX11 113 RX11 yX11_sheetAt wsX11_sheetAt) := goodIn_app (goodIn_of _ (by decide +kernel)) ggX11_lose_X11_sheetAt
theorem dX11_lose_0 : decode cX11_lose 0 = .ok (.aload_n 0, 1) := by decide +kernel
theorem dX11_lose_1 : decode cX11_lose 1 = .ok (.iload_n 1, 1) := by decide +kernel
theorem dX11_lose_2 : decode cX11_lose 2 = .ok (.invokevirtual 113, 3) := by decide +kernel
theorem dX11_lose_5 : decode cX11_lose 5 = .ok (.astore_n 2, 1) := by decide +kernel
theorem dX11_lose_6 : decode cX11_lose 6 = .ok (.aload_n 2, 1) := by decide +kernel
theorem dX11_lose_7 : decode cX11_lose 7 = .ok (.ifnonnull 5, 3) := by decide +kernel
theorem dX11_lose_10 : decode cX11_lose 10 = .ok (.iconst (-1), 1) := by decide +kernel
theorem dX11_lose_11 : decode cX11_lose 11 = .ok (.ireturn, 1) := by decide +kernel
theorem dX11_lose_12 : decode cX11_lose 12 = .ok (.aload_n 2, 1) := by decide +kernel
theorem dX11_lose_13 : decode cX11_lose 13 = .ok (.getfield 277, 3) := by decide +kernel
theorem dX11_lose_16 : decode cX11_lose 16 = .ok (.istore_n 3, 1) := by decide +kernel
theorem dX11_lose_17 : decode cX11_lose 17 = .ok (.aload_n 2, 1) := by decide +kernel
theorem dX11_lose_18 : decode cX11_lose 18 = .ok (.iconst 0, 1) := by decide +kernel
theorem dX11_lose_19 : decode cX11_lose 19 = .ok (.putfield 277, 3) := by decide +kernel
theorem dX11_lose_22 : decode cX11_lose 22 = .ok (.iload_n 3, 1) := by decide +kernel
theorem dX11_lose_23 : decode cX11_lose 23 = .ok (.ifCond .eq 7, 3) := by decide +kernel
theorem dX11_lose_26 : decode cX11_lose 26 = .ok (.iconst 1, 1) := by decide +kernel
theorem dX11_lose_27 : decode cX11_lose 27 = .ok (.goto 4, 3) := by decide +kernel
theorem dX11_lose_30 : decode cX11_lose 30 = .ok (.iconst 0, 1) := by decide +kernel
theorem dX11_lose_31 : decode cX11_lose 31 = .ok (.ireturn, 1) := by decide +kernel
set_option maxRecDepth 100000 in
theorem ggX11_put_X11_sheetAt : GoodIn wsX11_put wsX11_sheetAt := goodIn_s _ [8, 27, 28, 29, 30, 31, 32, 33, 34, 35, 36, 37, 38, 39, 40, 41] [7] (by decide +kernel) rfl (by decide +kernel)
set_option maxRecDepth 20000 in
theorem gX11_put_X11_sheetAt : GoodIn wsX11_put (wsV RX11 113 RX11 yX11_sheetAt wsX11_sheetAt) := goodIn_app (goodIn_of _ (by decide +kernel)) ggX11_put_X11_sheetAt
set_option maxRecDepth 100000 in
theorem ggX11_put_X11_faulted : GoodIn wsX11_put wsX11_faulted := goodIn_s _ [1, 27, 28, 29, 30, 31, 32, 33, 34, 35, 36, 37, 38, 39, 40, 41] [12] (by decide +kernel) rfl (by decide +kernel)
set_option maxRecDepth 20000 in
theorem gX11_put_X11_faulted : GoodIn wsX11_put (wsV RX11 124 RX11 yX11_faulted wsX11_faulted) := goodIn_app (goodIn_of _ (by decide +kernel)) ggX11_put_X11_faulted
set_option maxRecDepth 100000 in
theorem ggX11_put_X6_holds : GoodIn wsX11_put wsX6_holds := goodIn_s _ [18, 42, 43, 44, 45] [17] (by decide +kernel) rfl (by decide +kernel)
set_option maxRecDepth 20000 in
theorem gX11_put_X6_holds : GoodIn wsX11_put (wsV RX11 127 RX6 yX6_holds wsX6_holds) := goodIn_app (goodIn_of _ (by decide +kernel)) ggX11_put_X6_holds
set_option maxRecDepth 100000 in
theorem ggX11_put_X6_write : GoodIn wsX11_put wsX6_write := goodIn_s _ [23, 24, 25, 6, 42, 43, 44, 45] [22, 26] (by decide +kernel) rfl (by decide +kernel)
set_option maxRecDepth 20000 in
theorem gX11_put_X6_write : GoodIn wsX11_put (wsV RX11 280 RX6 yX6_write wsX6_write) := goodIn_app (goodIn_of _ (by decide +kernel)) ggX11_put_X6_write
theorem dX11_put_0 : decode cX11_put 0 = .ok (.aload_n 0, 1) := by decide +kernel
theorem dX11_put_1 : decode cX11_put 1 = .ok (.iconst 0, 1) := by decide +kernel
theorem dX11_put_2 : decode cX11_put 2 = .ok (.putfield 110, 3) := by decide +kernel
theorem dX11_put_5 : decode cX11_put 5 = .ok (.aload_n 0, 1) := by decide +kernel
theorem dX11_put_6 : decode cX11_put 6 = .ok (.iload_n 1, 1) := by decide +kernel
theorem dX11_put_7 : decode cX11_put 7 = .ok (.invokevirtual 113, 3) := by decide +kernel
theorem dX11_put_10 : decode cX11_put 10 = .ok (.astore 4, 2) := by decide +kernel
theorem dX11_put_12 : decode cX11_put 12 = .ok (.aload 4, 2) := by decide +kernel
theorem dX11_put_14 : decode cX11_put 14 = .ok (.ifnonnull 5, 3) := by decide +kernel
theorem dX11_put_17 : decode cX11_put 17 = .ok (.iconst (-1), 1) := by decide +kernel
theorem dX11_put_18 : decode cX11_put 18 = .ok (.ireturn, 1) := by decide +kernel
theorem dX11_put_19 : decode cX11_put 19 = .ok (.aload 4, 2) := by decide +kernel
theorem dX11_put_21 : decode cX11_put 21 = .ok (.getfield 277, 3) := by decide +kernel
theorem dX11_put_24 : decode cX11_put 24 = .ok (.ifCond .ne 9, 3) := by decide +kernel
theorem dX11_put_27 : decode cX11_put 27 = .ok (.aload_n 0, 1) := by decide +kernel
theorem dX11_put_28 : decode cX11_put 28 = .ok (.iconst 1, 1) := by decide +kernel
theorem dX11_put_29 : decode cX11_put 29 = .ok (.invokevirtual 124, 3) := by decide +kernel
theorem dX11_put_32 : decode cX11_put 32 = .ok (.ireturn, 1) := by decide +kernel
theorem dX11_put_33 : decode cX11_put 33 = .ok (.aload 4, 2) := by decide +kernel
theorem dX11_put_35 : decode cX11_put 35 = .ok (.iload_n 2, 1) := by decide +kernel
theorem dX11_put_36 : decode cX11_put 36 = .ok (.iconst 1, 1) := by decide +kernel
theorem dX11_put_37 : decode cX11_put 37 = .ok (.invokevirtual 127, 3) := by decide +kernel
theorem dX11_put_40 : decode cX11_put 40 = .ok (.ifCond .ne 9, 3) := by decide +kernel
theorem dX11_put_43 : decode cX11_put 43 = .ok (.aload_n 0, 1) := by decide +kernel
theorem dX11_put_44 : decode cX11_put 44 = .ok (.iconst 3, 1) := by decide +kernel
theorem dX11_put_45 : decode cX11_put 45 = .ok (.invokevirtual 124, 3) := by decide +kernel
theorem dX11_put_48 : decode cX11_put 48 = .ok (.ireturn, 1) := by decide +kernel
theorem dX11_put_49 : decode cX11_put 49 = .ok (.aload 4, 2) := by decide +kernel
theorem dX11_put_51 : decode cX11_put 51 = .ok (.iload_n 2, 1) := by decide +kernel
theorem dX11_put_52 : decode cX11_put 52 = .ok (.iload_n 3, 1) := by decide +kernel
theorem dX11_put_53 : decode cX11_put 53 = .ok (.invokevirtual 280, 3) := by decide +kernel
theorem dX11_put_56 : decode cX11_put 56 = .ok (.iconst 1, 1) := by decide +kernel
theorem dX11_put_57 : decode cX11_put 57 = .ok (.ireturn, 1) := by decide +kernel
set_option maxRecDepth 100000 in
theorem ggX11_cell_X11_sheetAt : GoodIn wsX11_cell wsX11_sheetAt := goodIn_s _ [9, 31, 32, 33, 34, 35, 36, 37, 38, 39, 40, 41, 42, 43, 44, 45] [8] (by decide +kernel) rfl (by decide +kernel)
set_option maxRecDepth 20000 in
theorem gX11_cell_X11_sheetAt : GoodIn wsX11_cell (wsV RX11 113 RX11 yX11_sheetAt wsX11_sheetAt) := goodIn_app (goodIn_of _ (by decide +kernel)) ggX11_cell_X11_sheetAt
set_option maxRecDepth 100000 in
theorem ggX11_cell_X11_isLane : GoodIn wsX11_cell wsX11_isLane := goodIn_s _ [13, 14, 7] [12, 15] (by decide +kernel) rfl (by decide +kernel)
set_option maxRecDepth 20000 in
theorem gX11_cell_X11_isLane : GoodIn wsX11_cell (va_wsS RX11 117 yX11_isLane wsX11_isLane) := goodIn_app (goodIn_of _ (by decide +kernel)) ggX11_cell_X11_isLane
set_option maxRecDepth 100000 in
theorem ggX11_cell_X6_faultTakenAs : GoodIn wsX11_cell wsX6_faultTakenAs := goodIn_s _ [21, 22, 46, 47, 48, 49] [20] (by decide +kernel) rfl (by decide +kernel)
set_option maxRecDepth 20000 in
theorem gX11_cell_X6_faultTakenAs : GoodIn wsX11_cell (wsV RX11 121 RX6 yX6_faultTakenAs wsX6_faultTakenAs) := goodIn_app (goodIn_of _ (by decide +kernel)) ggX11_cell_X6_faultTakenAs
set_option maxRecDepth 100000 in
theorem ggX11_cell_X6_holds : GoodIn wsX11_cell wsX6_holds := goodIn_s _ [27, 46, 47, 48, 49] [26] (by decide +kernel) rfl (by decide +kernel)
set_option maxRecDepth 20000 in
theorem gX11_cell_X6_holds : GoodIn wsX11_cell (wsV RX11 127 RX6 yX6_holds wsX6_holds) := goodIn_app (goodIn_of _ (by decide +kernel)) ggX11_cell_X6_holds
set_option maxRecDepth 100000 in
theorem ggX11_cell_X11_get : GoodIn wsX11_cell wsX11_get := goodIn_s _ [] [30] (by decide +kernel) rfl (by decide +kernel)
set_option maxRecDepth 20000 in
theorem gX11_cell_X11_get : GoodIn wsX11_cell (va_wsS RX11 181 yX11_get wsX11_get) := goodIn_app (goodIn_of _ (by decide +kernel)) ggX11_cell_X11_get
theorem dX11_cell_0 : decode cX11_cell 0 = .ok (.aload_n 0, 1) := by decide +kernel
theorem dX11_cell_1 : decode cX11_cell 1 = .ok (.iconst 0, 1) := by decide +kernel
theorem dX11_cell_2 : decode cX11_cell 2 = .ok (.putfield 110, 3) := by decide +kernel
theorem dX11_cell_5 : decode cX11_cell 5 = .ok (.aload_n 0, 1) := by decide +kernel
theorem dX11_cell_6 : decode cX11_cell 6 = .ok (.iload_n 1, 1) := by decide +kernel
theorem dX11_cell_7 : decode cX11_cell 7 = .ok (.invokevirtual 113, 3) := by decide +kernel
theorem dX11_cell_10 : decode cX11_cell 10 = .ok (.astore 4, 2) := by decide +kernel
theorem dX11_cell_12 : decode cX11_cell 12 = .ok (.aload 4, 2) := by decide +kernel
theorem dX11_cell_14 : decode cX11_cell 14 = .ok (.ifnull 10, 3) := by decide +kernel
theorem dX11_cell_17 : decode cX11_cell 17 = .ok (.iload_n 3, 1) := by decide +kernel
theorem dX11_cell_18 : decode cX11_cell 18 = .ok (.invokestatic 117, 3) := by decide +kernel
theorem dX11_cell_21 : decode cX11_cell 21 = .ok (.ifCond .ne 7, 3) := by decide +kernel
theorem dX11_cell_24 : decode cX11_cell 24 = .ok (.ldc2_w 239, 3) := by decide +kernel
theorem dX11_cell_27 : decode cX11_cell 27 = .ok (.lreturn, 1) := by decide +kernel
theorem dX11_cell_28 : decode cX11_cell 28 = .ok (.aload_n 0, 1) := by decide +kernel
theorem dX11_cell_29 : decode cX11_cell 29 = .ok (.aload 4, 2) := by decide +kernel
theorem dX11_cell_31 : decode cX11_cell 31 = .ok (.iload_n 3, 1) := by decide +kernel
theorem dX11_cell_32 : decode cX11_cell 32 = .ok (.invokevirtual 121, 3) := by decide +kernel
theorem dX11_cell_35 : decode cX11_cell 35 = .ok (.putfield 110, 3) := by decide +kernel
theorem dX11_cell_38 : decode cX11_cell 38 = .ok (.aload_n 0, 1) := by decide +kernel
theorem dX11_cell_39 : decode cX11_cell 39 = .ok (.getfield 110, 3) := by decide +kernel
theorem dX11_cell_42 : decode cX11_cell 42 = .ok (.ifCond .eq 7, 3) := by decide +kernel
theorem dX11_cell_45 : decode cX11_cell 45 = .ok (.ldc2_w 239, 3) := by decide +kernel
theorem dX11_cell_48 : decode cX11_cell 48 = .ok (.lreturn, 1) := by decide +kernel
theorem dX11_cell_49 : decode cX11_cell 49 = .ok (.aload 4, 2) := by decide +kernel
theorem dX11_cell_51 : decode cX11_cell 51 = .ok (.iload_n 2, 1) := by decide +kernel
theorem dX11_cell_52 : decode cX11_cell 52 = .ok (.iconst 1, 1) := by decide +kernel
theorem dX11_cell_53 : decode cX11_cell 53 = .ok (.invokevirtual 127, 3) := by decide +kernel
theorem dX11_cell_56 : decode cX11_cell 56 = .ok (.ifCond .ne 12, 3) := by decide +kernel
theorem dX11_cell_59 : decode cX11_cell 59 = .ok (.aload_n 0, 1) := by decide +kernel
theorem dX11_cell_60 : decode cX11_cell 60 = .ok (.iconst 3, 1) := by decide +kernel
theorem dX11_cell_61 : decode cX11_cell 61 = .ok (.putfield 110, 3) := by decide +kernel
theorem dX11_cell_64 : decode cX11_cell 64 = .ok (.ldc2_w 239, 3) := by decide +kernel
theorem dX11_cell_67 : decode cX11_cell 67 = .ok (.lreturn, 1) := by decide +kernel
theorem dX11_cell_68 : decode cX11_cell 68 = .ok (.aload 4, 2) := by decide +kernel
theorem dX11_cell_70 : decode cX11_cell 70 = .ok (.getfield 135, 3) := by decide +kernel
theorem dX11_cell_73 : decode cX11_cell 73 = .ok (.iload_n 2, 1) := by decide +kernel
theorem dX11_cell_74 : decode cX11_cell 74 = .ok (.invokestatic 181, 3) := by decide +kernel
theorem dX11_cell_77 : decode cX11_cell 77 = .ok (.i2l, 1) := by decide +kernel
theorem dX11_cell_78 : decode cX11_cell 78 = .ok (.lreturn, 1) := by decide +kernel
set_option maxRecDepth 100000 in
theorem ggX11_copy_X11_sheetAt : GoodIn wsX11_copy wsX11_sheetAt := goodIn_s _ [14, 25, 26, 27, 28, 29, 30, 31, 32, 33, 34, 35, 36, 37, 38, 39] [13] (by decide +kernel) rfl (by decide +kernel)
set_option maxRecDepth 20000 in
theorem gX11_copy_X11_sheetAt : GoodIn wsX11_copy (wsV RX11 113 RX11 yX11_sheetAt wsX11_sheetAt) := goodIn_app (goodIn_of _ (by decide +kernel)) ggX11_copy_X11_sheetAt
set_option maxRecDepth 100000 in
theorem ggX11_copy_X11_faulted : GoodIn wsX11_copy wsX11_faulted := goodIn_s _ [1, 25, 26, 27, 28, 29, 30, 31, 32, 33, 34, 35, 36, 37, 38, 39] [18] (by decide +kernel) rfl (by decide +kernel)
set_option maxRecDepth 20000 in
theorem gX11_copy_X11_faulted : GoodIn wsX11_copy (wsV RX11 124 RX11 yX11_faulted wsX11_faulted) := goodIn_app (goodIn_of _ (by decide +kernel)) ggX11_copy_X11_faulted
set_option maxRecDepth 100000 in
theorem ggX11_copy_X6_holds : GoodIn wsX11_copy wsX6_holds := goodIn_s _ [24, 40, 41, 42, 43] [23] (by decide +kernel) rfl (by decide +kernel)
set_option maxRecDepth 20000 in
theorem gX11_copy_X6_holds : GoodIn wsX11_copy (wsV RX11 127 RX6 yX6_holds wsX6_holds) := goodIn_app (goodIn_of _ (by decide +kernel)) ggX11_copy_X6_holds
theorem dX11_copy_0 : decode cX11_copy 0 = .ok (.aload_n 0, 1) := by decide +kernel
theorem dX11_copy_1 : decode cX11_copy 1 = .ok (.iconst 0, 1) := by decide +kernel
theorem dX11_copy_2 : decode cX11_copy 2 = .ok (.putfield 110, 3) := by decide +kernel
theorem dX11_copy_5 : decode cX11_copy 5 = .ok (.aload_n 0, 1) := by decide +kernel
theorem dX11_copy_6 : decode cX11_copy 6 = .ok (.iload_n 1, 1) := by decide +kernel
theorem dX11_copy_7 : decode cX11_copy 7 = .ok (.invokevirtual 113, 3) := by decide +kernel
theorem dX11_copy_10 : decode cX11_copy 10 = .ok (.astore 6, 2) := by decide +kernel
theorem dX11_copy_12 : decode cX11_copy 12 = .ok (.aload_n 0, 1) := by decide +kernel
theorem dX11_copy_13 : decode cX11_copy 13 = .ok (.iload_n 3, 1) := by decide +kernel
theorem dX11_copy_14 : decode cX11_copy 14 = .ok (.invokevirtual 113, 3) := by decide +kernel
theorem dX11_copy_17 : decode cX11_copy 17 = .ok (.astore 7, 2) := by decide +kernel
theorem dX11_copy_19 : decode cX11_copy 19 = .ok (.aload 6, 2) := by decide +kernel
theorem dX11_copy_21 : decode cX11_copy 21 = .ok (.ifnull 8, 3) := by decide +kernel
theorem dX11_copy_24 : decode cX11_copy 24 = .ok (.aload 7, 2) := by decide +kernel
theorem dX11_copy_26 : decode cX11_copy 26 = .ok (.ifnonnull 5, 3) := by decide +kernel
theorem dX11_copy_29 : decode cX11_copy 29 = .ok (.iconst (-1), 1) := by decide +kernel
theorem dX11_copy_30 : decode cX11_copy 30 = .ok (.ireturn, 1) := by decide +kernel
theorem dX11_copy_31 : decode cX11_copy 31 = .ok (.aload 6, 2) := by decide +kernel
theorem dX11_copy_33 : decode cX11_copy 33 = .ok (.getfield 277, 3) := by decide +kernel
theorem dX11_copy_36 : decode cX11_copy 36 = .ok (.ifCond .eq 11, 3) := by decide +kernel
theorem dX11_copy_39 : decode cX11_copy 39 = .ok (.aload 7, 2) := by decide +kernel
theorem dX11_copy_41 : decode cX11_copy 41 = .ok (.getfield 277, 3) := by decide +kernel
theorem dX11_copy_44 : decode cX11_copy 44 = .ok (.ifCond .ne 9, 3) := by decide +kernel
theorem dX11_copy_47 : decode cX11_copy 47 = .ok (.aload_n 0, 1) := by decide +kernel
theorem dX11_copy_48 : decode cX11_copy 48 = .ok (.iconst 1, 1) := by decide +kernel
theorem dX11_copy_49 : decode cX11_copy 49 = .ok (.invokevirtual 124, 3) := by decide +kernel
theorem dX11_copy_52 : decode cX11_copy 52 = .ok (.ireturn, 1) := by decide +kernel
theorem dX11_copy_53 : decode cX11_copy 53 = .ok (.aload 6, 2) := by decide +kernel
theorem dX11_copy_55 : decode cX11_copy 55 = .ok (.getfield 283, 3) := by decide +kernel
theorem dX11_copy_58 : decode cX11_copy 58 = .ok (.aload 7, 2) := by decide +kernel
theorem dX11_copy_60 : decode cX11_copy 60 = .ok (.getfield 283, 3) := by decide +kernel
theorem dX11_copy_63 : decode cX11_copy 63 = .ok (.if_icmp .eq 9, 3) := by decide +kernel
theorem dX11_copy_66 : decode cX11_copy 66 = .ok (.aload_n 0, 1) := by decide +kernel
theorem dX11_copy_67 : decode cX11_copy 67 = .ok (.iconst 2, 1) := by decide +kernel
theorem dX11_copy_68 : decode cX11_copy 68 = .ok (.invokevirtual 124, 3) := by decide +kernel
theorem dX11_copy_71 : decode cX11_copy 71 = .ok (.ireturn, 1) := by decide +kernel
theorem dX11_copy_72 : decode cX11_copy 72 = .ok (.aload 6, 2) := by decide +kernel
theorem dX11_copy_74 : decode cX11_copy 74 = .ok (.iload_n 2, 1) := by decide +kernel
theorem dX11_copy_75 : decode cX11_copy 75 = .ok (.iload 5, 2) := by decide +kernel
theorem dX11_copy_77 : decode cX11_copy 77 = .ok (.invokevirtual 127, 3) := by decide +kernel
theorem dX11_copy_80 : decode cX11_copy 80 = .ok (.ifCond .eq 15, 3) := by decide +kernel
theorem dX11_copy_83 : decode cX11_copy 83 = .ok (.aload 7, 2) := by decide +kernel
theorem dX11_copy_85 : decode cX11_copy 85 = .ok (.iload 4, 2) := by decide +kernel
theorem dX11_copy_87 : decode cX11_copy 87 = .ok (.iload 5, 2) := by decide +kernel
theorem dX11_copy_89 : decode cX11_copy 89 = .ok (.invokevirtual 127, 3) := by decide +kernel
theorem dX11_copy_92 : decode cX11_copy 92 = .ok (.ifCond .ne 9, 3) := by decide +kernel
theorem dX11_copy_95 : decode cX11_copy 95 = .ok (.aload_n 0, 1) := by decide +kernel
theorem dX11_copy_96 : decode cX11_copy 96 = .ok (.iconst 3, 1) := by decide +kernel
theorem dX11_copy_97 : decode cX11_copy 97 = .ok (.invokevirtual 124, 3) := by decide +kernel
theorem dX11_copy_100 : decode cX11_copy 100 = .ok (.ireturn, 1) := by decide +kernel
theorem dX11_copy_101 : decode cX11_copy 101 = .ok (.aload 6, 2) := by decide +kernel
theorem dX11_copy_103 : decode cX11_copy 103 = .ok (.getfield 135, 3) := by decide +kernel
theorem dX11_copy_106 : decode cX11_copy 106 = .ok (.iload_n 2, 1) := by decide +kernel
theorem dX11_copy_107 : decode cX11_copy 107 = .ok (.aload 7, 2) := by decide +kernel
theorem dX11_copy_109 : decode cX11_copy 109 = .ok (.getfield 135, 3) := by decide +kernel
theorem dX11_copy_112 : decode cX11_copy 112 = .ok (.iload 4, 2) := by decide +kernel
theorem dX11_copy_114 : decode cX11_copy 114 = .ok (.iload 5, 2) := by decide +kernel
theorem dX11_copy_116 : decode cX11_copy 116 = .ok (.invokestatic 286, 3) := by decide +kernel
theorem dX11_copy_119 : decode cX11_copy 119 = .ok (.iload 5, 2) := by decide +kernel
theorem dX11_copy_121 : decode cX11_copy 121 = .ok (.ireturn, 1) := by decide +kernel
set_option maxRecDepth 100000 in
theorem ggX11_tell_X4_at : GoodIn wsX11_tell wsX4_at := goodIn_s _ [10, 11, 76, 77, 78, 79, 80] [9] (by decide +kernel) rfl (by decide +kernel)
set_option maxRecDepth 20000 in
theorem gX11_tell_X4_at : GoodIn wsX11_tell (wsV RX11 90 RX4 yX4_at wsX4_at) := goodIn_app (goodIn_of _ (by decide +kernel)) ggX11_tell_X4_at
set_option maxRecDepth 100000 in
theorem ggX11_tell_X11_get : GoodIn wsX11_tell wsX11_get := goodIn_s _ [] [15] (by decide +kernel) rfl (by decide +kernel)
set_option maxRecDepth 20000 in
theorem gX11_tell_X11_get : GoodIn wsX11_tell (va_wsS RX11 181 yX11_get wsX11_get) := goodIn_app (goodIn_of _ (by decide +kernel)) ggX11_tell_X11_get
set_option maxRecDepth 100000 in
theorem ggX11_tell_X0_toldBy : GoodIn wsX11_tell wsX0_toldBy := goodIn_s _ [21, 22, 23, 19, 25, 26, 27, 28, 30, 31, 32, 33, 34, 81] [20, 24, 29] (by decide +kernel) rfl (by decide +kernel)
set_option maxRecDepth 20000 in
theorem gX11_tell_X0_toldBy : GoodIn wsX11_tell (wsV RX11 292 RX0 yX0_toldBy wsX0_toldBy) := goodIn_app (goodIn_of _ (by decide +kernel)) ggX11_tell_X0_toldBy
set_option maxRecDepth 100000 in
theorem ggX11_tell_X2_toldBy : GoodIn wsX11_tell wsX2_toldBy := goodIn_s _ [42, 43, 26, 27, 28, 30, 44, 45, 46, 22, 19, 25, 47, 81] [41, 29, 24] (by decide +kernel) rfl (by decide +kernel)
set_option maxRecDepth 20000 in
theorem gX11_tell_X2_toldBy_u292X2 : GoodIn wsX11_tell (va_wsO RX11 292 RX2 "OilPush$Cylinder" ⟨"OilPush$Cylinder", "toldBy", "(LOilPush$Trace;I)I"⟩ yX2_toldBy wsX2_toldBy) := goodIn_app (goodIn_of _ (by decide +kernel)) ggX11_tell_X2_toldBy
set_option maxRecDepth 100000 in
theorem ggX11_tell_X10_toldBy : GoodIn wsX11_tell wsX10_toldBy := goodIn_s _ [52, 26, 27, 28, 30, 53, 54, 55, 22, 19, 25, 81] [51, 29, 24] (by decide +kernel) rfl (by decide +kernel)
set_option maxRecDepth 20000 in
theorem gX11_tell_X10_toldBy_u292X10 : GoodIn wsX11_tell (va_wsO RX11 292 RX10 "OilPush$Cylinder" ⟨"OilPush$Cylinder", "toldBy", "(LOilPush$Trace;I)I"⟩ yX10_toldBy wsX10_toldBy) := goodIn_app (goodIn_of _ (by decide +kernel)) ggX11_tell_X10_toldBy
theorem dX11_tell_0 : decode cX11_tell 0 = .ok (.aload_n 0, 1) := by decide +kernel
theorem dX11_tell_1 : decode cX11_tell 1 = .ok (.getfield 12, 3) := by decide +kernel
theorem dX11_tell_4 : decode cX11_tell 4 = .ok (.iload_n 1, 1) := by decide +kernel
theorem dX11_tell_5 : decode cX11_tell 5 = .ok (.invokevirtual 90, 3) := by decide +kernel
theorem dX11_tell_8 : decode cX11_tell 8 = .ok (.astore_n 2, 1) := by decide +kernel
theorem dX11_tell_9 : decode cX11_tell 9 = .ok (.aload_n 2, 1) := by decide +kernel
theorem dX11_tell_10 : decode cX11_tell 10 = .ok (.ifnonnull 7, 3) := by decide +kernel
theorem dX11_tell_13 : decode cX11_tell 13 = .ok (.iconst (-1), 1) := by decide +kernel
theorem dX11_tell_14 : decode cX11_tell 14 = .ok (.goto 22, 3) := by decide +kernel
theorem dX11_tell_17 : decode cX11_tell 17 = .ok (.aload_n 2, 1) := by decide +kernel
theorem dX11_tell_18 : decode cX11_tell 18 = .ok (.aload_n 0, 1) := by decide +kernel
theorem dX11_tell_19 : decode cX11_tell 19 = .ok (.getfield 68, 3) := by decide +kernel
theorem dX11_tell_22 : decode cX11_tell 22 = .ok (.aload_n 0, 1) := by decide +kernel
theorem dX11_tell_23 : decode cX11_tell 23 = .ok (.getfield 21, 3) := by decide +kernel
theorem dX11_tell_26 : decode cX11_tell 26 = .ok (.getfield 149, 3) := by decide +kernel
theorem dX11_tell_29 : decode cX11_tell 29 = .ok (.iload_n 1, 1) := by decide +kernel
theorem dX11_tell_30 : decode cX11_tell 30 = .ok (.invokestatic 181, 3) := by decide +kernel
theorem dX11_tell_33 : decode cX11_tell 33 = .ok (.invokevirtual 292, 3) := by decide +kernel
theorem dX11_tell_36 : decode cX11_tell 36 = .ok (.ireturn, 1) := by decide +kernel
set_option maxRecDepth 100000 in
theorem ggX11_look_X4_at : GoodIn wsX11_look wsX4_at := goodIn_s _ [8, 9, 46, 47, 48, 49, 50] [7] (by decide +kernel) rfl (by decide +kernel)
set_option maxRecDepth 20000 in
theorem gX11_look_X4_at : GoodIn wsX11_look (wsV RX11 90 RX4 yX4_at wsX4_at) := goodIn_app (goodIn_of _ (by decide +kernel)) ggX11_look_X4_at
set_option maxRecDepth 100000 in
theorem ggX11_look_X0_seenBy : GoodIn wsX11_look wsX0_seenBy := goodIn_s _ [15, 16, 17, 18, 19, 21, 51, 52, 53, 54, 55, 56, 57, 58, 59, 60, 61, 62, 63, 64, 65, 66, 67, 68, 69, 70, 71, 72] [14, 20] (by decide +kernel) rfl (by decide +kernel)
set_option maxRecDepth 20000 in
theorem gX11_look_X0_seenBy : GoodIn wsX11_look (wsV RX11 296 RX0 yX0_seenBy wsX0_seenBy) := goodIn_app (goodIn_of _ (by decide +kernel)) ggX11_look_X0_seenBy
set_option maxRecDepth 20000 in
theorem gX11_look_X0_seenBy_u296X2 : GoodIn wsX11_look (va_wsU RX11 296 RX2 "OilPush$Cylinder" ⟨"OilPush$Cylinder", "seenBy", "(LOilPush$Trace;)I"⟩ yX0_seenBy wsX0_seenBy) := goodIn_app (goodIn_of _ (by decide +kernel)) ggX11_look_X0_seenBy
set_option maxRecDepth 100000 in
theorem ggX11_look_X10_seenBy : GoodIn wsX11_look wsX10_seenBy := goodIn_s _ [30, 17, 18, 19, 21, 72] [29, 20] (by decide +kernel) rfl (by decide +kernel)
set_option maxRecDepth 20000 in
theorem gX11_look_X10_seenBy_u296X10 : GoodIn wsX11_look (va_wsO RX11 296 RX10 "OilPush$Cylinder" ⟨"OilPush$Cylinder", "seenBy", "(LOilPush$Trace;)I"⟩ yX10_seenBy wsX10_seenBy) := goodIn_app (goodIn_of _ (by decide +kernel)) ggX11_look_X10_seenBy
theorem dX11_look_0 : decode cX11_look 0 = .ok (.aload_n 0, 1) := by decide +kernel
theorem dX11_look_1 : decode cX11_look 1 = .ok (.getfield 12, 3) := by decide +kernel
theorem dX11_look_4 : decode cX11_look 4 = .ok (.iload_n 1, 1) := by decide +kernel
theorem dX11_look_5 : decode cX11_look 5 = .ok (.invokevirtual 90, 3) := by decide +kernel
theorem dX11_look_8 : decode cX11_look 8 = .ok (.astore_n 2, 1) := by decide +kernel
theorem dX11_look_9 : decode cX11_look 9 = .ok (.aload_n 2, 1) := by decide +kernel
theorem dX11_look_10 : decode cX11_look 10 = .ok (.ifnonnull 7, 3) := by decide +kernel
theorem dX11_look_13 : decode cX11_look 13 = .ok (.iconst (-1), 1) := by decide +kernel
theorem dX11_look_14 : decode cX11_look 14 = .ok (.goto 11, 3) := by decide +kernel
theorem dX11_look_17 : decode cX11_look 17 = .ok (.aload_n 2, 1) := by decide +kernel
theorem dX11_look_18 : decode cX11_look 18 = .ok (.aload_n 0, 1) := by decide +kernel
theorem dX11_look_19 : decode cX11_look 19 = .ok (.getfield 68, 3) := by decide +kernel
theorem dX11_look_22 : decode cX11_look 22 = .ok (.invokevirtual 296, 3) := by decide +kernel
theorem dX11_look_25 : decode cX11_look 25 = .ok (.ireturn, 1) := by decide +kernel
set_option maxRecDepth 100000 in
theorem ggX11_as_X4_at : GoodIn wsX11_as wsX4_at := goodIn_s _ [10, 11, 35, 36, 37, 38, 39] [9] (by decide +kernel) rfl (by decide +kernel)
set_option maxRecDepth 20000 in
theorem gX11_as_X4_at : GoodIn wsX11_as (wsV RX11 90 RX4 yX4_at wsX4_at) := goodIn_app (goodIn_of _ (by decide +kernel)) ggX11_as_X4_at
set_option maxRecDepth 100000 in
theorem ggX11_as_X11_within : GoodIn wsX11_as wsX11_within := goodIn_s _ [] [15] (by decide +kernel) rfl (by decide +kernel)
set_option maxRecDepth 20000 in
theorem gX11_as_X11_within : GoodIn wsX11_as (va_wsS RX11 73 yX11_within wsX11_within) := goodIn_app (goodIn_of _ (by decide +kernel)) ggX11_as_X11_within
set_option maxRecDepth 100000 in
theorem ggX11_as_X11_faulted : GoodIn wsX11_as wsX11_faulted := goodIn_s _ [1, 20, 21, 22, 23, 24, 25, 26, 27, 28, 29, 30, 31, 32, 33, 34] [19] (by decide +kernel) rfl (by decide +kernel)
set_option maxRecDepth 20000 in
theorem gX11_as_X11_faulted : GoodIn wsX11_as (wsV RX11 124 RX11 yX11_faulted wsX11_faulted) := goodIn_app (goodIn_of _ (by decide +kernel)) ggX11_as_X11_faulted
theorem dX11_as_0 : decode cX11_as 0 = .ok (.aload_n 0, 1) := by decide +kernel
theorem dX11_as_1 : decode cX11_as 1 = .ok (.iconst 0, 1) := by decide +kernel
theorem dX11_as_2 : decode cX11_as 2 = .ok (.putfield 110, 3) := by decide +kernel
theorem dX11_as_5 : decode cX11_as 5 = .ok (.aload_n 0, 1) := by decide +kernel
theorem dX11_as_6 : decode cX11_as 6 = .ok (.getfield 12, 3) := by decide +kernel
theorem dX11_as_9 : decode cX11_as 9 = .ok (.iload_n 1, 1) := by decide +kernel
theorem dX11_as_10 : decode cX11_as 10 = .ok (.invokevirtual 90, 3) := by decide +kernel
theorem dX11_as_13 : decode cX11_as 13 = .ok (.astore_n 3, 1) := by decide +kernel
theorem dX11_as_14 : decode cX11_as 14 = .ok (.aload_n 3, 1) := by decide +kernel
theorem dX11_as_15 : decode cX11_as 15 = .ok (.ifnonnull 5, 3) := by decide +kernel
theorem dX11_as_18 : decode cX11_as 18 = .ok (.iconst (-1), 1) := by decide +kernel
theorem dX11_as_19 : decode cX11_as 19 = .ok (.ireturn, 1) := by decide +kernel
theorem dX11_as_20 : decode cX11_as 20 = .ok (.iload_n 2, 1) := by decide +kernel
theorem dX11_as_21 : decode cX11_as 21 = .ok (.iconst 0, 1) := by decide +kernel
theorem dX11_as_22 : decode cX11_as 22 = .ok (.iconst 2, 1) := by decide +kernel
theorem dX11_as_23 : decode cX11_as 23 = .ok (.invokestatic 73, 3) := by decide +kernel
theorem dX11_as_26 : decode cX11_as 26 = .ok (.ifCond .ne 6, 3) := by decide +kernel
theorem dX11_as_29 : decode cX11_as 29 = .ok (.bipush (-2), 2) := by decide +kernel
theorem dX11_as_31 : decode cX11_as 31 = .ok (.ireturn, 1) := by decide +kernel
theorem dX11_as_32 : decode cX11_as 32 = .ok (.iload_n 2, 1) := by decide +kernel
theorem dX11_as_33 : decode cX11_as 33 = .ok (.ifCond .eq 25, 3) := by decide +kernel
theorem dX11_as_36 : decode cX11_as 36 = .ok (.iload_n 2, 1) := by decide +kernel
theorem dX11_as_37 : decode cX11_as 37 = .ok (.iconst 1, 1) := by decide +kernel
theorem dX11_as_38 : decode cX11_as 38 = .ok (.if_icmp .ne 13, 3) := by decide +kernel
theorem dX11_as_41 : decode cX11_as 41 = .ok (.aload_n 3, 1) := by decide +kernel
theorem dX11_as_42 : decode cX11_as 42 = .ok (.instanceof 300, 3) := by decide +kernel
theorem dX11_as_45 : decode cX11_as 45 = .ok (.ifCond .eq 17, 3) := by decide +kernel
theorem dX11_as_48 : decode cX11_as 48 = .ok (.goto 10, 3) := by decide +kernel
theorem dX11_as_51 : decode cX11_as 51 = .ok (.aload_n 3, 1) := by decide +kernel
theorem dX11_as_52 : decode cX11_as 52 = .ok (.instanceof 302, 3) := by decide +kernel
theorem dX11_as_55 : decode cX11_as 55 = .ok (.ifCond .eq 7, 3) := by decide +kernel
theorem dX11_as_58 : decode cX11_as 58 = .ok (.iconst 1, 1) := by decide +kernel
theorem dX11_as_59 : decode cX11_as 59 = .ok (.goto 4, 3) := by decide +kernel
theorem dX11_as_62 : decode cX11_as 62 = .ok (.iconst 0, 1) := by decide +kernel
theorem dX11_as_63 : decode cX11_as 63 = .ok (.istore 4, 2) := by decide +kernel
theorem dX11_as_65 : decode cX11_as 65 = .ok (.iload 4, 2) := by decide +kernel
theorem dX11_as_67 : decode cX11_as 67 = .ok (.ifCond .eq 7, 3) := by decide +kernel
theorem dX11_as_70 : decode cX11_as 70 = .ok (.iconst 1, 1) := by decide +kernel
theorem dX11_as_71 : decode cX11_as 71 = .ok (.goto 8, 3) := by decide +kernel
theorem dX11_as_74 : decode cX11_as 74 = .ok (.aload_n 0, 1) := by decide +kernel
theorem dX11_as_75 : decode cX11_as 75 = .ok (.iconst 2, 1) := by decide +kernel
theorem dX11_as_76 : decode cX11_as 76 = .ok (.invokevirtual 124, 3) := by decide +kernel
theorem dX11_as_79 : decode cX11_as 79 = .ok (.ireturn, 1) := by decide +kernel
theorem dX11_trace_0 : decode cX11_trace 0 = .ok (.aload_n 0, 1) := by decide +kernel
theorem dX11_trace_1 : decode cX11_trace 1 = .ok (.getfield 68, 3) := by decide +kernel
theorem dX11_trace_4 : decode cX11_trace 4 = .ok (.getfield 304, 3) := by decide +kernel
theorem dX11_trace_7 : decode cX11_trace 7 = .ok (.ireturn, 1) := by decide +kernel
theorem dX11_fault_0 : decode cX11_fault 0 = .ok (.aload_n 0, 1) := by decide +kernel
theorem dX11_fault_1 : decode cX11_fault 1 = .ok (.getfield 110, 3) := by decide +kernel
theorem dX11_fault_4 : decode cX11_fault 4 = .ok (.ireturn, 1) := by decide +kernel
set_option maxRecDepth 100000 in
theorem ggX11_told_X4_howManyAt : GoodIn wsX11_told wsX4_howManyAt := goodIn_s _ [14, 15, 16, 17, 18, 12, 20, 21, 22, 24, 25, 26, 27, 29, 30, 31, 33, 34, 35, 36, 37, 38, 39, 40, 41, 42, 58, 59, 60, 61, 62, 72, 73, 74, 75, 76, 77, 78, 79, 80, 81, 82, 83, 84, 85, 86, 87, 88, 89, 90, 91, 92, 93, 94, 95, 96, 97] [13, 19, 23, 28, 32] (by decide +kernel) rfl (by decide +kernel)
set_option maxRecDepth 20000 in
theorem gX11_told_X4_howManyAt : GoodIn wsX11_told (wsV RX11 307 RX4 yX4_howManyAt wsX4_howManyAt) := goodIn_app (goodIn_of _ (by decide +kernel)) ggX11_told_X4_howManyAt
theorem dX11_told_0 : decode cX11_told 0 = .ok (.iload_n 1, 1) := by decide +kernel
theorem dX11_told_1 : decode cX11_told 1 = .ok (.tableswitch 94 0 5 #[39, 47, 55, 63, 68, 81], 39) := by decide +kernel
theorem dX11_told_40 : decode cX11_told 40 = .ok (.aload_n 0, 1) := by decide +kernel
theorem dX11_told_41 : decode cX11_told 41 = .ok (.getfield 12, 3) := by decide +kernel
theorem dX11_told_44 : decode cX11_told 44 = .ok (.getfield 87, 3) := by decide +kernel
theorem dX11_told_47 : decode cX11_told 47 = .ok (.ireturn, 1) := by decide +kernel
theorem dX11_told_48 : decode cX11_told 48 = .ok (.aload_n 0, 1) := by decide +kernel
theorem dX11_told_49 : decode cX11_told 49 = .ok (.getfield 35, 3) := by decide +kernel
theorem dX11_told_52 : decode cX11_told 52 = .ok (.getfield 244, 3) := by decide +kernel
theorem dX11_told_55 : decode cX11_told 55 = .ok (.ireturn, 1) := by decide +kernel
theorem dX11_told_56 : decode cX11_told 56 = .ok (.aload_n 0, 1) := by decide +kernel
theorem dX11_told_57 : decode cX11_told 57 = .ok (.getfield 55, 3) := by decide +kernel
theorem dX11_told_60 : decode cX11_told 60 = .ok (.getfield 256, 3) := by decide +kernel
theorem dX11_told_63 : decode cX11_told 63 = .ok (.ireturn, 1) := by decide +kernel
theorem dX11_told_64 : decode cX11_told 64 = .ok (.aload_n 0, 1) := by decide +kernel
theorem dX11_told_65 : decode cX11_told 65 = .ok (.getfield 197, 3) := by decide +kernel
theorem dX11_told_68 : decode cX11_told 68 = .ok (.ireturn, 1) := by decide +kernel
theorem dX11_told_69 : decode cX11_told 69 = .ok (.aload_n 0, 1) := by decide +kernel
theorem dX11_told_70 : decode cX11_told 70 = .ok (.getfield 12, 3) := by decide +kernel
theorem dX11_told_73 : decode cX11_told 73 = .ok (.iconst 1, 1) := by decide +kernel
theorem dX11_told_74 : decode cX11_told 74 = .ok (.aload_n 0, 1) := by decide +kernel
theorem dX11_told_75 : decode cX11_told 75 = .ok (.getfield 21, 3) := by decide +kernel
end
section
theorem dX11_told_78 : decode cX11_told 78 = .ok (.invokevirtual 307, 3) := by decide +kernel
theorem dX11_told_81 : decode cX11_told 81 = .ok (.ireturn, 1) := by decide +kernel
theorem dX11_told_82 : decode cX11_told 82 = .ok (.aload_n 0, 1) := by decide +kernel
theorem dX11_told_83 : decode cX11_told 83 = .ok (.getfield 12, 3) := by decide +kernel
theorem dX11_told_86 : decode cX11_told 86 = .ok (.iconst 2, 1) := by decide +kernel
theorem dX11_told_87 : decode cX11_told 87 = .ok (.aload_n 0, 1) := by decide +kernel
theorem dX11_told_88 : decode cX11_told 88 = .ok (.getfield 21, 3) := by decide +kernel
theorem dX11_told_91 : decode cX11_told 91 = .ok (.invokevirtual 307, 3) := by decide +kernel
theorem dX11_told_94 : decode cX11_told 94 = .ok (.ireturn, 1) := by decide +kernel
theorem dX11_told_95 : decode cX11_told 95 = .ok (.bipush (-2), 2) := by decide +kernel
theorem dX11_told_97 : decode cX11_told 97 = .ok (.ireturn, 1) := by decide +kernel
theorem dX11_get_0 : decode cX11_get 0 = .ok (.iload_n 1, 1) := by decide +kernel
theorem dX11_get_1 : decode cX11_get 1 = .ok (.ifCond .lt 15, 3) := by decide +kernel
theorem dX11_get_4 : decode cX11_get 4 = .ok (.iload_n 1, 1) := by decide +kernel
theorem dX11_get_5 : decode cX11_get 5 = .ok (.aload_n 0, 1) := by decide +kernel
theorem dX11_get_6 : decode cX11_get 6 = .ok (.arraylength, 1) := by decide +kernel
theorem dX11_get_7 : decode cX11_get 7 = .ok (.if_icmp .ge 9, 3) := by decide +kernel
theorem dX11_get_10 : decode cX11_get 10 = .ok (.aload_n 0, 1) := by decide +kernel
theorem dX11_get_11 : decode cX11_get 11 = .ok (.iload_n 1, 1) := by decide +kernel
theorem dX11_get_12 : decode cX11_get 12 = .ok (.iaload, 1) := by decide +kernel
theorem dX11_get_13 : decode cX11_get 13 = .ok (.goto 4, 3) := by decide +kernel
theorem dX11_get_16 : decode cX11_get 16 = .ok (.iconst 0, 1) := by decide +kernel
theorem dX11_get_17 : decode cX11_get 17 = .ok (.ireturn, 1) := by decide +kernel
theorem dX11_set_0 : decode cX11_set 0 = .ok (.iload_n 1, 1) := by decide +kernel
theorem dX11_set_1 : decode cX11_set 1 = .ok (.ifCond .lt 13, 3) := by decide +kernel
theorem dX11_set_4 : decode cX11_set 4 = .ok (.iload_n 1, 1) := by decide +kernel
theorem dX11_set_5 : decode cX11_set 5 = .ok (.aload_n 0, 1) := by decide +kernel
theorem dX11_set_6 : decode cX11_set 6 = .ok (.arraylength, 1) := by decide +kernel
theorem dX11_set_7 : decode cX11_set 7 = .ok (.if_icmp .ge 7, 3) := by decide +kernel
theorem dX11_set_10 : decode cX11_set 10 = .ok (.aload_n 0, 1) := by decide +kernel
theorem dX11_set_11 : decode cX11_set 11 = .ok (.iload_n 1, 1) := by decide +kernel
theorem dX11_set_12 : decode cX11_set 12 = .ok (.iload_n 2, 1) := by decide +kernel
theorem dX11_set_13 : decode cX11_set 13 = .ok (.iastore, 1) := by decide +kernel
theorem dX11_set_14 : decode cX11_set 14 = .ok (.return_, 1) := by decide +kernel
set_option maxRecDepth 100000 in
theorem ggX11_swap_X11_get : GoodIn wsX11_swap wsX11_get := goodIn_s _ [] [4] (by decide +kernel) rfl (by decide +kernel)
set_option maxRecDepth 20000 in
theorem gX11_swap_X11_get : GoodIn wsX11_swap (va_wsS RX11 181 yX11_get wsX11_get) := goodIn_app (goodIn_of _ (by decide +kernel)) ggX11_swap_X11_get
set_option maxRecDepth 100000 in
theorem ggX11_swap_X11_set : GoodIn wsX11_swap wsX11_set := goodIn_s _ [] [7] (by decide +kernel) rfl (by decide +kernel)
set_option maxRecDepth 20000 in
theorem gX11_swap_X11_set : GoodIn wsX11_swap (va_wsS RX11 266 yX11_set wsX11_set) := goodIn_app (goodIn_of _ (by decide +kernel)) ggX11_swap_X11_set
theorem dX11_swap_0 : decode cX11_swap 0 = .ok (.aload_n 0, 1) := by decide +kernel
theorem dX11_swap_1 : decode cX11_swap 1 = .ok (.iload_n 1, 1) := by decide +kernel
theorem dX11_swap_2 : decode cX11_swap 2 = .ok (.invokestatic 181, 3) := by decide +kernel
theorem dX11_swap_5 : decode cX11_swap 5 = .ok (.istore_n 3, 1) := by decide +kernel
theorem dX11_swap_6 : decode cX11_swap 6 = .ok (.aload_n 0, 1) := by decide +kernel
theorem dX11_swap_7 : decode cX11_swap 7 = .ok (.iload_n 1, 1) := by decide +kernel
theorem dX11_swap_8 : decode cX11_swap 8 = .ok (.iload_n 2, 1) := by decide +kernel
theorem dX11_swap_9 : decode cX11_swap 9 = .ok (.invokestatic 266, 3) := by decide +kernel
theorem dX11_swap_12 : decode cX11_swap 12 = .ok (.iload_n 3, 1) := by decide +kernel
theorem dX11_swap_13 : decode cX11_swap 13 = .ok (.ireturn, 1) := by decide +kernel
theorem dX11_within_0 : decode cX11_within 0 = .ok (.iload_n 0, 1) := by decide +kernel
theorem dX11_within_1 : decode cX11_within 1 = .ok (.iload_n 1, 1) := by decide +kernel
theorem dX11_within_2 : decode cX11_within 2 = .ok (.if_icmp .lt 12, 3) := by decide +kernel
theorem dX11_within_5 : decode cX11_within 5 = .ok (.iload_n 0, 1) := by decide +kernel
theorem dX11_within_6 : decode cX11_within 6 = .ok (.iload_n 2, 1) := by decide +kernel
theorem dX11_within_7 : decode cX11_within 7 = .ok (.if_icmp .gt 7, 3) := by decide +kernel
theorem dX11_within_10 : decode cX11_within 10 = .ok (.iconst 1, 1) := by decide +kernel
theorem dX11_within_11 : decode cX11_within 11 = .ok (.goto 4, 3) := by decide +kernel
theorem dX11_within_14 : decode cX11_within 14 = .ok (.iconst 0, 1) := by decide +kernel
theorem dX11_within_15 : decode cX11_within 15 = .ok (.ireturn, 1) := by decide +kernel
set_option maxRecDepth 100000 in
theorem ggX11_isLane_X11_within : GoodIn wsX11_isLane wsX11_within := goodIn_s _ [] [4] (by decide +kernel) rfl (by decide +kernel)
set_option maxRecDepth 20000 in
theorem gX11_isLane_X11_within : GoodIn wsX11_isLane (va_wsS RX11 73 yX11_within wsX11_within) := goodIn_app (goodIn_of _ (by decide +kernel)) ggX11_isLane_X11_within
theorem dX11_isLane_0 : decode cX11_isLane 0 = .ok (.iload_n 0, 1) := by decide +kernel
theorem dX11_isLane_1 : decode cX11_isLane 1 = .ok (.iconst 0, 1) := by decide +kernel
theorem dX11_isLane_2 : decode cX11_isLane 2 = .ok (.iconst 2, 1) := by decide +kernel
theorem dX11_isLane_3 : decode cX11_isLane 3 = .ok (.invokestatic 73, 3) := by decide +kernel
theorem dX11_isLane_6 : decode cX11_isLane 6 = .ok (.ireturn, 1) := by decide +kernel
theorem dX11_sheetAt_0 : decode cX11_sheetAt 0 = .ok (.iload_n 1, 1) := by decide +kernel
theorem dX11_sheetAt_1 : decode cX11_sheetAt 1 = .ok (.ifCond .lt 21, 3) := by decide +kernel
theorem dX11_sheetAt_4 : decode cX11_sheetAt 4 = .ok (.iload_n 1, 1) := by decide +kernel
theorem dX11_sheetAt_5 : decode cX11_sheetAt 5 = .ok (.aload_n 0, 1) := by decide +kernel
theorem dX11_sheetAt_6 : decode cX11_sheetAt 6 = .ok (.getfield 61, 3) := by decide +kernel
theorem dX11_sheetAt_9 : decode cX11_sheetAt 9 = .ok (.arraylength, 1) := by decide +kernel
theorem dX11_sheetAt_10 : decode cX11_sheetAt 10 = .ok (.if_icmp .ge 12, 3) := by decide +kernel
theorem dX11_sheetAt_13 : decode cX11_sheetAt 13 = .ok (.aload_n 0, 1) := by decide +kernel
theorem dX11_sheetAt_14 : decode cX11_sheetAt 14 = .ok (.getfield 61, 3) := by decide +kernel
theorem dX11_sheetAt_17 : decode cX11_sheetAt 17 = .ok (.iload_n 1, 1) := by decide +kernel
theorem dX11_sheetAt_18 : decode cX11_sheetAt 18 = .ok (.aaload, 1) := by decide +kernel
theorem dX11_sheetAt_19 : decode cX11_sheetAt 19 = .ok (.goto 4, 3) := by decide +kernel
theorem dX11_sheetAt_22 : decode cX11_sheetAt 22 = .ok (.aconst_null, 1) := by decide +kernel
theorem dX11_sheetAt_23 : decode cX11_sheetAt 23 = .ok (.areturn, 1) := by decide +kernel
theorem dX11_faulted_0 : decode cX11_faulted 0 = .ok (.aload_n 0, 1) := by decide +kernel
theorem dX11_faulted_1 : decode cX11_faulted 1 = .ok (.iload_n 1, 1) := by decide +kernel
theorem dX11_faulted_2 : decode cX11_faulted 2 = .ok (.putfield 110, 3) := by decide +kernel
theorem dX11_faulted_5 : decode cX11_faulted 5 = .ok (.bipush (-10), 2) := by decide +kernel
theorem dX11_faulted_7 : decode cX11_faulted 7 = .ok (.iload_n 1, 1) := by decide +kernel
theorem dX11_faulted_8 : decode cX11_faulted 8 = .ok (.isub, 1) := by decide +kernel
theorem dX11_faulted_9 : decode cX11_faulted 9 = .ok (.ireturn, 1) := by decide +kernel
theorem dX12_init_0 : decode cX12_init 0 = .ok (.aload_n 0, 1) := by decide +kernel
theorem dX12_init_1 : decode cX12_init 1 = .ok (.invokespecial 1, 3) := by decide +kernel
theorem dX12_init_4 : decode cX12_init 4 = .ok (.aload_n 0, 1) := by decide +kernel
theorem dX12_init_5 : decode cX12_init 5 = .ok (.iconst 4, 1) := by decide +kernel
theorem dX12_init_6 : decode cX12_init 6 = .ok (.newarray .int, 2) := by decide +kernel
theorem dX12_init_8 : decode cX12_init 8 = .ok (.putfield 7, 3) := by decide +kernel
theorem dX12_init_11 : decode cX12_init 11 = .ok (.aload_n 0, 1) := by decide +kernel
theorem dX12_init_12 : decode cX12_init 12 = .ok (.iconst 4, 1) := by decide +kernel
theorem dX12_init_13 : decode cX12_init 13 = .ok (.newarray .int, 2) := by decide +kernel
theorem dX12_init_15 : decode cX12_init 15 = .ok (.putfield 13, 3) := by decide +kernel
theorem dX12_init_18 : decode cX12_init 18 = .ok (.aload_n 0, 1) := by decide +kernel
theorem dX12_init_19 : decode cX12_init 19 = .ok (.bipush 80, 2) := by decide +kernel
theorem dX12_init_21 : decode cX12_init 21 = .ok (.newarray .int, 2) := by decide +kernel
theorem dX12_init_23 : decode cX12_init 23 = .ok (.putfield 16, 3) := by decide +kernel
theorem dX12_init_26 : decode cX12_init 26 = .ok (.aload_n 0, 1) := by decide +kernel
theorem dX12_init_27 : decode cX12_init 27 = .ok (.bipush 20, 2) := by decide +kernel
theorem dX12_init_29 : decode cX12_init 29 = .ok (.newarray .int, 2) := by decide +kernel
theorem dX12_init_31 : decode cX12_init 31 = .ok (.putfield 19, 3) := by decide +kernel
theorem dX12_init_34 : decode cX12_init 34 = .ok (.aload_n 0, 1) := by decide +kernel
theorem dX12_init_35 : decode cX12_init 35 = .ok (.bipush 6, 2) := by decide +kernel
theorem dX12_init_37 : decode cX12_init 37 = .ok (.newarray .int, 2) := by decide +kernel
theorem dX12_init_39 : decode cX12_init 39 = .ok (.putfield 22, 3) := by decide +kernel
theorem dX12_init_42 : decode cX12_init 42 = .ok (.aload_n 0, 1) := by decide +kernel
theorem dX12_init_43 : decode cX12_init 43 = .ok (.bipush 6, 2) := by decide +kernel
theorem dX12_init_45 : decode cX12_init 45 = .ok (.newarray .int, 2) := by decide +kernel
theorem dX12_init_47 : decode cX12_init 47 = .ok (.putfield 25, 3) := by decide +kernel
theorem dX12_init_50 : decode cX12_init 50 = .ok (.aload_n 0, 1) := by decide +kernel
theorem dX12_init_51 : decode cX12_init 51 = .ok (.bipush 6, 2) := by decide +kernel
theorem dX12_init_53 : decode cX12_init 53 = .ok (.newarray .int, 2) := by decide +kernel
theorem dX12_init_55 : decode cX12_init 55 = .ok (.putfield 28, 3) := by decide +kernel
theorem dX12_init_58 : decode cX12_init 58 = .ok (.aload_n 0, 1) := by decide +kernel
theorem dX12_init_59 : decode cX12_init 59 = .ok (.bipush 6, 2) := by decide +kernel
theorem dX12_init_61 : decode cX12_init 61 = .ok (.newarray .int, 2) := by decide +kernel
theorem dX12_init_63 : decode cX12_init 63 = .ok (.putfield 31, 3) := by decide +kernel
theorem dX12_init_66 : decode cX12_init 66 = .ok (.aload_n 0, 1) := by decide +kernel
theorem dX12_init_67 : decode cX12_init 67 = .ok (.bipush 6, 2) := by decide +kernel
theorem dX12_init_69 : decode cX12_init 69 = .ok (.newarray .int, 2) := by decide +kernel
theorem dX12_init_71 : decode cX12_init 71 = .ok (.putfield 34, 3) := by decide +kernel
theorem dX12_init_74 : decode cX12_init 74 = .ok (.aload_n 0, 1) := by decide +kernel
theorem dX12_init_75 : decode cX12_init 75 = .ok (.bipush 60, 2) := by decide +kernel
theorem dX12_init_77 : decode cX12_init 77 = .ok (.newarray .int, 2) := by decide +kernel
theorem dX12_init_79 : decode cX12_init 79 = .ok (.putfield 37, 3) := by decide +kernel
theorem dX12_init_82 : decode cX12_init 82 = .ok (.aload_n 0, 1) := by decide +kernel
theorem dX12_init_83 : decode cX12_init 83 = .ok (.bipush 6, 2) := by decide +kernel
theorem dX12_init_85 : decode cX12_init 85 = .ok (.newarray .int, 2) := by decide +kernel
theorem dX12_init_87 : decode cX12_init 87 = .ok (.putfield 40, 3) := by decide +kernel
theorem dX12_init_90 : decode cX12_init 90 = .ok (.aload_n 0, 1) := by decide +kernel
theorem dX12_init_91 : decode cX12_init 91 = .ok (.bipush 6, 2) := by decide +kernel
theorem dX12_init_93 : decode cX12_init 93 = .ok (.newarray .int, 2) := by decide +kernel
theorem dX12_init_95 : decode cX12_init 95 = .ok (.putfield 43, 3) := by decide +kernel
theorem dX12_init_98 : decode cX12_init 98 = .ok (.aload_n 0, 1) := by decide +kernel
theorem dX12_init_99 : decode cX12_init 99 = .ok (.bipush 6, 2) := by decide +kernel
theorem dX12_init_101 : decode cX12_init 101 = .ok (.newarray .int, 2) := by decide +kernel
theorem dX12_init_103 : decode cX12_init 103 = .ok (.putfield 46, 3) := by decide +kernel
theorem dX12_init_106 : decode cX12_init 106 = .ok (.aload_n 0, 1) := by decide +kernel
theorem dX12_init_107 : decode cX12_init 107 = .ok (.bipush 6, 2) := by decide +kernel
theorem dX12_init_109 : decode cX12_init 109 = .ok (.newarray .int, 2) := by decide +kernel
theorem dX12_init_111 : decode cX12_init 111 = .ok (.putfield 49, 3) := by decide +kernel
theorem dX12_init_114 : decode cX12_init 114 = .ok (.aload_n 0, 1) := by decide +kernel
theorem dX12_init_115 : decode cX12_init 115 = .ok (.bipush 6, 2) := by decide +kernel
theorem dX12_init_117 : decode cX12_init 117 = .ok (.newarray .boolean, 2) := by decide +kernel
theorem dX12_init_119 : decode cX12_init 119 = .ok (.putfield 52, 3) := by decide +kernel
theorem dX12_init_122 : decode cX12_init 122 = .ok (.aload_n 0, 1) := by decide +kernel
theorem dX12_init_123 : decode cX12_init 123 = .ok (.bipush 6, 2) := by decide +kernel
theorem dX12_init_125 : decode cX12_init 125 = .ok (.newarray .int, 2) := by decide +kernel
theorem dX12_init_127 : decode cX12_init 127 = .ok (.putfield 56, 3) := by decide +kernel
theorem dX12_init_130 : decode cX12_init 130 = .ok (.aload_n 0, 1) := by decide +kernel
theorem dX12_init_131 : decode cX12_init 131 = .ok (.bipush 30, 2) := by decide +kernel
theorem dX12_init_133 : decode cX12_init 133 = .ok (.newarray .int, 2) := by decide +kernel
theorem dX12_init_135 : decode cX12_init 135 = .ok (.putfield 59, 3) := by decide +kernel
theorem dX12_init_138 : decode cX12_init 138 = .ok (.aload_n 0, 1) := by decide +kernel
theorem dX12_init_139 : decode cX12_init 139 = .ok (.bipush 30, 2) := by decide +kernel
theorem dX12_init_141 : decode cX12_init 141 = .ok (.newarray .int, 2) := by decide +kernel
theorem dX12_init_143 : decode cX12_init 143 = .ok (.putfield 62, 3) := by decide +kernel
theorem dX12_init_146 : decode cX12_init 146 = .ok (.aload_n 0, 1) := by decide +kernel
theorem dX12_init_147 : decode cX12_init 147 = .ok (.bipush 30, 2) := by decide +kernel
theorem dX12_init_149 : decode cX12_init 149 = .ok (.newarray .int, 2) := by decide +kernel
theorem dX12_init_151 : decode cX12_init 151 = .ok (.putfield 65, 3) := by decide +kernel
theorem dX12_init_154 : decode cX12_init 154 = .ok (.aload_n 0, 1) := by decide +kernel
theorem dX12_init_155 : decode cX12_init 155 = .ok (.bipush 30, 2) := by decide +kernel
theorem dX12_init_157 : decode cX12_init 157 = .ok (.newarray .int, 2) := by decide +kernel
theorem dX12_init_159 : decode cX12_init 159 = .ok (.putfield 68, 3) := by decide +kernel
theorem dX12_init_162 : decode cX12_init 162 = .ok (.aload_n 0, 1) := by decide +kernel
theorem dX12_init_163 : decode cX12_init 163 = .ok (.bipush 6, 2) := by decide +kernel
theorem dX12_init_165 : decode cX12_init 165 = .ok (.newarray .int, 2) := by decide +kernel
theorem dX12_init_167 : decode cX12_init 167 = .ok (.putfield 71, 3) := by decide +kernel
theorem dX12_init_170 : decode cX12_init 170 = .ok (.aload_n 0, 1) := by decide +kernel
theorem dX12_init_171 : decode cX12_init 171 = .ok (.bipush 6, 2) := by decide +kernel
theorem dX12_init_173 : decode cX12_init 173 = .ok (.newarray .int, 2) := by decide +kernel
theorem dX12_init_175 : decode cX12_init 175 = .ok (.putfield 74, 3) := by decide +kernel
theorem dX12_init_178 : decode cX12_init 178 = .ok (.aload_n 0, 1) := by decide +kernel
theorem dX12_init_179 : decode cX12_init 179 = .ok (.bipush 6, 2) := by decide +kernel
theorem dX12_init_181 : decode cX12_init 181 = .ok (.newarray .int, 2) := by decide +kernel
theorem dX12_init_183 : decode cX12_init 183 = .ok (.putfield 77, 3) := by decide +kernel
theorem dX12_init_186 : decode cX12_init 186 = .ok (.aload_n 0, 1) := by decide +kernel
theorem dX12_init_187 : decode cX12_init 187 = .ok (.bipush 6, 2) := by decide +kernel
theorem dX12_init_189 : decode cX12_init 189 = .ok (.newarray .int, 2) := by decide +kernel
theorem dX12_init_191 : decode cX12_init 191 = .ok (.putfield 80, 3) := by decide +kernel
theorem dX12_init_194 : decode cX12_init 194 = .ok (.aload_n 0, 1) := by decide +kernel
theorem dX12_init_195 : decode cX12_init 195 = .ok (.bipush 6, 2) := by decide +kernel
theorem dX12_init_197 : decode cX12_init 197 = .ok (.newarray .int, 2) := by decide +kernel
theorem dX12_init_199 : decode cX12_init 199 = .ok (.putfield 83, 3) := by decide +kernel
theorem dX12_init_202 : decode cX12_init 202 = .ok (.aload_n 0, 1) := by decide +kernel
theorem dX12_init_203 : decode cX12_init 203 = .ok (.bipush 6, 2) := by decide +kernel
theorem dX12_init_205 : decode cX12_init 205 = .ok (.newarray .int, 2) := by decide +kernel
theorem dX12_init_207 : decode cX12_init 207 = .ok (.putfield 86, 3) := by decide +kernel
theorem dX12_init_210 : decode cX12_init 210 = .ok (.aload_n 0, 1) := by decide +kernel
theorem dX12_init_211 : decode cX12_init 211 = .ok (.bipush 6, 2) := by decide +kernel
theorem dX12_init_213 : decode cX12_init 213 = .ok (.newarray .int, 2) := by decide +kernel
theorem dX12_init_215 : decode cX12_init 215 = .ok (.putfield 89, 3) := by decide +kernel
theorem dX12_init_218 : decode cX12_init 218 = .ok (.aload_n 0, 1) := by decide +kernel
theorem dX12_init_219 : decode cX12_init 219 = .ok (.bipush 6, 2) := by decide +kernel
theorem dX12_init_221 : decode cX12_init 221 = .ok (.newarray .boolean, 2) := by decide +kernel
theorem dX12_init_223 : decode cX12_init 223 = .ok (.putfield 92, 3) := by decide +kernel
theorem dX12_init_226 : decode cX12_init 226 = .ok (.aload_n 0, 1) := by decide +kernel
theorem dX12_init_227 : decode cX12_init 227 = .ok (.bipush 20, 2) := by decide +kernel
theorem dX12_init_229 : decode cX12_init 229 = .ok (.newarray .int, 2) := by decide +kernel
theorem dX12_init_231 : decode cX12_init 231 = .ok (.putfield 95, 3) := by decide +kernel
theorem dX12_init_234 : decode cX12_init 234 = .ok (.aload_n 0, 1) := by decide +kernel
theorem dX12_init_235 : decode cX12_init 235 = .ok (.bipush 20, 2) := by decide +kernel
theorem dX12_init_237 : decode cX12_init 237 = .ok (.newarray .int, 2) := by decide +kernel
theorem dX12_init_239 : decode cX12_init 239 = .ok (.putfield 98, 3) := by decide +kernel
theorem dX12_init_242 : decode cX12_init 242 = .ok (.aload_n 0, 1) := by decide +kernel
theorem dX12_init_243 : decode cX12_init 243 = .ok (.bipush 20, 2) := by decide +kernel
theorem dX12_init_245 : decode cX12_init 245 = .ok (.newarray .int, 2) := by decide +kernel
theorem dX12_init_247 : decode cX12_init 247 = .ok (.putfield 101, 3) := by decide +kernel
theorem dX12_init_250 : decode cX12_init 250 = .ok (.aload_n 0, 1) := by decide +kernel
theorem dX12_init_251 : decode cX12_init 251 = .ok (.bipush 6, 2) := by decide +kernel
theorem dX12_init_253 : decode cX12_init 253 = .ok (.newarray .int, 2) := by decide +kernel
theorem dX12_init_255 : decode cX12_init 255 = .ok (.putfield 104, 3) := by decide +kernel
theorem dX12_init_258 : decode cX12_init 258 = .ok (.aload_n 0, 1) := by decide +kernel
theorem dX12_init_259 : decode cX12_init 259 = .ok (.bipush 6, 2) := by decide +kernel
theorem dX12_init_261 : decode cX12_init 261 = .ok (.newarray .int, 2) := by decide +kernel
theorem dX12_init_263 : decode cX12_init 263 = .ok (.putfield 107, 3) := by decide +kernel
theorem dX12_init_266 : decode cX12_init 266 = .ok (.aload_n 0, 1) := by decide +kernel
theorem dX12_init_267 : decode cX12_init 267 = .ok (.bipush 6, 2) := by decide +kernel
theorem dX12_init_269 : decode cX12_init 269 = .ok (.newarray .int, 2) := by decide +kernel
theorem dX12_init_271 : decode cX12_init 271 = .ok (.putfield 110, 3) := by decide +kernel
theorem dX12_init_274 : decode cX12_init 274 = .ok (.aload_n 0, 1) := by decide +kernel
theorem dX12_init_275 : decode cX12_init 275 = .ok (.bipush 6, 2) := by decide +kernel
theorem dX12_init_277 : decode cX12_init 277 = .ok (.newarray .int, 2) := by decide +kernel
theorem dX12_init_279 : decode cX12_init 279 = .ok (.putfield 113, 3) := by decide +kernel
theorem dX12_init_282 : decode cX12_init 282 = .ok (.aload_n 0, 1) := by decide +kernel
theorem dX12_init_283 : decode cX12_init 283 = .ok (.bipush 6, 2) := by decide +kernel
theorem dX12_init_285 : decode cX12_init 285 = .ok (.newarray .int, 2) := by decide +kernel
theorem dX12_init_287 : decode cX12_init 287 = .ok (.putfield 116, 3) := by decide +kernel
theorem dX12_init_290 : decode cX12_init 290 = .ok (.aload_n 0, 1) := by decide +kernel
theorem dX12_init_291 : decode cX12_init 291 = .ok (.bipush 6, 2) := by decide +kernel
theorem dX12_init_293 : decode cX12_init 293 = .ok (.newarray .boolean, 2) := by decide +kernel
theorem dX12_init_295 : decode cX12_init 295 = .ok (.putfield 119, 3) := by decide +kernel
theorem dX12_init_298 : decode cX12_init 298 = .ok (.aload_n 0, 1) := by decide +kernel
theorem dX12_init_299 : decode cX12_init 299 = .ok (.bipush 6, 2) := by decide +kernel
theorem dX12_init_301 : decode cX12_init 301 = .ok (.newarray .int, 2) := by decide +kernel
theorem dX12_init_303 : decode cX12_init 303 = .ok (.putfield 122, 3) := by decide +kernel
theorem dX12_init_306 : decode cX12_init 306 = .ok (.aload_n 0, 1) := by decide +kernel
theorem dX12_init_307 : decode cX12_init 307 = .ok (.iconst 3, 1) := by decide +kernel
theorem dX12_init_308 : decode cX12_init 308 = .ok (.newarray .long, 2) := by decide +kernel
theorem dX12_init_310 : decode cX12_init 310 = .ok (.putfield 125, 3) := by decide +kernel
theorem dX12_init_313 : decode cX12_init 313 = .ok (.aload_n 0, 1) := by decide +kernel
theorem dX12_init_314 : decode cX12_init 314 = .ok (.bipush 100, 2) := by decide +kernel
theorem dX12_init_316 : decode cX12_init 316 = .ok (.putfield 129, 3) := by decide +kernel
theorem dX12_init_319 : decode cX12_init 319 = .ok (.aload_n 0, 1) := by decide +kernel
theorem dX12_init_320 : decode cX12_init 320 = .ok (.iconst 1, 1) := by decide +kernel
theorem dX12_init_321 : decode cX12_init 321 = .ok (.putfield 133, 3) := by decide +kernel
theorem dX12_init_324 : decode cX12_init 324 = .ok (.aload_n 0, 1) := by decide +kernel
theorem dX12_init_325 : decode cX12_init 325 = .ok (.iconst 0, 1) := by decide +kernel
theorem dX12_init_326 : decode cX12_init 326 = .ok (.putfield 136, 3) := by decide +kernel
theorem dX12_init_329 : decode cX12_init 329 = .ok (.iconst 0, 1) := by decide +kernel
theorem dX12_init_330 : decode cX12_init 330 = .ok (.istore_n 1, 1) := by decide +kernel
theorem dX12_init_331 : decode cX12_init 331 = .ok (.iload_n 1, 1) := by decide +kernel
theorem dX12_init_332 : decode cX12_init 332 = .ok (.iconst 4, 1) := by decide +kernel
theorem dX12_init_333 : decode cX12_init 333 = .ok (.if_icmp .ge 16, 3) := by decide +kernel
theorem dX12_init_336 : decode cX12_init 336 = .ok (.aload_n 0, 1) := by decide +kernel
theorem dX12_init_337 : decode cX12_init 337 = .ok (.getfield 7, 3) := by decide +kernel
theorem dX12_init_340 : decode cX12_init 340 = .ok (.iload_n 1, 1) := by decide +kernel
theorem dX12_init_341 : decode cX12_init 341 = .ok (.iconst (-1), 1) := by decide +kernel
theorem dX12_init_342 : decode cX12_init 342 = .ok (.iastore, 1) := by decide +kernel
theorem dX12_init_343 : decode cX12_init 343 = .ok (.iinc 1 1, 3) := by decide +kernel
theorem dX12_init_346 : decode cX12_init 346 = .ok (.goto (-15), 3) := by decide +kernel
theorem dX12_init_349 : decode cX12_init 349 = .ok (.return_, 1) := by decide +kernel
theorem dX12_in_0 : decode cX12_in 0 = .ok (.lload_n 0, 1) := by decide +kernel
theorem dX12_in_1 : decode cX12_in 1 = .ok (.lload_n 2, 1) := by decide +kernel
theorem dX12_in_2 : decode cX12_in 2 = .ok (.lcmp, 1) := by decide +kernel
theorem dX12_in_3 : decode cX12_in 3 = .ok (.ifCond .lt 14, 3) := by decide +kernel
theorem dX12_in_6 : decode cX12_in 6 = .ok (.lload_n 0, 1) := by decide +kernel
theorem dX12_in_7 : decode cX12_in 7 = .ok (.lload 4, 2) := by decide +kernel
theorem dX12_in_9 : decode cX12_in 9 = .ok (.lcmp, 1) := by decide +kernel
theorem dX12_in_10 : decode cX12_in 10 = .ok (.ifCond .gt 7, 3) := by decide +kernel
theorem dX12_in_13 : decode cX12_in 13 = .ok (.iconst 1, 1) := by decide +kernel
theorem dX12_in_14 : decode cX12_in 14 = .ok (.goto 4, 3) := by decide +kernel
theorem dX12_in_17 : decode cX12_in 17 = .ok (.iconst 0, 1) := by decide +kernel
theorem dX12_in_18 : decode cX12_in 18 = .ok (.ireturn, 1) := by decide +kernel
theorem dX12_lost_0 : decode cX12_lost 0 = .ok (.ldc2_w 139, 3) := by decide +kernel
theorem dX12_lost_3 : decode cX12_lost 3 = .ok (.lreturn, 1) := by decide +kernel
theorem dX12_refused_0 : decode cX12_refused 0 = .ok (.aload_n 0, 1) := by decide +kernel
theorem dX12_refused_1 : decode cX12_refused 1 = .ok (.iconst 0, 1) := by decide +kernel
theorem dX12_refused_2 : decode cX12_refused 2 = .ok (.putfield 141, 3) := by decide +kernel
theorem dX12_refused_5 : decode cX12_refused 5 = .ok (.iload_n 1, 1) := by decide +kernel
theorem dX12_refused_6 : decode cX12_refused 6 = .ok (.ireturn, 1) := by decide +kernel
theorem dX12_failed_0 : decode cX12_failed 0 = .ok (.aload_n 0, 1) := by decide +kernel
theorem dX12_failed_1 : decode cX12_failed 1 = .ok (.iload_n 1, 1) := by decide +kernel
theorem dX12_failed_2 : decode cX12_failed 2 = .ok (.putfield 141, 3) := by decide +kernel
theorem dX12_failed_5 : decode cX12_failed 5 = .ok (.bipush (-10), 2) := by decide +kernel
theorem dX12_failed_7 : decode cX12_failed 7 = .ok (.iload_n 1, 1) := by decide +kernel
theorem dX12_failed_8 : decode cX12_failed 8 = .ok (.isub, 1) := by decide +kernel
theorem dX12_failed_9 : decode cX12_failed 9 = .ok (.ireturn, 1) := by decide +kernel
set_option maxRecDepth 100000 in
theorem ggX12_failedLong_X12_lost : GoodIn wsX12_failedLong wsX12_lost := goodIn_s _ [6] [5] (by decide +kernel) rfl (by decide +kernel)
set_option maxRecDepth 20000 in
theorem gX12_failedLong_X12_lost : GoodIn wsX12_failedLong (va_wsS RX12 144 yX12_lost wsX12_lost) := goodIn_app (goodIn_of _ (by decide +kernel)) ggX12_failedLong_X12_lost
theorem dX12_failedLong_0 : decode cX12_failedLong 0 = .ok (.aload_n 0, 1) := by decide +kernel
theorem dX12_failedLong_1 : decode cX12_failedLong 1 = .ok (.iload_n 1, 1) := by decide +kernel
theorem dX12_failedLong_2 : decode cX12_failedLong 2 = .ok (.putfield 141, 3) := by decide +kernel
theorem dX12_failedLong_5 : decode cX12_failedLong 5 = .ok (.invokestatic 144, 3) := by decide +kernel
theorem dX12_failedLong_8 : decode cX12_failedLong 8 = .ok (.lreturn, 1) := by decide +kernel
theorem dX12_lesser_0 : decode cX12_lesser 0 = .ok (.iload_n 0, 1) := by decide +kernel
theorem dX12_lesser_1 : decode cX12_lesser 1 = .ok (.iload_n 1, 1) := by decide +kernel
theorem dX12_lesser_2 : decode cX12_lesser 2 = .ok (.if_icmp .ge 7, 3) := by decide +kernel
theorem dX12_lesser_5 : decode cX12_lesser 5 = .ok (.iload_n 0, 1) := by decide +kernel
theorem dX12_lesser_6 : decode cX12_lesser 6 = .ok (.goto 4, 3) := by decide +kernel
theorem dX12_lesser_9 : decode cX12_lesser 9 = .ok (.iload_n 1, 1) := by decide +kernel
theorem dX12_lesser_10 : decode cX12_lesser 10 = .ok (.ireturn, 1) := by decide +kernel
set_option maxRecDepth 100000 in
theorem ggX12_noSheet_X12_in : GoodIn wsX12_noSheet wsX12_in := goodIn_s _ [] [5] (by decide +kernel) rfl (by decide +kernel)
set_option maxRecDepth 20000 in
theorem gX12_noSheet_X12_in : GoodIn wsX12_noSheet (va_wsS RX12 150 yX12_in wsX12_in) := goodIn_app (goodIn_of _ (by decide +kernel)) ggX12_noSheet_X12_in
theorem dX12_noSheet_0 : decode cX12_noSheet 0 = .ok (.iload_n 0, 1) := by decide +kernel
theorem dX12_noSheet_1 : decode cX12_noSheet 1 = .ok (.i2l, 1) := by decide +kernel
theorem dX12_noSheet_2 : decode cX12_noSheet 2 = .ok (.lconst 0, 1) := by decide +kernel
theorem dX12_noSheet_3 : decode cX12_noSheet 3 = .ok (.ldc2_w 148, 3) := by decide +kernel
theorem dX12_noSheet_6 : decode cX12_noSheet 6 = .ok (.invokestatic 150, 3) := by decide +kernel
theorem dX12_noSheet_9 : decode cX12_noSheet 9 = .ok (.ifCond .ne 7, 3) := by decide +kernel
theorem dX12_noSheet_12 : decode cX12_noSheet 12 = .ok (.iconst 1, 1) := by decide +kernel
theorem dX12_noSheet_13 : decode cX12_noSheet 13 = .ok (.goto 4, 3) := by decide +kernel
theorem dX12_noSheet_16 : decode cX12_noSheet 16 = .ok (.iconst 0, 1) := by decide +kernel
theorem dX12_noSheet_17 : decode cX12_noSheet 17 = .ok (.ireturn, 1) := by decide +kernel
set_option maxRecDepth 100000 in
theorem ggX12_sheet_X12_noSheet : GoodIn wsX12_sheet wsX12_noSheet := goodIn_s _ [9, 10, 11, 7] [8, 12] (by decide +kernel) rfl (by decide +kernel)
set_option maxRecDepth 20000 in
theorem gX12_sheet_X12_noSheet : GoodIn wsX12_sheet (va_wsS RX12 154 yX12_noSheet wsX12_noSheet) := goodIn_app (goodIn_of _ (by decide +kernel)) ggX12_sheet_X12_noSheet
set_option maxRecDepth 100000 in
theorem ggX12_sheet_X12_refused : GoodIn wsX12_sheet wsX12_refused := goodIn_s _ [17, 22, 23, 24, 25, 26, 27, 28, 29, 30, 31, 32, 33, 34, 35, 36, 37, 38, 39, 40, 41, 42, 43, 44, 45, 46, 47, 48, 49, 50, 51, 52, 53, 54, 55, 56, 57, 58, 59, 60, 61, 62, 63, 64, 65, 66, 67, 68, 69, 70, 71, 72, 73, 74, 75, 76, 77, 78, 79, 80, 81, 82, 83, 84, 85, 86, 87] [16] (by decide +kernel) rfl (by decide +kernel)
set_option maxRecDepth 20000 in
theorem gX12_sheet_X12_refused : GoodIn wsX12_sheet (wsV RX12 158 RX12 yX12_refused wsX12_refused) := goodIn_app (goodIn_of _ (by decide +kernel)) ggX12_sheet_X12_refused
set_option maxRecDepth 100000 in
theorem ggX12_sheet_X12_in : GoodIn wsX12_sheet wsX12_in := goodIn_s _ [] [12] (by decide +kernel) rfl (by decide +kernel)
set_option maxRecDepth 20000 in
theorem gX12_sheet_X12_in : GoodIn wsX12_sheet (va_wsS RX12 150 yX12_in wsX12_in) := goodIn_app (goodIn_of _ (by decide +kernel)) ggX12_sheet_X12_in
set_option maxRecDepth 100000 in
theorem ggX12_sheet_X12_failed : GoodIn wsX12_sheet wsX12_failed := goodIn_s _ [17, 22, 23, 24, 25, 26, 27, 28, 29, 30, 31, 32, 33, 34, 35, 36, 37, 38, 39, 40, 41, 42, 43, 44, 45, 46, 47, 48, 49, 50, 51, 52, 53, 54, 55, 56, 57, 58, 59, 60, 61, 62, 63, 64, 65, 66, 67, 68, 69, 70, 71, 72, 73, 74, 75, 76, 77, 78, 79, 80, 81, 82, 83, 84, 85, 86, 87] [21] (by decide +kernel) rfl (by decide +kernel)
set_option maxRecDepth 20000 in
theorem gX12_sheet_X12_failed : GoodIn wsX12_sheet (wsV RX12 164 RX12 yX12_failed wsX12_failed) := goodIn_app (goodIn_of _ (by decide +kernel)) ggX12_sheet_X12_failed
theorem dX12_sheet_0 : decode cX12_sheet 0 = .ok (.iload_n 1, 1) := by decide +kernel
theorem dX12_sheet_1 : decode cX12_sheet 1 = .ok (.invokestatic 154, 3) := by decide +kernel
theorem dX12_sheet_4 : decode cX12_sheet 4 = .ok (.ifCond .eq 9, 3) := by decide +kernel
theorem dX12_sheet_7 : decode cX12_sheet 7 = .ok (.aload_n 0, 1) := by decide +kernel
theorem dX12_sheet_8 : decode cX12_sheet 8 = .ok (.iconst (-1), 1) := by decide +kernel
theorem dX12_sheet_9 : decode cX12_sheet 9 = .ok (.invokevirtual 158, 3) := by decide +kernel
theorem dX12_sheet_12 : decode cX12_sheet 12 = .ok (.ireturn, 1) := by decide +kernel
theorem dX12_sheet_13 : decode cX12_sheet 13 = .ok (.iload_n 2, 1) := by decide +kernel
theorem dX12_sheet_14 : decode cX12_sheet 14 = .ok (.i2l, 1) := by decide +kernel
theorem dX12_sheet_15 : decode cX12_sheet 15 = .ok (.lconst 0, 1) := by decide +kernel
theorem dX12_sheet_16 : decode cX12_sheet 16 = .ok (.ldc2_w 162, 3) := by decide +kernel
theorem dX12_sheet_19 : decode cX12_sheet 19 = .ok (.invokestatic 150, 3) := by decide +kernel
theorem dX12_sheet_22 : decode cX12_sheet 22 = .ok (.ifCond .eq 9, 3) := by decide +kernel
theorem dX12_sheet_25 : decode cX12_sheet 25 = .ok (.iload_n 3, 1) := by decide +kernel
theorem dX12_sheet_26 : decode cX12_sheet 26 = .ok (.bipush 20, 2) := by decide +kernel
theorem dX12_sheet_28 : decode cX12_sheet 28 = .ok (.if_icmp .le 10, 3) := by decide +kernel
theorem dX12_sheet_31 : decode cX12_sheet 31 = .ok (.aload_n 0, 1) := by decide +kernel
theorem dX12_sheet_32 : decode cX12_sheet 32 = .ok (.bipush (-2), 2) := by decide +kernel
theorem dX12_sheet_34 : decode cX12_sheet 34 = .ok (.invokevirtual 158, 3) := by decide +kernel
theorem dX12_sheet_37 : decode cX12_sheet 37 = .ok (.ireturn, 1) := by decide +kernel
theorem dX12_sheet_38 : decode cX12_sheet 38 = .ok (.iload_n 3, 1) := by decide +kernel
theorem dX12_sheet_39 : decode cX12_sheet 39 = .ok (.ifCond .ge 9, 3) := by decide +kernel
theorem dX12_sheet_42 : decode cX12_sheet 42 = .ok (.aload_n 0, 1) := by decide +kernel
theorem dX12_sheet_43 : decode cX12_sheet 43 = .ok (.iconst 4, 1) := by decide +kernel
theorem dX12_sheet_44 : decode cX12_sheet 44 = .ok (.invokevirtual 164, 3) := by decide +kernel
theorem dX12_sheet_47 : decode cX12_sheet 47 = .ok (.ireturn, 1) := by decide +kernel
theorem dX12_sheet_48 : decode cX12_sheet 48 = .ok (.aload_n 0, 1) := by decide +kernel
theorem dX12_sheet_49 : decode cX12_sheet 49 = .ok (.getfield 7, 3) := by decide +kernel
theorem dX12_sheet_52 : decode cX12_sheet 52 = .ok (.iload_n 1, 1) := by decide +kernel
theorem dX12_sheet_53 : decode cX12_sheet 53 = .ok (.iload_n 3, 1) := by decide +kernel
theorem dX12_sheet_54 : decode cX12_sheet 54 = .ok (.iastore, 1) := by decide +kernel
theorem dX12_sheet_55 : decode cX12_sheet 55 = .ok (.aload_n 0, 1) := by decide +kernel
theorem dX12_sheet_56 : decode cX12_sheet 56 = .ok (.getfield 13, 3) := by decide +kernel
theorem dX12_sheet_59 : decode cX12_sheet 59 = .ok (.iload_n 1, 1) := by decide +kernel
theorem dX12_sheet_60 : decode cX12_sheet 60 = .ok (.iload_n 2, 1) := by decide +kernel
theorem dX12_sheet_61 : decode cX12_sheet 61 = .ok (.iastore, 1) := by decide +kernel
theorem dX12_sheet_62 : decode cX12_sheet 62 = .ok (.iconst 0, 1) := by decide +kernel
theorem dX12_sheet_63 : decode cX12_sheet 63 = .ok (.istore 4, 2) := by decide +kernel
theorem dX12_sheet_65 : decode cX12_sheet 65 = .ok (.iload 4, 2) := by decide +kernel
theorem dX12_sheet_67 : decode cX12_sheet 67 = .ok (.iload_n 3, 1) := by decide +kernel
theorem dX12_sheet_68 : decode cX12_sheet 68 = .ok (.if_icmp .ge 22, 3) := by decide +kernel
theorem dX12_sheet_71 : decode cX12_sheet 71 = .ok (.aload_n 0, 1) := by decide +kernel
theorem dX12_sheet_72 : decode cX12_sheet 72 = .ok (.getfield 16, 3) := by decide +kernel
theorem dX12_sheet_75 : decode cX12_sheet 75 = .ok (.bipush 20, 2) := by decide +kernel
theorem dX12_sheet_77 : decode cX12_sheet 77 = .ok (.iload_n 1, 1) := by decide +kernel
theorem dX12_sheet_78 : decode cX12_sheet 78 = .ok (.imul, 1) := by decide +kernel
theorem dX12_sheet_79 : decode cX12_sheet 79 = .ok (.iload 4, 2) := by decide +kernel
theorem dX12_sheet_81 : decode cX12_sheet 81 = .ok (.iadd, 1) := by decide +kernel
theorem dX12_sheet_82 : decode cX12_sheet 82 = .ok (.iconst 0, 1) := by decide +kernel
theorem dX12_sheet_83 : decode cX12_sheet 83 = .ok (.iastore, 1) := by decide +kernel
theorem dX12_sheet_84 : decode cX12_sheet 84 = .ok (.iinc 4 1, 3) := by decide +kernel
theorem dX12_sheet_87 : decode cX12_sheet 87 = .ok (.goto (-22), 3) := by decide +kernel
theorem dX12_sheet_90 : decode cX12_sheet 90 = .ok (.aload_n 0, 1) := by decide +kernel
theorem dX12_sheet_91 : decode cX12_sheet 91 = .ok (.iconst 1, 1) := by decide +kernel
theorem dX12_sheet_92 : decode cX12_sheet 92 = .ok (.invokevirtual 158, 3) := by decide +kernel
theorem dX12_sheet_95 : decode cX12_sheet 95 = .ok (.ireturn, 1) := by decide +kernel
set_option maxRecDepth 100000 in
theorem ggX12_lose_X12_noSheet : GoodIn wsX12_lose wsX12_noSheet := goodIn_s _ [6, 7, 8, 4] [5, 9] (by decide +kernel) rfl (by decide +kernel)
set_option maxRecDepth 20000 in
theorem gX12_lose_X12_noSheet : GoodIn wsX12_lose (va_wsS RX12 154 yX12_noSheet wsX12_noSheet) := goodIn_app (goodIn_of _ (by decide +kernel)) ggX12_lose_X12_noSheet
theorem dX12_lose_0 : decode cX12_lose 0 = .ok (.iload_n 1, 1) := by decide +kernel
theorem dX12_lose_1 : decode cX12_lose 1 = .ok (.invokestatic 154, 3) := by decide +kernel
theorem dX12_lose_4 : decode cX12_lose 4 = .ok (.ifCond .eq 5, 3) := by decide +kernel
theorem dX12_lose_7 : decode cX12_lose 7 = .ok (.iconst (-1), 1) := by decide +kernel
theorem dX12_lose_8 : decode cX12_lose 8 = .ok (.ireturn, 1) := by decide +kernel
theorem dX12_lose_9 : decode cX12_lose 9 = .ok (.aload_n 0, 1) := by decide +kernel
theorem dX12_lose_10 : decode cX12_lose 10 = .ok (.getfield 7, 3) := by decide +kernel
theorem dX12_lose_13 : decode cX12_lose 13 = .ok (.iload_n 1, 1) := by decide +kernel
theorem dX12_lose_14 : decode cX12_lose 14 = .ok (.iaload, 1) := by decide +kernel
theorem dX12_lose_15 : decode cX12_lose 15 = .ok (.ifCond .ge 7, 3) := by decide +kernel
theorem dX12_lose_18 : decode cX12_lose 18 = .ok (.iconst 0, 1) := by decide +kernel
theorem dX12_lose_19 : decode cX12_lose 19 = .ok (.goto 4, 3) := by decide +kernel
theorem dX12_lose_22 : decode cX12_lose 22 = .ok (.iconst 1, 1) := by decide +kernel
theorem dX12_lose_23 : decode cX12_lose 23 = .ok (.istore_n 2, 1) := by decide +kernel
theorem dX12_lose_24 : decode cX12_lose 24 = .ok (.aload_n 0, 1) := by decide +kernel
theorem dX12_lose_25 : decode cX12_lose 25 = .ok (.getfield 7, 3) := by decide +kernel
theorem dX12_lose_28 : decode cX12_lose 28 = .ok (.iload_n 1, 1) := by decide +kernel
theorem dX12_lose_29 : decode cX12_lose 29 = .ok (.iconst (-1), 1) := by decide +kernel
theorem dX12_lose_30 : decode cX12_lose 30 = .ok (.iastore, 1) := by decide +kernel
theorem dX12_lose_31 : decode cX12_lose 31 = .ok (.iload_n 2, 1) := by decide +kernel
theorem dX12_lose_32 : decode cX12_lose 32 = .ok (.ireturn, 1) := by decide +kernel
set_option maxRecDepth 100000 in
theorem ggX12_noCell_X12_in : GoodIn wsX12_noCell wsX12_in := goodIn_s _ [] [5] (by decide +kernel) rfl (by decide +kernel)
set_option maxRecDepth 20000 in
theorem gX12_noCell_X12_in : GoodIn wsX12_noCell (va_wsS RX12 150 yX12_in wsX12_in) := goodIn_app (goodIn_of _ (by decide +kernel)) ggX12_noCell_X12_in
theorem dX12_noCell_0 : decode cX12_noCell 0 = .ok (.aload_n 0, 1) := by decide +kernel
theorem dX12_noCell_1 : decode cX12_noCell 1 = .ok (.getfield 7, 3) := by decide +kernel
theorem dX12_noCell_4 : decode cX12_noCell 4 = .ok (.iload_n 1, 1) := by decide +kernel
theorem dX12_noCell_5 : decode cX12_noCell 5 = .ok (.iaload, 1) := by decide +kernel
theorem dX12_noCell_6 : decode cX12_noCell 6 = .ok (.ifCond .ge 7, 3) := by decide +kernel
theorem dX12_noCell_9 : decode cX12_noCell 9 = .ok (.iconst 1, 1) := by decide +kernel
theorem dX12_noCell_10 : decode cX12_noCell 10 = .ok (.goto 26, 3) := by decide +kernel
theorem dX12_noCell_13 : decode cX12_noCell 13 = .ok (.iload_n 2, 1) := by decide +kernel
theorem dX12_noCell_14 : decode cX12_noCell 14 = .ok (.i2l, 1) := by decide +kernel
theorem dX12_noCell_15 : decode cX12_noCell 15 = .ok (.lconst 0, 1) := by decide +kernel
theorem dX12_noCell_16 : decode cX12_noCell 16 = .ok (.aload_n 0, 1) := by decide +kernel
theorem dX12_noCell_17 : decode cX12_noCell 17 = .ok (.getfield 7, 3) := by decide +kernel
theorem dX12_noCell_20 : decode cX12_noCell 20 = .ok (.iload_n 1, 1) := by decide +kernel
theorem dX12_noCell_21 : decode cX12_noCell 21 = .ok (.iaload, 1) := by decide +kernel
theorem dX12_noCell_22 : decode cX12_noCell 22 = .ok (.i2l, 1) := by decide +kernel
theorem dX12_noCell_23 : decode cX12_noCell 23 = .ok (.lconst 1, 1) := by decide +kernel
theorem dX12_noCell_24 : decode cX12_noCell 24 = .ok (.lsub, 1) := by decide +kernel
theorem dX12_noCell_25 : decode cX12_noCell 25 = .ok (.invokestatic 150, 3) := by decide +kernel
theorem dX12_noCell_28 : decode cX12_noCell 28 = .ok (.ifCond .eq 7, 3) := by decide +kernel
theorem dX12_noCell_31 : decode cX12_noCell 31 = .ok (.iconst 0, 1) := by decide +kernel
theorem dX12_noCell_32 : decode cX12_noCell 32 = .ok (.goto 4, 3) := by decide +kernel
theorem dX12_noCell_35 : decode cX12_noCell 35 = .ok (.iconst 3, 1) := by decide +kernel
theorem dX12_noCell_36 : decode cX12_noCell 36 = .ok (.ireturn, 1) := by decide +kernel
set_option maxRecDepth 100000 in
theorem ggX12_put_X12_noSheet : GoodIn wsX12_put wsX12_noSheet := goodIn_s _ [7, 8, 9, 5] [6, 10] (by decide +kernel) rfl (by decide +kernel)
set_option maxRecDepth 20000 in
theorem gX12_put_X12_noSheet : GoodIn wsX12_put (va_wsS RX12 154 yX12_noSheet wsX12_noSheet) := goodIn_app (goodIn_of _ (by decide +kernel)) ggX12_put_X12_noSheet
set_option maxRecDepth 100000 in
theorem ggX12_put_X12_refused : GoodIn wsX12_put wsX12_refused := goodIn_s _ [15, 25, 26, 27, 28, 29, 30, 31, 32, 33, 34, 35, 36, 37, 38, 39, 40, 41, 42, 43, 44, 45, 46, 47, 48, 49, 50, 51, 52, 53, 54, 55, 56, 57, 58, 59, 60, 61, 62, 63, 64, 65, 66, 67, 68, 69, 70, 71, 72, 73, 74, 75, 76, 77, 78, 79, 80, 81, 82, 83, 84, 85, 86, 87, 88, 89, 90] [14] (by decide +kernel) rfl (by decide +kernel)
set_option maxRecDepth 20000 in
theorem gX12_put_X12_refused : GoodIn wsX12_put (wsV RX12 158 RX12 yX12_refused wsX12_refused) := goodIn_app (goodIn_of _ (by decide +kernel)) ggX12_put_X12_refused
set_option maxRecDepth 100000 in
theorem ggX12_put_X12_noCell : GoodIn wsX12_put wsX12_noCell := goodIn_s _ [20, 8, 9, 5, 25, 26, 27, 28, 29, 30, 31, 32, 33, 34, 35, 36, 37, 38, 39, 40, 41, 42, 43, 44, 45, 46, 47, 48, 49, 50, 51, 52, 53, 54, 55, 56, 57, 58, 59, 60, 61, 62, 63, 64, 65, 66, 67, 68, 69, 70, 71, 72, 73, 74, 75, 76, 77, 78, 79, 80, 81, 82, 83, 84, 85, 86, 87, 88, 89, 90] [19, 10] (by decide +kernel) rfl (by decide +kernel)
set_option maxRecDepth 20000 in
theorem gX12_put_X12_noCell : GoodIn wsX12_put (wsV RX12 167 RX12 yX12_noCell wsX12_noCell) := goodIn_app (goodIn_of _ (by decide +kernel)) ggX12_put_X12_noCell
set_option maxRecDepth 100000 in
theorem ggX12_put_X12_failed : GoodIn wsX12_put wsX12_failed := goodIn_s _ [15, 25, 26, 27, 28, 29, 30, 31, 32, 33, 34, 35, 36, 37, 38, 39, 40, 41, 42, 43, 44, 45, 46, 47, 48, 49, 50, 51, 52, 53, 54, 55, 56, 57, 58, 59, 60, 61, 62, 63, 64, 65, 66, 67, 68, 69, 70, 71, 72, 73, 74, 75, 76, 77, 78, 79, 80, 81, 82, 83, 84, 85, 86, 87, 88, 89, 90] [24] (by decide +kernel) rfl (by decide +kernel)
set_option maxRecDepth 20000 in
theorem gX12_put_X12_failed : GoodIn wsX12_put (wsV RX12 164 RX12 yX12_failed wsX12_failed) := goodIn_app (goodIn_of _ (by decide +kernel)) ggX12_put_X12_failed
theorem dX12_put_0 : decode cX12_put 0 = .ok (.iload_n 1, 1) := by decide +kernel
theorem dX12_put_1 : decode cX12_put 1 = .ok (.invokestatic 154, 3) := by decide +kernel
theorem dX12_put_4 : decode cX12_put 4 = .ok (.ifCond .eq 9, 3) := by decide +kernel
theorem dX12_put_7 : decode cX12_put 7 = .ok (.aload_n 0, 1) := by decide +kernel
theorem dX12_put_8 : decode cX12_put 8 = .ok (.iconst (-1), 1) := by decide +kernel
theorem dX12_put_9 : decode cX12_put 9 = .ok (.invokevirtual 158, 3) := by decide +kernel
theorem dX12_put_12 : decode cX12_put 12 = .ok (.ireturn, 1) := by decide +kernel
theorem dX12_put_13 : decode cX12_put 13 = .ok (.aload_n 0, 1) := by decide +kernel
theorem dX12_put_14 : decode cX12_put 14 = .ok (.iload_n 1, 1) := by decide +kernel
theorem dX12_put_15 : decode cX12_put 15 = .ok (.iload_n 2, 1) := by decide +kernel
theorem dX12_put_16 : decode cX12_put 16 = .ok (.invokevirtual 167, 3) := by decide +kernel
theorem dX12_put_19 : decode cX12_put 19 = .ok (.ifCond .le 14, 3) := by decide +kernel
theorem dX12_put_22 : decode cX12_put 22 = .ok (.aload_n 0, 1) := by decide +kernel
theorem dX12_put_23 : decode cX12_put 23 = .ok (.aload_n 0, 1) := by decide +kernel
theorem dX12_put_24 : decode cX12_put 24 = .ok (.iload_n 1, 1) := by decide +kernel
theorem dX12_put_25 : decode cX12_put 25 = .ok (.iload_n 2, 1) := by decide +kernel
theorem dX12_put_26 : decode cX12_put 26 = .ok (.invokevirtual 167, 3) := by decide +kernel
theorem dX12_put_29 : decode cX12_put 29 = .ok (.invokevirtual 164, 3) := by decide +kernel
theorem dX12_put_32 : decode cX12_put 32 = .ok (.ireturn, 1) := by decide +kernel
theorem dX12_put_33 : decode cX12_put 33 = .ok (.aload_n 0, 1) := by decide +kernel
theorem dX12_put_34 : decode cX12_put 34 = .ok (.getfield 16, 3) := by decide +kernel
theorem dX12_put_37 : decode cX12_put 37 = .ok (.bipush 20, 2) := by decide +kernel
theorem dX12_put_39 : decode cX12_put 39 = .ok (.iload_n 1, 1) := by decide +kernel
theorem dX12_put_40 : decode cX12_put 40 = .ok (.imul, 1) := by decide +kernel
theorem dX12_put_41 : decode cX12_put 41 = .ok (.iload_n 2, 1) := by decide +kernel
theorem dX12_put_42 : decode cX12_put 42 = .ok (.iadd, 1) := by decide +kernel
theorem dX12_put_43 : decode cX12_put 43 = .ok (.aload_n 0, 1) := by decide +kernel
theorem dX12_put_44 : decode cX12_put 44 = .ok (.getfield 13, 3) := by decide +kernel
theorem dX12_put_47 : decode cX12_put 47 = .ok (.iload_n 1, 1) := by decide +kernel
theorem dX12_put_48 : decode cX12_put 48 = .ok (.iaload, 1) := by decide +kernel
theorem dX12_put_49 : decode cX12_put 49 = .ok (.ifCond .ne 8, 3) := by decide +kernel
theorem dX12_put_52 : decode cX12_put 52 = .ok (.iload_n 3, 1) := by decide +kernel
theorem dX12_put_53 : decode cX12_put 53 = .ok (.i2b, 1) := by decide +kernel
theorem dX12_put_54 : decode cX12_put 54 = .ok (.goto 19, 3) := by decide +kernel
theorem dX12_put_57 : decode cX12_put 57 = .ok (.aload_n 0, 1) := by decide +kernel
theorem dX12_put_58 : decode cX12_put 58 = .ok (.getfield 13, 3) := by decide +kernel
theorem dX12_put_61 : decode cX12_put 61 = .ok (.iload_n 1, 1) := by decide +kernel
theorem dX12_put_62 : decode cX12_put 62 = .ok (.iaload, 1) := by decide +kernel
theorem dX12_put_63 : decode cX12_put 63 = .ok (.iconst 1, 1) := by decide +kernel
theorem dX12_put_64 : decode cX12_put 64 = .ok (.if_icmp .ne 8, 3) := by decide +kernel
theorem dX12_put_67 : decode cX12_put 67 = .ok (.iload_n 3, 1) := by decide +kernel
theorem dX12_put_68 : decode cX12_put 68 = .ok (.i2s, 1) := by decide +kernel
theorem dX12_put_69 : decode cX12_put 69 = .ok (.goto 4, 3) := by decide +kernel
theorem dX12_put_72 : decode cX12_put 72 = .ok (.iload_n 3, 1) := by decide +kernel
theorem dX12_put_73 : decode cX12_put 73 = .ok (.iastore, 1) := by decide +kernel
theorem dX12_put_74 : decode cX12_put 74 = .ok (.aload_n 0, 1) := by decide +kernel
theorem dX12_put_75 : decode cX12_put 75 = .ok (.iconst 1, 1) := by decide +kernel
theorem dX12_put_76 : decode cX12_put 76 = .ok (.invokevirtual 158, 3) := by decide +kernel
theorem dX12_put_79 : decode cX12_put 79 = .ok (.ireturn, 1) := by decide +kernel
set_option maxRecDepth 100000 in
theorem ggX12_cell_X12_noSheet : GoodIn wsX12_cell wsX12_noSheet := goodIn_s _ [10, 11, 12, 8] [9, 13] (by decide +kernel) rfl (by decide +kernel)
set_option maxRecDepth 20000 in
theorem gX12_cell_X12_noSheet : GoodIn wsX12_cell (va_wsS RX12 154 yX12_noSheet wsX12_noSheet) := goodIn_app (goodIn_of _ (by decide +kernel)) ggX12_cell_X12_noSheet
set_option maxRecDepth 100000 in
theorem ggX12_cell_X12_in : GoodIn wsX12_cell wsX12_in := goodIn_s _ [] [13] (by decide +kernel) rfl (by decide +kernel)
set_option maxRecDepth 20000 in
theorem gX12_cell_X12_in : GoodIn wsX12_cell (va_wsS RX12 150 yX12_in wsX12_in) := goodIn_app (goodIn_of _ (by decide +kernel)) ggX12_cell_X12_in
set_option maxRecDepth 100000 in
theorem ggX12_cell_X12_lost : GoodIn wsX12_cell wsX12_lost := goodIn_s _ [17] [16] (by decide +kernel) rfl (by decide +kernel)
set_option maxRecDepth 20000 in
theorem gX12_cell_X12_lost : GoodIn wsX12_cell (va_wsS RX12 144 yX12_lost wsX12_lost) := goodIn_app (goodIn_of _ (by decide +kernel)) ggX12_cell_X12_lost
set_option maxRecDepth 100000 in
theorem ggX12_cell_X12_failedLong : GoodIn wsX12_cell wsX12_failedLong := goodIn_s _ [1, 14, 15, 8, 17, 26, 27, 28, 29, 30, 31, 32, 33, 34, 35, 36, 37, 38, 39, 40, 41, 42, 43, 44, 45, 46, 47, 48, 49, 50, 51, 52, 53, 54, 55, 56, 57, 58, 59, 60, 61, 62, 63, 64, 65, 66, 67, 68, 69, 70, 71, 72, 73, 74, 75, 76, 77, 78, 79, 80, 81, 82, 83, 84, 85, 86, 87, 88, 89, 90, 91] [21, 16] (by decide +kernel) rfl (by decide +kernel)
set_option maxRecDepth 20000 in
theorem gX12_cell_X12_failedLong : GoodIn wsX12_cell (wsV RX12 171 RX12 yX12_failedLong wsX12_failedLong) := goodIn_app (goodIn_of _ (by decide +kernel)) ggX12_cell_X12_failedLong
set_option maxRecDepth 100000 in
theorem ggX12_cell_X12_noCell : GoodIn wsX12_cell wsX12_noCell := goodIn_s _ [3, 11, 12, 8, 26, 27, 28, 29, 30, 31, 32, 33, 34, 35, 36, 37, 38, 39, 40, 41, 42, 43, 44, 45, 46, 47, 48, 49, 50, 51, 52, 53, 54, 55, 56, 57, 58, 59, 60, 61, 62, 63, 64, 65, 66, 67, 68, 69, 70, 71, 72, 73, 74, 75, 76, 77, 78, 79, 80, 81, 82, 83, 84, 85, 86, 87, 88, 89, 90, 91] [25, 13] (by decide +kernel) rfl (by decide +kernel)
set_option maxRecDepth 20000 in
theorem gX12_cell_X12_noCell : GoodIn wsX12_cell (wsV RX12 167 RX12 yX12_noCell wsX12_noCell) := goodIn_app (goodIn_of _ (by decide +kernel)) ggX12_cell_X12_noCell
theorem dX12_cell_0 : decode cX12_cell 0 = .ok (.aload_n 0, 1) := by decide +kernel
theorem dX12_cell_1 : decode cX12_cell 1 = .ok (.iconst 0, 1) := by decide +kernel
theorem dX12_cell_2 : decode cX12_cell 2 = .ok (.putfield 141, 3) := by decide +kernel
theorem dX12_cell_5 : decode cX12_cell 5 = .ok (.iload_n 1, 1) := by decide +kernel
theorem dX12_cell_6 : decode cX12_cell 6 = .ok (.invokestatic 154, 3) := by decide +kernel
theorem dX12_cell_9 : decode cX12_cell 9 = .ok (.ifCond .ne 15, 3) := by decide +kernel
theorem dX12_cell_12 : decode cX12_cell 12 = .ok (.iload_n 3, 1) := by decide +kernel
theorem dX12_cell_13 : decode cX12_cell 13 = .ok (.i2l, 1) := by decide +kernel
theorem dX12_cell_14 : decode cX12_cell 14 = .ok (.lconst 0, 1) := by decide +kernel
theorem dX12_cell_15 : decode cX12_cell 15 = .ok (.ldc2_w 162, 3) := by decide +kernel
theorem dX12_cell_18 : decode cX12_cell 18 = .ok (.invokestatic 150, 3) := by decide +kernel
theorem dX12_cell_21 : decode cX12_cell 21 = .ok (.ifCond .ne 7, 3) := by decide +kernel
theorem dX12_cell_24 : decode cX12_cell 24 = .ok (.invokestatic 144, 3) := by decide +kernel
theorem dX12_cell_27 : decode cX12_cell 27 = .ok (.lreturn, 1) := by decide +kernel
theorem dX12_cell_28 : decode cX12_cell 28 = .ok (.aload_n 0, 1) := by decide +kernel
theorem dX12_cell_29 : decode cX12_cell 29 = .ok (.getfield 7, 3) := by decide +kernel
theorem dX12_cell_32 : decode cX12_cell 32 = .ok (.iload_n 1, 1) := by decide +kernel
theorem dX12_cell_33 : decode cX12_cell 33 = .ok (.iaload, 1) := by decide +kernel
theorem dX12_cell_34 : decode cX12_cell 34 = .ok (.ifCond .lt 19, 3) := by decide +kernel
theorem dX12_cell_37 : decode cX12_cell 37 = .ok (.aload_n 0, 1) := by decide +kernel
theorem dX12_cell_38 : decode cX12_cell 38 = .ok (.getfield 13, 3) := by decide +kernel
theorem dX12_cell_41 : decode cX12_cell 41 = .ok (.iload_n 1, 1) := by decide +kernel
theorem dX12_cell_42 : decode cX12_cell 42 = .ok (.iaload, 1) := by decide +kernel
theorem dX12_cell_43 : decode cX12_cell 43 = .ok (.iload_n 3, 1) := by decide +kernel
theorem dX12_cell_44 : decode cX12_cell 44 = .ok (.if_icmp .eq 9, 3) := by decide +kernel
theorem dX12_cell_47 : decode cX12_cell 47 = .ok (.aload_n 0, 1) := by decide +kernel
theorem dX12_cell_48 : decode cX12_cell 48 = .ok (.iconst 2, 1) := by decide +kernel
theorem dX12_cell_49 : decode cX12_cell 49 = .ok (.invokevirtual 171, 3) := by decide +kernel
theorem dX12_cell_52 : decode cX12_cell 52 = .ok (.lreturn, 1) := by decide +kernel
theorem dX12_cell_53 : decode cX12_cell 53 = .ok (.aload_n 0, 1) := by decide +kernel
theorem dX12_cell_54 : decode cX12_cell 54 = .ok (.iload_n 1, 1) := by decide +kernel
theorem dX12_cell_55 : decode cX12_cell 55 = .ok (.iload_n 2, 1) := by decide +kernel
theorem dX12_cell_56 : decode cX12_cell 56 = .ok (.invokevirtual 167, 3) := by decide +kernel
theorem dX12_cell_59 : decode cX12_cell 59 = .ok (.ifCond .le 16, 3) := by decide +kernel
theorem dX12_cell_62 : decode cX12_cell 62 = .ok (.aload_n 0, 1) := by decide +kernel
theorem dX12_cell_63 : decode cX12_cell 63 = .ok (.aload_n 0, 1) := by decide +kernel
theorem dX12_cell_64 : decode cX12_cell 64 = .ok (.iload_n 1, 1) := by decide +kernel
theorem dX12_cell_65 : decode cX12_cell 65 = .ok (.iload_n 2, 1) := by decide +kernel
theorem dX12_cell_66 : decode cX12_cell 66 = .ok (.invokevirtual 167, 3) := by decide +kernel
theorem dX12_cell_69 : decode cX12_cell 69 = .ok (.invokevirtual 171, 3) := by decide +kernel
theorem dX12_cell_72 : decode cX12_cell 72 = .ok (.goto 15, 3) := by decide +kernel
theorem dX12_cell_75 : decode cX12_cell 75 = .ok (.aload_n 0, 1) := by decide +kernel
theorem dX12_cell_76 : decode cX12_cell 76 = .ok (.getfield 16, 3) := by decide +kernel
theorem dX12_cell_79 : decode cX12_cell 79 = .ok (.bipush 20, 2) := by decide +kernel
theorem dX12_cell_81 : decode cX12_cell 81 = .ok (.iload_n 1, 1) := by decide +kernel
theorem dX12_cell_82 : decode cX12_cell 82 = .ok (.imul, 1) := by decide +kernel
theorem dX12_cell_83 : decode cX12_cell 83 = .ok (.iload_n 2, 1) := by decide +kernel
theorem dX12_cell_84 : decode cX12_cell 84 = .ok (.iadd, 1) := by decide +kernel
theorem dX12_cell_85 : decode cX12_cell 85 = .ok (.iaload, 1) := by decide +kernel
theorem dX12_cell_86 : decode cX12_cell 86 = .ok (.i2l, 1) := by decide +kernel
theorem dX12_cell_87 : decode cX12_cell 87 = .ok (.lreturn, 1) := by decide +kernel
theorem dX12_isBeyond_0 : decode cX12_isBeyond 0 = .ok (.iload_n 0, 1) := by decide +kernel
theorem dX12_isBeyond_1 : decode cX12_isBeyond 1 = .ok (.ifCond .lt 18, 3) := by decide +kernel
theorem dX12_isBeyond_4 : decode cX12_isBeyond 4 = .ok (.iload_n 1, 1) := by decide +kernel
theorem dX12_isBeyond_5 : decode cX12_isBeyond 5 = .ok (.ifCond .lt 14, 3) := by decide +kernel
theorem dX12_isBeyond_8 : decode cX12_isBeyond 8 = .ok (.iload_n 0, 1) := by decide +kernel
theorem dX12_isBeyond_9 : decode cX12_isBeyond 9 = .ok (.i2l, 1) := by decide +kernel
theorem dX12_isBeyond_10 : decode cX12_isBeyond 10 = .ok (.iload_n 1, 1) := by decide +kernel
theorem dX12_isBeyond_11 : decode cX12_isBeyond 11 = .ok (.i2l, 1) := by decide +kernel
theorem dX12_isBeyond_12 : decode cX12_isBeyond 12 = .ok (.ladd, 1) := by decide +kernel
theorem dX12_isBeyond_13 : decode cX12_isBeyond 13 = .ok (.iload_n 2, 1) := by decide +kernel
theorem dX12_isBeyond_14 : decode cX12_isBeyond 14 = .ok (.i2l, 1) := by decide +kernel
theorem dX12_isBeyond_15 : decode cX12_isBeyond 15 = .ok (.lcmp, 1) := by decide +kernel
theorem dX12_isBeyond_16 : decode cX12_isBeyond 16 = .ok (.ifCond .le 7, 3) := by decide +kernel
theorem dX12_isBeyond_19 : decode cX12_isBeyond 19 = .ok (.iconst 1, 1) := by decide +kernel
theorem dX12_isBeyond_20 : decode cX12_isBeyond 20 = .ok (.goto 4, 3) := by decide +kernel
theorem dX12_isBeyond_23 : decode cX12_isBeyond 23 = .ok (.iconst 0, 1) := by decide +kernel
theorem dX12_isBeyond_24 : decode cX12_isBeyond 24 = .ok (.ireturn, 1) := by decide +kernel
set_option maxRecDepth 100000 in
theorem ggX12_copy_X12_noSheet : GoodIn wsX12_copy wsX12_noSheet := goodIn_s _ [9, 10, 11, 7] [8, 12] (by decide +kernel) rfl (by decide +kernel)
set_option maxRecDepth 20000 in
theorem gX12_copy_X12_noSheet : GoodIn wsX12_copy (va_wsS RX12 154 yX12_noSheet wsX12_noSheet) := goodIn_app (goodIn_of _ (by decide +kernel)) ggX12_copy_X12_noSheet
set_option maxRecDepth 100000 in
theorem ggX12_copy_X12_refused : GoodIn wsX12_copy wsX12_refused := goodIn_s _ [17, 25, 26, 27, 28, 29, 30, 31, 32, 33, 34, 35, 36, 37, 38, 39, 40, 41, 42, 43, 44, 45, 46, 47, 48, 49, 50, 51, 52, 53, 54, 55, 56, 57, 58, 59, 60, 61, 62, 63, 64, 65, 66, 67, 68, 69, 70, 71, 72, 73, 74, 75, 76, 77, 78, 79, 80, 81, 82, 83, 84, 85, 86, 87, 88, 89, 90] [16] (by decide +kernel) rfl (by decide +kernel)
set_option maxRecDepth 20000 in
theorem gX12_copy_X12_refused : GoodIn wsX12_copy (wsV RX12 158 RX12 yX12_refused wsX12_refused) := goodIn_app (goodIn_of _ (by decide +kernel)) ggX12_copy_X12_refused
set_option maxRecDepth 100000 in
theorem ggX12_copy_X12_failed : GoodIn wsX12_copy wsX12_failed := goodIn_s _ [17, 25, 26, 27, 28, 29, 30, 31, 32, 33, 34, 35, 36, 37, 38, 39, 40, 41, 42, 43, 44, 45, 46, 47, 48, 49, 50, 51, 52, 53, 54, 55, 56, 57, 58, 59, 60, 61, 62, 63, 64, 65, 66, 67, 68, 69, 70, 71, 72, 73, 74, 75, 76, 77, 78, 79, 80, 81, 82, 83, 84, 85, 86, 87, 88, 89, 90] [21] (by decide +kernel) rfl (by decide +kernel)
set_option maxRecDepth 20000 in
theorem gX12_copy_X12_failed : GoodIn wsX12_copy (wsV RX12 164 RX12 yX12_failed wsX12_failed) := goodIn_app (goodIn_of _ (by decide +kernel)) ggX12_copy_X12_failed
set_option maxRecDepth 100000 in
theorem ggX12_copy_X12_isBeyond : GoodIn wsX12_copy wsX12_isBeyond := goodIn_s _ [] [24] (by decide +kernel) rfl (by decide +kernel)
set_option maxRecDepth 20000 in
theorem gX12_copy_X12_isBeyond : GoodIn wsX12_copy (va_wsS RX12 175 yX12_isBeyond wsX12_isBeyond) := goodIn_app (goodIn_of _ (by decide +kernel)) ggX12_copy_X12_isBeyond
theorem dX12_copy_0 : decode cX12_copy 0 = .ok (.iload_n 1, 1) := by decide +kernel
theorem dX12_copy_1 : decode cX12_copy 1 = .ok (.invokestatic 154, 3) := by decide +kernel
theorem dX12_copy_4 : decode cX12_copy 4 = .ok (.ifCond .ne 10, 3) := by decide +kernel
theorem dX12_copy_7 : decode cX12_copy 7 = .ok (.iload_n 3, 1) := by decide +kernel
theorem dX12_copy_8 : decode cX12_copy 8 = .ok (.invokestatic 154, 3) := by decide +kernel
theorem dX12_copy_11 : decode cX12_copy 11 = .ok (.ifCond .eq 9, 3) := by decide +kernel
theorem dX12_copy_14 : decode cX12_copy 14 = .ok (.aload_n 0, 1) := by decide +kernel
theorem dX12_copy_15 : decode cX12_copy 15 = .ok (.iconst (-1), 1) := by decide +kernel
theorem dX12_copy_16 : decode cX12_copy 16 = .ok (.invokevirtual 158, 3) := by decide +kernel
theorem dX12_copy_19 : decode cX12_copy 19 = .ok (.ireturn, 1) := by decide +kernel
theorem dX12_copy_20 : decode cX12_copy 20 = .ok (.aload_n 0, 1) := by decide +kernel
theorem dX12_copy_21 : decode cX12_copy 21 = .ok (.getfield 7, 3) := by decide +kernel
theorem dX12_copy_24 : decode cX12_copy 24 = .ok (.iload_n 1, 1) := by decide +kernel
theorem dX12_copy_25 : decode cX12_copy 25 = .ok (.iaload, 1) := by decide +kernel
theorem dX12_copy_26 : decode cX12_copy 26 = .ok (.ifCond .lt 12, 3) := by decide +kernel
theorem dX12_copy_29 : decode cX12_copy 29 = .ok (.aload_n 0, 1) := by decide +kernel
theorem dX12_copy_30 : decode cX12_copy 30 = .ok (.getfield 7, 3) := by decide +kernel
theorem dX12_copy_33 : decode cX12_copy 33 = .ok (.iload_n 3, 1) := by decide +kernel
theorem dX12_copy_34 : decode cX12_copy 34 = .ok (.iaload, 1) := by decide +kernel
theorem dX12_copy_35 : decode cX12_copy 35 = .ok (.ifCond .ge 9, 3) := by decide +kernel
theorem dX12_copy_38 : decode cX12_copy 38 = .ok (.aload_n 0, 1) := by decide +kernel
theorem dX12_copy_39 : decode cX12_copy 39 = .ok (.iconst 1, 1) := by decide +kernel
theorem dX12_copy_40 : decode cX12_copy 40 = .ok (.invokevirtual 164, 3) := by decide +kernel
theorem dX12_copy_43 : decode cX12_copy 43 = .ok (.ireturn, 1) := by decide +kernel
theorem dX12_copy_44 : decode cX12_copy 44 = .ok (.aload_n 0, 1) := by decide +kernel
theorem dX12_copy_45 : decode cX12_copy 45 = .ok (.getfield 13, 3) := by decide +kernel
theorem dX12_copy_48 : decode cX12_copy 48 = .ok (.iload_n 1, 1) := by decide +kernel
theorem dX12_copy_49 : decode cX12_copy 49 = .ok (.iaload, 1) := by decide +kernel
theorem dX12_copy_50 : decode cX12_copy 50 = .ok (.aload_n 0, 1) := by decide +kernel
theorem dX12_copy_51 : decode cX12_copy 51 = .ok (.getfield 13, 3) := by decide +kernel
theorem dX12_copy_54 : decode cX12_copy 54 = .ok (.iload_n 3, 1) := by decide +kernel
theorem dX12_copy_55 : decode cX12_copy 55 = .ok (.iaload, 1) := by decide +kernel
theorem dX12_copy_56 : decode cX12_copy 56 = .ok (.if_icmp .eq 9, 3) := by decide +kernel
theorem dX12_copy_59 : decode cX12_copy 59 = .ok (.aload_n 0, 1) := by decide +kernel
theorem dX12_copy_60 : decode cX12_copy 60 = .ok (.iconst 2, 1) := by decide +kernel
theorem dX12_copy_61 : decode cX12_copy 61 = .ok (.invokevirtual 164, 3) := by decide +kernel
theorem dX12_copy_64 : decode cX12_copy 64 = .ok (.ireturn, 1) := by decide +kernel
theorem dX12_copy_65 : decode cX12_copy 65 = .ok (.iload_n 2, 1) := by decide +kernel
theorem dX12_copy_66 : decode cX12_copy 66 = .ok (.iload 5, 2) := by decide +kernel
theorem dX12_copy_68 : decode cX12_copy 68 = .ok (.aload_n 0, 1) := by decide +kernel
theorem dX12_copy_69 : decode cX12_copy 69 = .ok (.getfield 7, 3) := by decide +kernel
theorem dX12_copy_72 : decode cX12_copy 72 = .ok (.iload_n 1, 1) := by decide +kernel
theorem dX12_copy_73 : decode cX12_copy 73 = .ok (.iaload, 1) := by decide +kernel
theorem dX12_copy_74 : decode cX12_copy 74 = .ok (.invokestatic 175, 3) := by decide +kernel
theorem dX12_copy_77 : decode cX12_copy 77 = .ok (.ifCond .ne 19, 3) := by decide +kernel
theorem dX12_copy_80 : decode cX12_copy 80 = .ok (.iload 4, 2) := by decide +kernel
theorem dX12_copy_82 : decode cX12_copy 82 = .ok (.iload 5, 2) := by decide +kernel
theorem dX12_copy_84 : decode cX12_copy 84 = .ok (.aload_n 0, 1) := by decide +kernel
theorem dX12_copy_85 : decode cX12_copy 85 = .ok (.getfield 7, 3) := by decide +kernel
theorem dX12_copy_88 : decode cX12_copy 88 = .ok (.iload_n 3, 1) := by decide +kernel
theorem dX12_copy_89 : decode cX12_copy 89 = .ok (.iaload, 1) := by decide +kernel
theorem dX12_copy_90 : decode cX12_copy 90 = .ok (.invokestatic 175, 3) := by decide +kernel
theorem dX12_copy_93 : decode cX12_copy 93 = .ok (.ifCond .eq 9, 3) := by decide +kernel
theorem dX12_copy_96 : decode cX12_copy 96 = .ok (.aload_n 0, 1) := by decide +kernel
theorem dX12_copy_97 : decode cX12_copy 97 = .ok (.iconst 3, 1) := by decide +kernel
theorem dX12_copy_98 : decode cX12_copy 98 = .ok (.invokevirtual 164, 3) := by decide +kernel
theorem dX12_copy_101 : decode cX12_copy 101 = .ok (.ireturn, 1) := by decide +kernel
theorem dX12_copy_102 : decode cX12_copy 102 = .ok (.iconst 0, 1) := by decide +kernel
theorem dX12_copy_103 : decode cX12_copy 103 = .ok (.istore 6, 2) := by decide +kernel
theorem dX12_copy_105 : decode cX12_copy 105 = .ok (.iload 6, 2) := by decide +kernel
theorem dX12_copy_107 : decode cX12_copy 107 = .ok (.iload 5, 2) := by decide +kernel
theorem dX12_copy_109 : decode cX12_copy 109 = .ok (.if_icmp .ge 30, 3) := by decide +kernel
theorem dX12_copy_112 : decode cX12_copy 112 = .ok (.aload_n 0, 1) := by decide +kernel
theorem dX12_copy_113 : decode cX12_copy 113 = .ok (.getfield 19, 3) := by decide +kernel
theorem dX12_copy_116 : decode cX12_copy 116 = .ok (.iload 6, 2) := by decide +kernel
theorem dX12_copy_118 : decode cX12_copy 118 = .ok (.aload_n 0, 1) := by decide +kernel
theorem dX12_copy_119 : decode cX12_copy 119 = .ok (.getfield 16, 3) := by decide +kernel
theorem dX12_copy_122 : decode cX12_copy 122 = .ok (.bipush 20, 2) := by decide +kernel
theorem dX12_copy_124 : decode cX12_copy 124 = .ok (.iload_n 1, 1) := by decide +kernel
theorem dX12_copy_125 : decode cX12_copy 125 = .ok (.imul, 1) := by decide +kernel
theorem dX12_copy_126 : decode cX12_copy 126 = .ok (.iload_n 2, 1) := by decide +kernel
theorem dX12_copy_127 : decode cX12_copy 127 = .ok (.iadd, 1) := by decide +kernel
theorem dX12_copy_128 : decode cX12_copy 128 = .ok (.iload 6, 2) := by decide +kernel
theorem dX12_copy_130 : decode cX12_copy 130 = .ok (.iadd, 1) := by decide +kernel
theorem dX12_copy_131 : decode cX12_copy 131 = .ok (.iaload, 1) := by decide +kernel
theorem dX12_copy_132 : decode cX12_copy 132 = .ok (.iastore, 1) := by decide +kernel
theorem dX12_copy_133 : decode cX12_copy 133 = .ok (.iinc 6 1, 3) := by decide +kernel
theorem dX12_copy_136 : decode cX12_copy 136 = .ok (.goto (-31), 3) := by decide +kernel
theorem dX12_copy_139 : decode cX12_copy 139 = .ok (.iconst 0, 1) := by decide +kernel
theorem dX12_copy_140 : decode cX12_copy 140 = .ok (.istore 6, 2) := by decide +kernel
theorem dX12_copy_142 : decode cX12_copy 142 = .ok (.iload 6, 2) := by decide +kernel
theorem dX12_copy_144 : decode cX12_copy 144 = .ok (.iload 5, 2) := by decide +kernel
theorem dX12_copy_146 : decode cX12_copy 146 = .ok (.if_icmp .ge 31, 3) := by decide +kernel
theorem dX12_copy_149 : decode cX12_copy 149 = .ok (.aload_n 0, 1) := by decide +kernel
theorem dX12_copy_150 : decode cX12_copy 150 = .ok (.getfield 16, 3) := by decide +kernel
theorem dX12_copy_153 : decode cX12_copy 153 = .ok (.bipush 20, 2) := by decide +kernel
theorem dX12_copy_155 : decode cX12_copy 155 = .ok (.iload_n 3, 1) := by decide +kernel
theorem dX12_copy_156 : decode cX12_copy 156 = .ok (.imul, 1) := by decide +kernel
theorem dX12_copy_157 : decode cX12_copy 157 = .ok (.iload 4, 2) := by decide +kernel
theorem dX12_copy_159 : decode cX12_copy 159 = .ok (.iadd, 1) := by decide +kernel
theorem dX12_copy_160 : decode cX12_copy 160 = .ok (.iload 6, 2) := by decide +kernel
theorem dX12_copy_162 : decode cX12_copy 162 = .ok (.iadd, 1) := by decide +kernel
theorem dX12_copy_163 : decode cX12_copy 163 = .ok (.aload_n 0, 1) := by decide +kernel
theorem dX12_copy_164 : decode cX12_copy 164 = .ok (.getfield 19, 3) := by decide +kernel
theorem dX12_copy_167 : decode cX12_copy 167 = .ok (.iload 6, 2) := by decide +kernel
theorem dX12_copy_169 : decode cX12_copy 169 = .ok (.iaload, 1) := by decide +kernel
theorem dX12_copy_170 : decode cX12_copy 170 = .ok (.iastore, 1) := by decide +kernel
theorem dX12_copy_171 : decode cX12_copy 171 = .ok (.iinc 6 1, 3) := by decide +kernel
theorem dX12_copy_174 : decode cX12_copy 174 = .ok (.goto (-32), 3) := by decide +kernel
theorem dX12_copy_177 : decode cX12_copy 177 = .ok (.aload_n 0, 1) := by decide +kernel
theorem dX12_copy_178 : decode cX12_copy 178 = .ok (.iload 5, 2) := by decide +kernel
theorem dX12_copy_180 : decode cX12_copy 180 = .ok (.invokevirtual 158, 3) := by decide +kernel
theorem dX12_copy_183 : decode cX12_copy 183 = .ok (.ireturn, 1) := by decide +kernel
set_option maxRecDepth 100000 in
theorem ggX12_noCylinder_X12_in : GoodIn wsX12_noCylinder wsX12_in := goodIn_s _ [] [5] (by decide +kernel) rfl (by decide +kernel)
set_option maxRecDepth 20000 in
theorem gX12_noCylinder_X12_in : GoodIn wsX12_noCylinder (va_wsS RX12 150 yX12_in wsX12_in) := goodIn_app (goodIn_of _ (by decide +kernel)) ggX12_noCylinder_X12_in
theorem dX12_noCylinder_0 : decode cX12_noCylinder 0 = .ok (.iload_n 1, 1) := by decide +kernel
theorem dX12_noCylinder_1 : decode cX12_noCylinder 1 = .ok (.i2l, 1) := by decide +kernel
theorem dX12_noCylinder_2 : decode cX12_noCylinder 2 = .ok (.lconst 0, 1) := by decide +kernel
theorem dX12_noCylinder_3 : decode cX12_noCylinder 3 = .ok (.aload_n 0, 1) := by decide +kernel
theorem dX12_noCylinder_4 : decode cX12_noCylinder 4 = .ok (.getfield 179, 3) := by decide +kernel
theorem dX12_noCylinder_7 : decode cX12_noCylinder 7 = .ok (.i2l, 1) := by decide +kernel
theorem dX12_noCylinder_8 : decode cX12_noCylinder 8 = .ok (.lconst 1, 1) := by decide +kernel
theorem dX12_noCylinder_9 : decode cX12_noCylinder 9 = .ok (.lsub, 1) := by decide +kernel
theorem dX12_noCylinder_10 : decode cX12_noCylinder 10 = .ok (.invokestatic 150, 3) := by decide +kernel
theorem dX12_noCylinder_13 : decode cX12_noCylinder 13 = .ok (.ifCond .ne 7, 3) := by decide +kernel
theorem dX12_noCylinder_16 : decode cX12_noCylinder 16 = .ok (.iconst 1, 1) := by decide +kernel
theorem dX12_noCylinder_17 : decode cX12_noCylinder 17 = .ok (.goto 4, 3) := by decide +kernel
theorem dX12_noCylinder_20 : decode cX12_noCylinder 20 = .ok (.iconst 0, 1) := by decide +kernel
theorem dX12_noCylinder_21 : decode cX12_noCylinder 21 = .ok (.ireturn, 1) := by decide +kernel
set_option maxRecDepth 100000 in
theorem ggX12_pump_X12_in : GoodIn wsX12_pump wsX12_in := goodIn_s _ [] [7] (by decide +kernel) rfl (by decide +kernel)
set_option maxRecDepth 20000 in
theorem gX12_pump_X12_in : GoodIn wsX12_pump (va_wsS RX12 150 yX12_in wsX12_in) := goodIn_app (goodIn_of _ (by decide +kernel)) ggX12_pump_X12_in
theorem dX12_pump_0 : decode cX12_pump 0 = .ok (.iload_n 1, 1) := by decide +kernel
theorem dX12_pump_1 : decode cX12_pump 1 = .ok (.i2l, 1) := by decide +kernel
theorem dX12_pump_2 : decode cX12_pump 2 = .ok (.lconst 0, 1) := by decide +kernel
theorem dX12_pump_3 : decode cX12_pump 3 = .ok (.lconst 1, 1) := by decide +kernel
theorem dX12_pump_4 : decode cX12_pump 4 = .ok (.invokestatic 150, 3) := by decide +kernel
theorem dX12_pump_7 : decode cX12_pump 7 = .ok (.ifCond .ne 5, 3) := by decide +kernel
theorem dX12_pump_10 : decode cX12_pump 10 = .ok (.iconst (-1), 1) := by decide +kernel
theorem dX12_pump_11 : decode cX12_pump 11 = .ok (.ireturn, 1) := by decide +kernel
theorem dX12_pump_12 : decode cX12_pump 12 = .ok (.iload_n 2, 1) := by decide +kernel
theorem dX12_pump_13 : decode cX12_pump 13 = .ok (.i2l, 1) := by decide +kernel
theorem dX12_pump_14 : decode cX12_pump 14 = .ok (.iload_n 1, 1) := by decide +kernel
theorem dX12_pump_15 : decode cX12_pump 15 = .ok (.i2l, 1) := by decide +kernel
theorem dX12_pump_16 : decode cX12_pump 16 = .ok (.ldc2_w 182, 3) := by decide +kernel
theorem dX12_pump_19 : decode cX12_pump 19 = .ok (.invokestatic 150, 3) := by decide +kernel
theorem dX12_pump_22 : decode cX12_pump 22 = .ok (.ifCond .ne 6, 3) := by decide +kernel
theorem dX12_pump_25 : decode cX12_pump 25 = .ok (.bipush (-2), 2) := by decide +kernel
theorem dX12_pump_27 : decode cX12_pump 27 = .ok (.ireturn, 1) := by decide +kernel
theorem dX12_pump_28 : decode cX12_pump 28 = .ok (.iload_n 1, 1) := by decide +kernel
theorem dX12_pump_29 : decode cX12_pump 29 = .ok (.ifCond .ne 10, 3) := by decide +kernel
theorem dX12_pump_32 : decode cX12_pump 32 = .ok (.aload_n 0, 1) := by decide +kernel
theorem dX12_pump_33 : decode cX12_pump 33 = .ok (.getfield 184, 3) := by decide +kernel
theorem dX12_pump_36 : decode cX12_pump 36 = .ok (.goto 7, 3) := by decide +kernel
theorem dX12_pump_39 : decode cX12_pump 39 = .ok (.aload_n 0, 1) := by decide +kernel
theorem dX12_pump_40 : decode cX12_pump 40 = .ok (.getfield 129, 3) := by decide +kernel
theorem dX12_pump_43 : decode cX12_pump 43 = .ok (.istore_n 3, 1) := by decide +kernel
theorem dX12_pump_44 : decode cX12_pump 44 = .ok (.aload_n 0, 1) := by decide +kernel
theorem dX12_pump_45 : decode cX12_pump 45 = .ok (.iload_n 1, 1) := by decide +kernel
theorem dX12_pump_46 : decode cX12_pump 46 = .ok (.ifCond .ne 7, 3) := by decide +kernel
theorem dX12_pump_49 : decode cX12_pump 49 = .ok (.iload_n 2, 1) := by decide +kernel
theorem dX12_pump_50 : decode cX12_pump 50 = .ok (.goto 7, 3) := by decide +kernel
theorem dX12_pump_53 : decode cX12_pump 53 = .ok (.aload_n 0, 1) := by decide +kernel
theorem dX12_pump_54 : decode cX12_pump 54 = .ok (.getfield 184, 3) := by decide +kernel
theorem dX12_pump_57 : decode cX12_pump 57 = .ok (.putfield 184, 3) := by decide +kernel
theorem dX12_pump_60 : decode cX12_pump 60 = .ok (.aload_n 0, 1) := by decide +kernel
theorem dX12_pump_61 : decode cX12_pump 61 = .ok (.iload_n 1, 1) := by decide +kernel
theorem dX12_pump_62 : decode cX12_pump 62 = .ok (.iconst 1, 1) := by decide +kernel
theorem dX12_pump_63 : decode cX12_pump 63 = .ok (.if_icmp .ne 7, 3) := by decide +kernel
theorem dX12_pump_66 : decode cX12_pump 66 = .ok (.iload_n 2, 1) := by decide +kernel
theorem dX12_pump_67 : decode cX12_pump 67 = .ok (.goto 7, 3) := by decide +kernel
theorem dX12_pump_70 : decode cX12_pump 70 = .ok (.aload_n 0, 1) := by decide +kernel
theorem dX12_pump_71 : decode cX12_pump 71 = .ok (.getfield 129, 3) := by decide +kernel
theorem dX12_pump_74 : decode cX12_pump 74 = .ok (.putfield 129, 3) := by decide +kernel
theorem dX12_pump_77 : decode cX12_pump 77 = .ok (.iload_n 3, 1) := by decide +kernel
theorem dX12_pump_78 : decode cX12_pump 78 = .ok (.ireturn, 1) := by decide +kernel
set_option maxRecDepth 100000 in
theorem ggX12_cylinder_X12_in : GoodIn wsX12_cylinder wsX12_in := goodIn_s _ [] [12] (by decide +kernel) rfl (by decide +kernel)
set_option maxRecDepth 20000 in
theorem gX12_cylinder_X12_in : GoodIn wsX12_cylinder (va_wsS RX12 150 yX12_in wsX12_in) := goodIn_app (goodIn_of _ (by decide +kernel)) ggX12_cylinder_X12_in
theorem dX12_cylinder_0 : decode cX12_cylinder 0 = .ok (.iload_n 1, 1) := by decide +kernel
theorem dX12_cylinder_1 : decode cX12_cylinder 1 = .ok (.i2l, 1) := by decide +kernel
theorem dX12_cylinder_2 : decode cX12_cylinder 2 = .ok (.lconst 0, 1) := by decide +kernel
theorem dX12_cylinder_3 : decode cX12_cylinder 3 = .ok (.ldc2_w 162, 3) := by decide +kernel
theorem dX12_cylinder_6 : decode cX12_cylinder 6 = .ok (.invokestatic 150, 3) := by decide +kernel
theorem dX12_cylinder_9 : decode cX12_cylinder 9 = .ok (.ifCond .eq 27, 3) := by decide +kernel
theorem dX12_cylinder_12 : decode cX12_cylinder 12 = .ok (.iload_n 2, 1) := by decide +kernel
theorem dX12_cylinder_13 : decode cX12_cylinder 13 = .ok (.i2l, 1) := by decide +kernel
theorem dX12_cylinder_14 : decode cX12_cylinder 14 = .ok (.lconst 1, 1) := by decide +kernel
theorem dX12_cylinder_15 : decode cX12_cylinder 15 = .ok (.ldc2_w 187, 3) := by decide +kernel
theorem dX12_cylinder_18 : decode cX12_cylinder 18 = .ok (.invokestatic 150, 3) := by decide +kernel
theorem dX12_cylinder_21 : decode cX12_cylinder 21 = .ok (.ifCond .eq 15, 3) := by decide +kernel
theorem dX12_cylinder_24 : decode cX12_cylinder 24 = .ok (.iload_n 3, 1) := by decide +kernel
theorem dX12_cylinder_25 : decode cX12_cylinder 25 = .ok (.i2l, 1) := by decide +kernel
theorem dX12_cylinder_26 : decode cX12_cylinder 26 = .ok (.lconst 1, 1) := by decide +kernel
theorem dX12_cylinder_27 : decode cX12_cylinder 27 = .ok (.ldc2_w 187, 3) := by decide +kernel
theorem dX12_cylinder_30 : decode cX12_cylinder 30 = .ok (.invokestatic 150, 3) := by decide +kernel
theorem dX12_cylinder_33 : decode cX12_cylinder 33 = .ok (.ifCond .ne 6, 3) := by decide +kernel
theorem dX12_cylinder_36 : decode cX12_cylinder 36 = .ok (.bipush (-2), 2) := by decide +kernel
theorem dX12_cylinder_38 : decode cX12_cylinder 38 = .ok (.ireturn, 1) := by decide +kernel
theorem dX12_cylinder_39 : decode cX12_cylinder 39 = .ok (.aload_n 0, 1) := by decide +kernel
theorem dX12_cylinder_40 : decode cX12_cylinder 40 = .ok (.getfield 179, 3) := by decide +kernel
theorem dX12_cylinder_43 : decode cX12_cylinder 43 = .ok (.bipush 6, 2) := by decide +kernel
theorem dX12_cylinder_45 : decode cX12_cylinder 45 = .ok (.if_icmp .ne 6, 3) := by decide +kernel
theorem dX12_cylinder_48 : decode cX12_cylinder 48 = .ok (.bipush (-4), 2) := by decide +kernel
theorem dX12_cylinder_50 : decode cX12_cylinder 50 = .ok (.ireturn, 1) := by decide +kernel
theorem dX12_cylinder_51 : decode cX12_cylinder 51 = .ok (.aload_n 0, 1) := by decide +kernel
theorem dX12_cylinder_52 : decode cX12_cylinder 52 = .ok (.getfield 22, 3) := by decide +kernel
theorem dX12_cylinder_55 : decode cX12_cylinder 55 = .ok (.aload_n 0, 1) := by decide +kernel
theorem dX12_cylinder_56 : decode cX12_cylinder 56 = .ok (.getfield 179, 3) := by decide +kernel
theorem dX12_cylinder_59 : decode cX12_cylinder 59 = .ok (.iload_n 1, 1) := by decide +kernel
theorem dX12_cylinder_60 : decode cX12_cylinder 60 = .ok (.iastore, 1) := by decide +kernel
theorem dX12_cylinder_61 : decode cX12_cylinder 61 = .ok (.aload_n 0, 1) := by decide +kernel
theorem dX12_cylinder_62 : decode cX12_cylinder 62 = .ok (.getfield 25, 3) := by decide +kernel
theorem dX12_cylinder_65 : decode cX12_cylinder 65 = .ok (.aload_n 0, 1) := by decide +kernel
theorem dX12_cylinder_66 : decode cX12_cylinder 66 = .ok (.getfield 179, 3) := by decide +kernel
theorem dX12_cylinder_69 : decode cX12_cylinder 69 = .ok (.iload_n 2, 1) := by decide +kernel
theorem dX12_cylinder_70 : decode cX12_cylinder 70 = .ok (.iastore, 1) := by decide +kernel
theorem dX12_cylinder_71 : decode cX12_cylinder 71 = .ok (.aload_n 0, 1) := by decide +kernel
theorem dX12_cylinder_72 : decode cX12_cylinder 72 = .ok (.getfield 28, 3) := by decide +kernel
theorem dX12_cylinder_75 : decode cX12_cylinder 75 = .ok (.aload_n 0, 1) := by decide +kernel
theorem dX12_cylinder_76 : decode cX12_cylinder 76 = .ok (.getfield 179, 3) := by decide +kernel
theorem dX12_cylinder_79 : decode cX12_cylinder 79 = .ok (.iload_n 3, 1) := by decide +kernel
theorem dX12_cylinder_80 : decode cX12_cylinder 80 = .ok (.iastore, 1) := by decide +kernel
theorem dX12_cylinder_81 : decode cX12_cylinder 81 = .ok (.aload_n 0, 1) := by decide +kernel
theorem dX12_cylinder_82 : decode cX12_cylinder 82 = .ok (.getfield 34, 3) := by decide +kernel
theorem dX12_cylinder_85 : decode cX12_cylinder 85 = .ok (.aload_n 0, 1) := by decide +kernel
theorem dX12_cylinder_86 : decode cX12_cylinder 86 = .ok (.getfield 179, 3) := by decide +kernel
theorem dX12_cylinder_89 : decode cX12_cylinder 89 = .ok (.iconst 1, 1) := by decide +kernel
theorem dX12_cylinder_90 : decode cX12_cylinder 90 = .ok (.iastore, 1) := by decide +kernel
theorem dX12_cylinder_91 : decode cX12_cylinder 91 = .ok (.aload_n 0, 1) := by decide +kernel
theorem dX12_cylinder_92 : decode cX12_cylinder 92 = .ok (.getfield 43, 3) := by decide +kernel
theorem dX12_cylinder_95 : decode cX12_cylinder 95 = .ok (.aload_n 0, 1) := by decide +kernel
theorem dX12_cylinder_96 : decode cX12_cylinder 96 = .ok (.getfield 179, 3) := by decide +kernel
theorem dX12_cylinder_99 : decode cX12_cylinder 99 = .ok (.sipush 1000, 3) := by decide +kernel
theorem dX12_cylinder_102 : decode cX12_cylinder 102 = .ok (.iastore, 1) := by decide +kernel
theorem dX12_cylinder_103 : decode cX12_cylinder 103 = .ok (.aload_n 0, 1) := by decide +kernel
theorem dX12_cylinder_104 : decode cX12_cylinder 104 = .ok (.dup, 1) := by decide +kernel
theorem dX12_cylinder_105 : decode cX12_cylinder 105 = .ok (.getfield 179, 3) := by decide +kernel
theorem dX12_cylinder_108 : decode cX12_cylinder 108 = .ok (.iconst 1, 1) := by decide +kernel
theorem dX12_cylinder_109 : decode cX12_cylinder 109 = .ok (.iadd, 1) := by decide +kernel
theorem dX12_cylinder_110 : decode cX12_cylinder 110 = .ok (.putfield 179, 3) := by decide +kernel
theorem dX12_cylinder_113 : decode cX12_cylinder 113 = .ok (.aload_n 0, 1) := by decide +kernel
theorem dX12_cylinder_114 : decode cX12_cylinder 114 = .ok (.getfield 179, 3) := by decide +kernel
theorem dX12_cylinder_117 : decode cX12_cylinder 117 = .ok (.iconst 1, 1) := by decide +kernel
theorem dX12_cylinder_118 : decode cX12_cylinder 118 = .ok (.isub, 1) := by decide +kernel
theorem dX12_cylinder_119 : decode cX12_cylinder 119 = .ok (.ireturn, 1) := by decide +kernel
set_option maxRecDepth 100000 in
theorem ggX12_rule_X12_noCylinder : GoodIn wsX12_rule wsX12_noCylinder := goodIn_s _ [13, 14, 15, 11, 17, 18, 19, 20, 21, 22, 23, 24, 25, 26, 27, 28, 29, 30, 31, 32, 33, 34, 35, 36, 37, 38, 39, 40, 41, 42, 43, 44, 45, 46, 47, 48, 49, 50, 51, 52, 53, 54, 55, 56, 57, 58, 59, 60, 61, 62, 63, 64, 65, 66, 67, 68, 69, 70, 71, 72, 73, 74, 75, 76, 77, 78, 79, 80, 81, 82] [12, 16] (by decide +kernel) rfl (by decide +kernel)
set_option maxRecDepth 20000 in
theorem gX12_rule_X12_noCylinder : GoodIn wsX12_rule (wsV RX12 189 RX12 yX12_noCylinder wsX12_noCylinder) := goodIn_app (goodIn_of _ (by decide +kernel)) ggX12_rule_X12_noCylinder
set_option maxRecDepth 100000 in
theorem ggX12_rule_X12_in : GoodIn wsX12_rule wsX12_in := goodIn_s _ [] [16] (by decide +kernel) rfl (by decide +kernel)
set_option maxRecDepth 20000 in
theorem gX12_rule_X12_in : GoodIn wsX12_rule (va_wsS RX12 150 yX12_in wsX12_in) := goodIn_app (goodIn_of _ (by decide +kernel)) ggX12_rule_X12_in
theorem dX12_rule_0 : decode cX12_rule 0 = .ok (.aload_n 0, 1) := by decide +kernel
theorem dX12_rule_1 : decode cX12_rule 1 = .ok (.iload_n 1, 1) := by decide +kernel
theorem dX12_rule_2 : decode cX12_rule 2 = .ok (.invokevirtual 189, 3) := by decide +kernel
theorem dX12_rule_5 : decode cX12_rule 5 = .ok (.ifCond .ne 15, 3) := by decide +kernel
theorem dX12_rule_8 : decode cX12_rule 8 = .ok (.iload_n 2, 1) := by decide +kernel
theorem dX12_rule_9 : decode cX12_rule 9 = .ok (.i2l, 1) := by decide +kernel
theorem dX12_rule_10 : decode cX12_rule 10 = .ok (.lconst 0, 1) := by decide +kernel
theorem dX12_rule_11 : decode cX12_rule 11 = .ok (.ldc2_w 162, 3) := by decide +kernel
theorem dX12_rule_14 : decode cX12_rule 14 = .ok (.invokestatic 150, 3) := by decide +kernel
theorem dX12_rule_17 : decode cX12_rule 17 = .ok (.ifCond .ne 5, 3) := by decide +kernel
theorem dX12_rule_20 : decode cX12_rule 20 = .ok (.iconst (-1), 1) := by decide +kernel
theorem dX12_rule_21 : decode cX12_rule 21 = .ok (.ireturn, 1) := by decide +kernel
theorem dX12_rule_22 : decode cX12_rule 22 = .ok (.iload_n 3, 1) := by decide +kernel
theorem dX12_rule_23 : decode cX12_rule 23 = .ok (.i2l, 1) := by decide +kernel
theorem dX12_rule_24 : decode cX12_rule 24 = .ok (.iload_n 2, 1) := by decide +kernel
theorem dX12_rule_25 : decode cX12_rule 25 = .ok (.iconst 1, 1) := by decide +kernel
theorem dX12_rule_26 : decode cX12_rule 26 = .ok (.if_icmp .ne 7, 3) := by decide +kernel
theorem dX12_rule_29 : decode cX12_rule 29 = .ok (.lconst 1, 1) := by decide +kernel
theorem dX12_rule_30 : decode cX12_rule 30 = .ok (.goto 4, 3) := by decide +kernel
theorem dX12_rule_33 : decode cX12_rule 33 = .ok (.lconst 0, 1) := by decide +kernel
theorem dX12_rule_34 : decode cX12_rule 34 = .ok (.iload_n 2, 1) := by decide +kernel
theorem dX12_rule_35 : decode cX12_rule 35 = .ok (.ifCond .ne 9, 3) := by decide +kernel
theorem dX12_rule_38 : decode cX12_rule 38 = .ok (.ldc2_w 192, 3) := by decide +kernel
theorem dX12_rule_41 : decode cX12_rule 41 = .ok (.goto 17, 3) := by decide +kernel
theorem dX12_rule_44 : decode cX12_rule 44 = .ok (.iload_n 2, 1) := by decide +kernel
theorem dX12_rule_45 : decode cX12_rule 45 = .ok (.iconst 1, 1) := by decide +kernel
theorem dX12_rule_46 : decode cX12_rule 46 = .ok (.if_icmp .ne 9, 3) := by decide +kernel
theorem dX12_rule_49 : decode cX12_rule 49 = .ok (.ldc2_w 182, 3) := by decide +kernel
theorem dX12_rule_52 : decode cX12_rule 52 = .ok (.goto 6, 3) := by decide +kernel
theorem dX12_rule_55 : decode cX12_rule 55 = .ok (.ldc2_w 187, 3) := by decide +kernel
theorem dX12_rule_58 : decode cX12_rule 58 = .ok (.invokestatic 150, 3) := by decide +kernel
theorem dX12_rule_61 : decode cX12_rule 61 = .ok (.ifCond .ne 6, 3) := by decide +kernel
theorem dX12_rule_64 : decode cX12_rule 64 = .ok (.bipush (-2), 2) := by decide +kernel
theorem dX12_rule_66 : decode cX12_rule 66 = .ok (.ireturn, 1) := by decide +kernel
theorem dX12_rule_67 : decode cX12_rule 67 = .ok (.iload_n 2, 1) := by decide +kernel
theorem dX12_rule_68 : decode cX12_rule 68 = .ok (.ifCond .ne 12, 3) := by decide +kernel
theorem dX12_rule_71 : decode cX12_rule 71 = .ok (.aload_n 0, 1) := by decide +kernel
theorem dX12_rule_72 : decode cX12_rule 72 = .ok (.getfield 40, 3) := by decide +kernel
theorem dX12_rule_75 : decode cX12_rule 75 = .ok (.iload_n 1, 1) := by decide +kernel
theorem dX12_rule_76 : decode cX12_rule 76 = .ok (.iaload, 1) := by decide +kernel
theorem dX12_rule_77 : decode cX12_rule 77 = .ok (.goto 23, 3) := by decide +kernel
theorem dX12_rule_80 : decode cX12_rule 80 = .ok (.iload_n 2, 1) := by decide +kernel
theorem dX12_rule_81 : decode cX12_rule 81 = .ok (.iconst 1, 1) := by decide +kernel
theorem dX12_rule_82 : decode cX12_rule 82 = .ok (.if_icmp .ne 12, 3) := by decide +kernel
theorem dX12_rule_85 : decode cX12_rule 85 = .ok (.aload_n 0, 1) := by decide +kernel
theorem dX12_rule_86 : decode cX12_rule 86 = .ok (.getfield 43, 3) := by decide +kernel
theorem dX12_rule_89 : decode cX12_rule 89 = .ok (.iload_n 1, 1) := by decide +kernel
theorem dX12_rule_90 : decode cX12_rule 90 = .ok (.iaload, 1) := by decide +kernel
theorem dX12_rule_91 : decode cX12_rule 91 = .ok (.goto 9, 3) := by decide +kernel
theorem dX12_rule_94 : decode cX12_rule 94 = .ok (.aload_n 0, 1) := by decide +kernel
theorem dX12_rule_95 : decode cX12_rule 95 = .ok (.getfield 46, 3) := by decide +kernel
theorem dX12_rule_98 : decode cX12_rule 98 = .ok (.iload_n 1, 1) := by decide +kernel
theorem dX12_rule_99 : decode cX12_rule 99 = .ok (.iaload, 1) := by decide +kernel
theorem dX12_rule_100 : decode cX12_rule 100 = .ok (.istore 4, 2) := by decide +kernel
theorem dX12_rule_102 : decode cX12_rule 102 = .ok (.aload_n 0, 1) := by decide +kernel
theorem dX12_rule_103 : decode cX12_rule 103 = .ok (.getfield 40, 3) := by decide +kernel
theorem dX12_rule_106 : decode cX12_rule 106 = .ok (.iload_n 1, 1) := by decide +kernel
theorem dX12_rule_107 : decode cX12_rule 107 = .ok (.iload_n 2, 1) := by decide +kernel
theorem dX12_rule_108 : decode cX12_rule 108 = .ok (.ifCond .ne 7, 3) := by decide +kernel
theorem dX12_rule_111 : decode cX12_rule 111 = .ok (.iload_n 3, 1) := by decide +kernel
theorem dX12_rule_112 : decode cX12_rule 112 = .ok (.goto 9, 3) := by decide +kernel
theorem dX12_rule_115 : decode cX12_rule 115 = .ok (.aload_n 0, 1) := by decide +kernel
theorem dX12_rule_116 : decode cX12_rule 116 = .ok (.getfield 40, 3) := by decide +kernel
theorem dX12_rule_119 : decode cX12_rule 119 = .ok (.iload_n 1, 1) := by decide +kernel
theorem dX12_rule_120 : decode cX12_rule 120 = .ok (.iaload, 1) := by decide +kernel
theorem dX12_rule_121 : decode cX12_rule 121 = .ok (.iastore, 1) := by decide +kernel
theorem dX12_rule_122 : decode cX12_rule 122 = .ok (.aload_n 0, 1) := by decide +kernel
theorem dX12_rule_123 : decode cX12_rule 123 = .ok (.getfield 43, 3) := by decide +kernel
theorem dX12_rule_126 : decode cX12_rule 126 = .ok (.iload_n 1, 1) := by decide +kernel
theorem dX12_rule_127 : decode cX12_rule 127 = .ok (.iload_n 2, 1) := by decide +kernel
theorem dX12_rule_128 : decode cX12_rule 128 = .ok (.iconst 1, 1) := by decide +kernel
theorem dX12_rule_129 : decode cX12_rule 129 = .ok (.if_icmp .ne 7, 3) := by decide +kernel
theorem dX12_rule_132 : decode cX12_rule 132 = .ok (.iload_n 3, 1) := by decide +kernel
theorem dX12_rule_133 : decode cX12_rule 133 = .ok (.goto 9, 3) := by decide +kernel
theorem dX12_rule_136 : decode cX12_rule 136 = .ok (.aload_n 0, 1) := by decide +kernel
theorem dX12_rule_137 : decode cX12_rule 137 = .ok (.getfield 43, 3) := by decide +kernel
theorem dX12_rule_140 : decode cX12_rule 140 = .ok (.iload_n 1, 1) := by decide +kernel
theorem dX12_rule_141 : decode cX12_rule 141 = .ok (.iaload, 1) := by decide +kernel
theorem dX12_rule_142 : decode cX12_rule 142 = .ok (.iastore, 1) := by decide +kernel
theorem dX12_rule_143 : decode cX12_rule 143 = .ok (.aload_n 0, 1) := by decide +kernel
theorem dX12_rule_144 : decode cX12_rule 144 = .ok (.getfield 46, 3) := by decide +kernel
theorem dX12_rule_147 : decode cX12_rule 147 = .ok (.iload_n 1, 1) := by decide +kernel
theorem dX12_rule_148 : decode cX12_rule 148 = .ok (.iload_n 2, 1) := by decide +kernel
theorem dX12_rule_149 : decode cX12_rule 149 = .ok (.iconst 2, 1) := by decide +kernel
theorem dX12_rule_150 : decode cX12_rule 150 = .ok (.if_icmp .ne 7, 3) := by decide +kernel
theorem dX12_rule_153 : decode cX12_rule 153 = .ok (.iload_n 3, 1) := by decide +kernel
theorem dX12_rule_154 : decode cX12_rule 154 = .ok (.goto 9, 3) := by decide +kernel
theorem dX12_rule_157 : decode cX12_rule 157 = .ok (.aload_n 0, 1) := by decide +kernel
theorem dX12_rule_158 : decode cX12_rule 158 = .ok (.getfield 46, 3) := by decide +kernel
end
section
theorem dX12_rule_161 : decode cX12_rule 161 = .ok (.iload_n 1, 1) := by decide +kernel
theorem dX12_rule_162 : decode cX12_rule 162 = .ok (.iaload, 1) := by decide +kernel
theorem dX12_rule_163 : decode cX12_rule 163 = .ok (.iastore, 1) := by decide +kernel
theorem dX12_rule_164 : decode cX12_rule 164 = .ok (.iload 4, 2) := by decide +kernel
theorem dX12_rule_166 : decode cX12_rule 166 = .ok (.ireturn, 1) := by decide +kernel
set_option maxRecDepth 100000 in
theorem ggX12_loads_X12_noCylinder : GoodIn wsX12_loads wsX12_noCylinder := goodIn_s _ [14, 15, 16, 12, 34, 35, 36, 37, 38, 39, 40, 41, 42, 43, 44, 45, 46, 47, 48, 49, 50, 51, 52, 53, 54, 55, 56, 57, 58, 59, 60, 61, 62, 63, 64, 65, 66, 67, 68, 69, 70, 71, 72, 73, 74, 75, 76, 77, 78, 79, 80, 81, 82, 83, 84, 85, 86, 87, 88, 89, 90, 91, 92, 93, 94, 95, 96, 97, 98, 99] [13, 17] (by decide +kernel) rfl (by decide +kernel)
set_option maxRecDepth 20000 in
theorem gX12_loads_X12_noCylinder : GoodIn wsX12_loads (wsV RX12 189 RX12 yX12_noCylinder wsX12_noCylinder) := goodIn_app (goodIn_of _ (by decide +kernel)) ggX12_loads_X12_noCylinder
set_option maxRecDepth 100000 in
theorem ggX12_loads_X12_noSheet : GoodIn wsX12_loads wsX12_noSheet := goodIn_s _ [21, 15, 16, 12] [20, 17] (by decide +kernel) rfl (by decide +kernel)
set_option maxRecDepth 20000 in
theorem gX12_loads_X12_noSheet : GoodIn wsX12_loads (va_wsS RX12 154 yX12_noSheet wsX12_noSheet) := goodIn_app (goodIn_of _ (by decide +kernel)) ggX12_loads_X12_noSheet
set_option maxRecDepth 100000 in
theorem ggX12_loads_X12_refused : GoodIn wsX12_loads wsX12_refused := goodIn_s _ [26, 34, 35, 36, 37, 38, 39, 40, 41, 42, 43, 44, 45, 46, 47, 48, 49, 50, 51, 52, 53, 54, 55, 56, 57, 58, 59, 60, 61, 62, 63, 64, 65, 66, 67, 68, 69, 70, 71, 72, 73, 74, 75, 76, 77, 78, 79, 80, 81, 82, 83, 84, 85, 86, 87, 88, 89, 90, 91, 92, 93, 94, 95, 96, 97, 98, 99] [25] (by decide +kernel) rfl (by decide +kernel)
set_option maxRecDepth 20000 in
theorem gX12_loads_X12_refused : GoodIn wsX12_loads (wsV RX12 158 RX12 yX12_refused wsX12_refused) := goodIn_app (goodIn_of _ (by decide +kernel)) ggX12_loads_X12_refused
set_option maxRecDepth 100000 in
theorem ggX12_loads_X12_in : GoodIn wsX12_loads wsX12_in := goodIn_s _ [] [17] (by decide +kernel) rfl (by decide +kernel)
set_option maxRecDepth 20000 in
theorem gX12_loads_X12_in : GoodIn wsX12_loads (va_wsS RX12 150 yX12_in wsX12_in) := goodIn_app (goodIn_of _ (by decide +kernel)) ggX12_loads_X12_in
set_option maxRecDepth 100000 in
theorem ggX12_loads_X12_failed : GoodIn wsX12_loads wsX12_failed := goodIn_s _ [26, 34, 35, 36, 37, 38, 39, 40, 41, 42, 43, 44, 45, 46, 47, 48, 49, 50, 51, 52, 53, 54, 55, 56, 57, 58, 59, 60, 61, 62, 63, 64, 65, 66, 67, 68, 69, 70, 71, 72, 73, 74, 75, 76, 77, 78, 79, 80, 81, 82, 83, 84, 85, 86, 87, 88, 89, 90, 91, 92, 93, 94, 95, 96, 97, 98, 99] [30] (by decide +kernel) rfl (by decide +kernel)
set_option maxRecDepth 20000 in
theorem gX12_loads_X12_failed : GoodIn wsX12_loads (wsV RX12 164 RX12 yX12_failed wsX12_failed) := goodIn_app (goodIn_of _ (by decide +kernel)) ggX12_loads_X12_failed
set_option maxRecDepth 100000 in
theorem ggX12_loads_X12_isBeyond : GoodIn wsX12_loads wsX12_isBeyond := goodIn_s _ [] [33] (by decide +kernel) rfl (by decide +kernel)
set_option maxRecDepth 20000 in
theorem gX12_loads_X12_isBeyond : GoodIn wsX12_loads (va_wsS RX12 175 yX12_isBeyond wsX12_isBeyond) := goodIn_app (goodIn_of _ (by decide +kernel)) ggX12_loads_X12_isBeyond
theorem dX12_loads_0 : decode cX12_loads 0 = .ok (.aload_n 0, 1) := by decide +kernel
theorem dX12_loads_1 : decode cX12_loads 1 = .ok (.iload_n 1, 1) := by decide +kernel
theorem dX12_loads_2 : decode cX12_loads 2 = .ok (.invokevirtual 189, 3) := by decide +kernel
theorem dX12_loads_5 : decode cX12_loads 5 = .ok (.ifCond .ne 10, 3) := by decide +kernel
theorem dX12_loads_8 : decode cX12_loads 8 = .ok (.iload_n 2, 1) := by decide +kernel
theorem dX12_loads_9 : decode cX12_loads 9 = .ok (.invokestatic 154, 3) := by decide +kernel
theorem dX12_loads_12 : decode cX12_loads 12 = .ok (.ifCond .eq 9, 3) := by decide +kernel
theorem dX12_loads_15 : decode cX12_loads 15 = .ok (.aload_n 0, 1) := by decide +kernel
theorem dX12_loads_16 : decode cX12_loads 16 = .ok (.iconst (-1), 1) := by decide +kernel
theorem dX12_loads_17 : decode cX12_loads 17 = .ok (.invokevirtual 158, 3) := by decide +kernel
theorem dX12_loads_20 : decode cX12_loads 20 = .ok (.ireturn, 1) := by decide +kernel
theorem dX12_loads_21 : decode cX12_loads 21 = .ok (.iload_n 3, 1) := by decide +kernel
theorem dX12_loads_22 : decode cX12_loads 22 = .ok (.i2l, 1) := by decide +kernel
theorem dX12_loads_23 : decode cX12_loads 23 = .ok (.lconst 0, 1) := by decide +kernel
theorem dX12_loads_24 : decode cX12_loads 24 = .ok (.ldc2_w 162, 3) := by decide +kernel
theorem dX12_loads_27 : decode cX12_loads 27 = .ok (.invokestatic 150, 3) := by decide +kernel
theorem dX12_loads_30 : decode cX12_loads 30 = .ok (.ifCond .ne 10, 3) := by decide +kernel
theorem dX12_loads_33 : decode cX12_loads 33 = .ok (.aload_n 0, 1) := by decide +kernel
theorem dX12_loads_34 : decode cX12_loads 34 = .ok (.bipush (-2), 2) := by decide +kernel
theorem dX12_loads_36 : decode cX12_loads 36 = .ok (.invokevirtual 158, 3) := by decide +kernel
theorem dX12_loads_39 : decode cX12_loads 39 = .ok (.ireturn, 1) := by decide +kernel
theorem dX12_loads_40 : decode cX12_loads 40 = .ok (.aload_n 0, 1) := by decide +kernel
theorem dX12_loads_41 : decode cX12_loads 41 = .ok (.getfield 7, 3) := by decide +kernel
theorem dX12_loads_44 : decode cX12_loads 44 = .ok (.iload_n 2, 1) := by decide +kernel
theorem dX12_loads_45 : decode cX12_loads 45 = .ok (.iaload, 1) := by decide +kernel
theorem dX12_loads_46 : decode cX12_loads 46 = .ok (.ifCond .lt 19, 3) := by decide +kernel
theorem dX12_loads_49 : decode cX12_loads 49 = .ok (.aload_n 0, 1) := by decide +kernel
theorem dX12_loads_50 : decode cX12_loads 50 = .ok (.getfield 13, 3) := by decide +kernel
theorem dX12_loads_53 : decode cX12_loads 53 = .ok (.iload_n 2, 1) := by decide +kernel
theorem dX12_loads_54 : decode cX12_loads 54 = .ok (.iaload, 1) := by decide +kernel
theorem dX12_loads_55 : decode cX12_loads 55 = .ok (.iload_n 3, 1) := by decide +kernel
theorem dX12_loads_56 : decode cX12_loads 56 = .ok (.if_icmp .eq 9, 3) := by decide +kernel
theorem dX12_loads_59 : decode cX12_loads 59 = .ok (.aload_n 0, 1) := by decide +kernel
theorem dX12_loads_60 : decode cX12_loads 60 = .ok (.iconst 2, 1) := by decide +kernel
theorem dX12_loads_61 : decode cX12_loads 61 = .ok (.invokevirtual 164, 3) := by decide +kernel
theorem dX12_loads_64 : decode cX12_loads 64 = .ok (.ireturn, 1) := by decide +kernel
theorem dX12_loads_65 : decode cX12_loads 65 = .ok (.aload_n 0, 1) := by decide +kernel
theorem dX12_loads_66 : decode cX12_loads 66 = .ok (.getfield 7, 3) := by decide +kernel
theorem dX12_loads_69 : decode cX12_loads 69 = .ok (.iload_n 2, 1) := by decide +kernel
theorem dX12_loads_70 : decode cX12_loads 70 = .ok (.iaload, 1) := by decide +kernel
theorem dX12_loads_71 : decode cX12_loads 71 = .ok (.ifCond .ge 9, 3) := by decide +kernel
theorem dX12_loads_74 : decode cX12_loads 74 = .ok (.aload_n 0, 1) := by decide +kernel
theorem dX12_loads_75 : decode cX12_loads 75 = .ok (.iconst 1, 1) := by decide +kernel
theorem dX12_loads_76 : decode cX12_loads 76 = .ok (.invokevirtual 164, 3) := by decide +kernel
theorem dX12_loads_79 : decode cX12_loads 79 = .ok (.ireturn, 1) := by decide +kernel
theorem dX12_loads_80 : decode cX12_loads 80 = .ok (.iload 5, 2) := by decide +kernel
theorem dX12_loads_82 : decode cX12_loads 82 = .ok (.ifCond .ge 9, 3) := by decide +kernel
theorem dX12_loads_85 : decode cX12_loads 85 = .ok (.aload_n 0, 1) := by decide +kernel
theorem dX12_loads_86 : decode cX12_loads 86 = .ok (.iconst 4, 1) := by decide +kernel
theorem dX12_loads_87 : decode cX12_loads 87 = .ok (.invokevirtual 164, 3) := by decide +kernel
theorem dX12_loads_90 : decode cX12_loads 90 = .ok (.ireturn, 1) := by decide +kernel
theorem dX12_loads_91 : decode cX12_loads 91 = .ok (.iload 4, 2) := by decide +kernel
theorem dX12_loads_93 : decode cX12_loads 93 = .ok (.iload 5, 2) := by decide +kernel
theorem dX12_loads_95 : decode cX12_loads 95 = .ok (.aload_n 0, 1) := by decide +kernel
theorem dX12_loads_96 : decode cX12_loads 96 = .ok (.getfield 7, 3) := by decide +kernel
theorem dX12_loads_99 : decode cX12_loads 99 = .ok (.iload_n 2, 1) := by decide +kernel
theorem dX12_loads_100 : decode cX12_loads 100 = .ok (.iaload, 1) := by decide +kernel
theorem dX12_loads_101 : decode cX12_loads 101 = .ok (.invokestatic 175, 3) := by decide +kernel
theorem dX12_loads_104 : decode cX12_loads 104 = .ok (.ifCond .eq 9, 3) := by decide +kernel
theorem dX12_loads_107 : decode cX12_loads 107 = .ok (.aload_n 0, 1) := by decide +kernel
theorem dX12_loads_108 : decode cX12_loads 108 = .ok (.iconst 3, 1) := by decide +kernel
theorem dX12_loads_109 : decode cX12_loads 109 = .ok (.invokevirtual 164, 3) := by decide +kernel
theorem dX12_loads_112 : decode cX12_loads 112 = .ok (.ireturn, 1) := by decide +kernel
theorem dX12_loads_113 : decode cX12_loads 113 = .ok (.iload 5, 2) := by decide +kernel
theorem dX12_loads_115 : decode cX12_loads 115 = .ok (.i2l, 1) := by decide +kernel
theorem dX12_loads_116 : decode cX12_loads 116 = .ok (.lconst 1, 1) := by decide +kernel
theorem dX12_loads_117 : decode cX12_loads 117 = .ok (.ldc2_w 194, 3) := by decide +kernel
theorem dX12_loads_120 : decode cX12_loads 120 = .ok (.invokestatic 150, 3) := by decide +kernel
theorem dX12_loads_123 : decode cX12_loads 123 = .ok (.ifCond .ne 10, 3) := by decide +kernel
theorem dX12_loads_126 : decode cX12_loads 126 = .ok (.aload_n 0, 1) := by decide +kernel
theorem dX12_loads_127 : decode cX12_loads 127 = .ok (.bipush (-2), 2) := by decide +kernel
theorem dX12_loads_129 : decode cX12_loads 129 = .ok (.invokevirtual 158, 3) := by decide +kernel
theorem dX12_loads_132 : decode cX12_loads 132 = .ok (.ireturn, 1) := by decide +kernel
theorem dX12_loads_133 : decode cX12_loads 133 = .ok (.iconst 0, 1) := by decide +kernel
theorem dX12_loads_134 : decode cX12_loads 134 = .ok (.istore 6, 2) := by decide +kernel
theorem dX12_loads_136 : decode cX12_loads 136 = .ok (.iload 6, 2) := by decide +kernel
theorem dX12_loads_138 : decode cX12_loads 138 = .ok (.iload 5, 2) := by decide +kernel
theorem dX12_loads_140 : decode cX12_loads 140 = .ok (.if_icmp .ge 42, 3) := by decide +kernel
theorem dX12_loads_143 : decode cX12_loads 143 = .ok (.aload_n 0, 1) := by decide +kernel
theorem dX12_loads_144 : decode cX12_loads 144 = .ok (.getfield 16, 3) := by decide +kernel
theorem dX12_loads_147 : decode cX12_loads 147 = .ok (.bipush 20, 2) := by decide +kernel
theorem dX12_loads_149 : decode cX12_loads 149 = .ok (.iload_n 2, 1) := by decide +kernel
theorem dX12_loads_150 : decode cX12_loads 150 = .ok (.imul, 1) := by decide +kernel
theorem dX12_loads_151 : decode cX12_loads 151 = .ok (.iload 4, 2) := by decide +kernel
theorem dX12_loads_153 : decode cX12_loads 153 = .ok (.iadd, 1) := by decide +kernel
theorem dX12_loads_154 : decode cX12_loads 154 = .ok (.iload 6, 2) := by decide +kernel
theorem dX12_loads_156 : decode cX12_loads 156 = .ok (.iadd, 1) := by decide +kernel
theorem dX12_loads_157 : decode cX12_loads 157 = .ok (.iaload, 1) := by decide +kernel
theorem dX12_loads_158 : decode cX12_loads 158 = .ok (.i2l, 1) := by decide +kernel
theorem dX12_loads_159 : decode cX12_loads 159 = .ok (.lconst 0, 1) := by decide +kernel
theorem dX12_loads_160 : decode cX12_loads 160 = .ok (.ldc2_w 196, 3) := by decide +kernel
theorem dX12_loads_163 : decode cX12_loads 163 = .ok (.invokestatic 150, 3) := by decide +kernel
theorem dX12_loads_166 : decode cX12_loads 166 = .ok (.ifCond .ne 10, 3) := by decide +kernel
theorem dX12_loads_169 : decode cX12_loads 169 = .ok (.aload_n 0, 1) := by decide +kernel
theorem dX12_loads_170 : decode cX12_loads 170 = .ok (.bipush (-2), 2) := by decide +kernel
theorem dX12_loads_172 : decode cX12_loads 172 = .ok (.invokevirtual 158, 3) := by decide +kernel
theorem dX12_loads_175 : decode cX12_loads 175 = .ok (.ireturn, 1) := by decide +kernel
theorem dX12_loads_176 : decode cX12_loads 176 = .ok (.iinc 6 1, 3) := by decide +kernel
theorem dX12_loads_179 : decode cX12_loads 179 = .ok (.goto (-43), 3) := by decide +kernel
theorem dX12_loads_182 : decode cX12_loads 182 = .ok (.aload_n 0, 1) := by decide +kernel
theorem dX12_loads_183 : decode cX12_loads 183 = .ok (.getfield 34, 3) := by decide +kernel
theorem dX12_loads_186 : decode cX12_loads 186 = .ok (.iload_n 1, 1) := by decide +kernel
theorem dX12_loads_187 : decode cX12_loads 187 = .ok (.iload 5, 2) := by decide +kernel
theorem dX12_loads_189 : decode cX12_loads 189 = .ok (.iastore, 1) := by decide +kernel
theorem dX12_loads_190 : decode cX12_loads 190 = .ok (.iconst 0, 1) := by decide +kernel
theorem dX12_loads_191 : decode cX12_loads 191 = .ok (.istore 6, 2) := by decide +kernel
theorem dX12_loads_193 : decode cX12_loads 193 = .ok (.iload 6, 2) := by decide +kernel
theorem dX12_loads_195 : decode cX12_loads 195 = .ok (.iload 5, 2) := by decide +kernel
theorem dX12_loads_197 : decode cX12_loads 197 = .ok (.if_icmp .ge 36, 3) := by decide +kernel
theorem dX12_loads_200 : decode cX12_loads 200 = .ok (.aload_n 0, 1) := by decide +kernel
theorem dX12_loads_201 : decode cX12_loads 201 = .ok (.getfield 37, 3) := by decide +kernel
theorem dX12_loads_204 : decode cX12_loads 204 = .ok (.bipush 10, 2) := by decide +kernel
theorem dX12_loads_206 : decode cX12_loads 206 = .ok (.iload_n 1, 1) := by decide +kernel
theorem dX12_loads_207 : decode cX12_loads 207 = .ok (.imul, 1) := by decide +kernel
theorem dX12_loads_208 : decode cX12_loads 208 = .ok (.iload 6, 2) := by decide +kernel
theorem dX12_loads_210 : decode cX12_loads 210 = .ok (.iadd, 1) := by decide +kernel
theorem dX12_loads_211 : decode cX12_loads 211 = .ok (.aload_n 0, 1) := by decide +kernel
theorem dX12_loads_212 : decode cX12_loads 212 = .ok (.getfield 16, 3) := by decide +kernel
theorem dX12_loads_215 : decode cX12_loads 215 = .ok (.bipush 20, 2) := by decide +kernel
theorem dX12_loads_217 : decode cX12_loads 217 = .ok (.iload_n 2, 1) := by decide +kernel
theorem dX12_loads_218 : decode cX12_loads 218 = .ok (.imul, 1) := by decide +kernel
theorem dX12_loads_219 : decode cX12_loads 219 = .ok (.iload 4, 2) := by decide +kernel
theorem dX12_loads_221 : decode cX12_loads 221 = .ok (.iadd, 1) := by decide +kernel
theorem dX12_loads_222 : decode cX12_loads 222 = .ok (.iload 6, 2) := by decide +kernel
theorem dX12_loads_224 : decode cX12_loads 224 = .ok (.iadd, 1) := by decide +kernel
theorem dX12_loads_225 : decode cX12_loads 225 = .ok (.iaload, 1) := by decide +kernel
theorem dX12_loads_226 : decode cX12_loads 226 = .ok (.iastore, 1) := by decide +kernel
theorem dX12_loads_227 : decode cX12_loads 227 = .ok (.iinc 6 1, 3) := by decide +kernel
theorem dX12_loads_230 : decode cX12_loads 230 = .ok (.goto (-37), 3) := by decide +kernel
theorem dX12_loads_233 : decode cX12_loads 233 = .ok (.aload_n 0, 1) := by decide +kernel
theorem dX12_loads_234 : decode cX12_loads 234 = .ok (.iload 5, 2) := by decide +kernel
theorem dX12_loads_236 : decode cX12_loads 236 = .ok (.invokevirtual 158, 3) := by decide +kernel
theorem dX12_loads_239 : decode cX12_loads 239 = .ok (.ireturn, 1) := by decide +kernel
set_option maxRecDepth 100000 in
theorem ggX12_valve_X12_noCylinder : GoodIn wsX12_valve wsX12_noCylinder := goodIn_s _ [8, 9, 10, 6, 12, 13, 14, 15, 16, 17, 18, 19, 20, 21, 22, 23, 24, 25, 26, 27, 28, 29, 30, 31, 32, 33, 34, 35, 36, 37, 38, 39, 40, 41, 42, 43, 44, 45, 46, 47, 48, 49, 50, 51, 52, 53, 54, 55, 56, 57, 58, 59, 60, 61, 62, 63, 64, 65, 66, 67, 68, 69, 70, 71, 72, 73, 74, 75, 76, 77] [7, 11] (by decide +kernel) rfl (by decide +kernel)
set_option maxRecDepth 20000 in
theorem gX12_valve_X12_noCylinder : GoodIn wsX12_valve (wsV RX12 189 RX12 yX12_noCylinder wsX12_noCylinder) := goodIn_app (goodIn_of _ (by decide +kernel)) ggX12_valve_X12_noCylinder
set_option maxRecDepth 100000 in
theorem ggX12_valve_X12_in : GoodIn wsX12_valve wsX12_in := goodIn_s _ [] [11] (by decide +kernel) rfl (by decide +kernel)
set_option maxRecDepth 20000 in
theorem gX12_valve_X12_in : GoodIn wsX12_valve (va_wsS RX12 150 yX12_in wsX12_in) := goodIn_app (goodIn_of _ (by decide +kernel)) ggX12_valve_X12_in
theorem dX12_valve_0 : decode cX12_valve 0 = .ok (.aload_n 0, 1) := by decide +kernel
theorem dX12_valve_1 : decode cX12_valve 1 = .ok (.iload_n 1, 1) := by decide +kernel
theorem dX12_valve_2 : decode cX12_valve 2 = .ok (.invokevirtual 189, 3) := by decide +kernel
theorem dX12_valve_5 : decode cX12_valve 5 = .ok (.ifCond .eq 5, 3) := by decide +kernel
theorem dX12_valve_8 : decode cX12_valve 8 = .ok (.iconst (-1), 1) := by decide +kernel
theorem dX12_valve_9 : decode cX12_valve 9 = .ok (.ireturn, 1) := by decide +kernel
theorem dX12_valve_10 : decode cX12_valve 10 = .ok (.iload_n 2, 1) := by decide +kernel
theorem dX12_valve_11 : decode cX12_valve 11 = .ok (.i2l, 1) := by decide +kernel
theorem dX12_valve_12 : decode cX12_valve 12 = .ok (.lconst 0, 1) := by decide +kernel
theorem dX12_valve_13 : decode cX12_valve 13 = .ok (.ldc2_w 162, 3) := by decide +kernel
theorem dX12_valve_16 : decode cX12_valve 16 = .ok (.invokestatic 150, 3) := by decide +kernel
theorem dX12_valve_19 : decode cX12_valve 19 = .ok (.ifCond .ne 6, 3) := by decide +kernel
theorem dX12_valve_22 : decode cX12_valve 22 = .ok (.bipush (-2), 2) := by decide +kernel
theorem dX12_valve_24 : decode cX12_valve 24 = .ok (.ireturn, 1) := by decide +kernel
theorem dX12_valve_25 : decode cX12_valve 25 = .ok (.aload_n 0, 1) := by decide +kernel
theorem dX12_valve_26 : decode cX12_valve 26 = .ok (.getfield 49, 3) := by decide +kernel
theorem dX12_valve_29 : decode cX12_valve 29 = .ok (.iload_n 1, 1) := by decide +kernel
theorem dX12_valve_30 : decode cX12_valve 30 = .ok (.iaload, 1) := by decide +kernel
theorem dX12_valve_31 : decode cX12_valve 31 = .ok (.istore_n 3, 1) := by decide +kernel
theorem dX12_valve_32 : decode cX12_valve 32 = .ok (.aload_n 0, 1) := by decide +kernel
theorem dX12_valve_33 : decode cX12_valve 33 = .ok (.getfield 49, 3) := by decide +kernel
theorem dX12_valve_36 : decode cX12_valve 36 = .ok (.iload_n 1, 1) := by decide +kernel
theorem dX12_valve_37 : decode cX12_valve 37 = .ok (.iload_n 2, 1) := by decide +kernel
theorem dX12_valve_38 : decode cX12_valve 38 = .ok (.iastore, 1) := by decide +kernel
theorem dX12_valve_39 : decode cX12_valve 39 = .ok (.iload_n 3, 1) := by decide +kernel
theorem dX12_valve_40 : decode cX12_valve 40 = .ok (.ireturn, 1) := by decide +kernel
theorem dX12_room_0 : decode cX12_room 0 = .ok (.aload_n 0, 1) := by decide +kernel
theorem dX12_room_1 : decode cX12_room 1 = .ok (.getfield 25, 3) := by decide +kernel
theorem dX12_room_4 : decode cX12_room 4 = .ok (.iload_n 1, 1) := by decide +kernel
theorem dX12_room_5 : decode cX12_room 5 = .ok (.iaload, 1) := by decide +kernel
theorem dX12_room_6 : decode cX12_room 6 = .ok (.aload_n 0, 1) := by decide +kernel
theorem dX12_room_7 : decode cX12_room 7 = .ok (.getfield 28, 3) := by decide +kernel
theorem dX12_room_10 : decode cX12_room 10 = .ok (.iload_n 1, 1) := by decide +kernel
theorem dX12_room_11 : decode cX12_room 11 = .ok (.iaload, 1) := by decide +kernel
theorem dX12_room_12 : decode cX12_room 12 = .ok (.imul, 1) := by decide +kernel
theorem dX12_room_13 : decode cX12_room 13 = .ok (.ireturn, 1) := by decide +kernel
set_option maxRecDepth 100000 in
theorem ggX12_fill_X12_noCylinder : GoodIn wsX12_fill wsX12_noCylinder := goodIn_s _ [7, 8, 9, 5, 17, 18, 19, 20, 21, 22, 23, 24, 25, 26, 27, 28, 29, 30, 31, 32, 33, 34, 35, 36, 37, 38, 39, 40, 41, 42, 43, 44, 45, 46, 47, 48, 49, 50, 51, 52, 53, 54, 55, 56, 57, 58, 59, 60, 61, 62, 63, 64, 65, 66, 67, 68, 69, 70, 71, 72, 73, 74, 75, 76, 77, 78, 79, 80, 81, 82] [6, 10] (by decide +kernel) rfl (by decide +kernel)
set_option maxRecDepth 20000 in
theorem gX12_fill_X12_noCylinder : GoodIn wsX12_fill (wsV RX12 189 RX12 yX12_noCylinder wsX12_noCylinder) := goodIn_app (goodIn_of _ (by decide +kernel)) ggX12_fill_X12_noCylinder
set_option maxRecDepth 100000 in
theorem ggX12_fill_X12_room : GoodIn wsX12_fill wsX12_room := goodIn_s _ [15, 16, 17, 18, 19, 20, 21, 22, 23, 24, 25, 26, 27, 28, 29, 30, 31, 32, 33, 34, 35, 36, 37, 38, 39, 40, 41, 42, 43, 44, 45, 46, 47, 48, 49, 50, 51, 52, 53, 54, 55, 56, 57, 58, 59, 60, 61, 62, 63, 64, 65, 66, 67, 68, 69, 70, 71, 72, 73, 74, 75, 76, 77, 78, 79, 80, 81, 82] [14] (by decide +kernel) rfl (by decide +kernel)
set_option maxRecDepth 20000 in
theorem gX12_fill_X12_room : GoodIn wsX12_fill (wsV RX12 198 RX12 yX12_room wsX12_room) := goodIn_app (goodIn_of _ (by decide +kernel)) ggX12_fill_X12_room
set_option maxRecDepth 100000 in
theorem ggX12_fill_X12_in : GoodIn wsX12_fill wsX12_in := goodIn_s _ [] [10] (by decide +kernel) rfl (by decide +kernel)
set_option maxRecDepth 20000 in
theorem gX12_fill_X12_in : GoodIn wsX12_fill (va_wsS RX12 150 yX12_in wsX12_in) := goodIn_app (goodIn_of _ (by decide +kernel)) ggX12_fill_X12_in
theorem dX12_fill_0 : decode cX12_fill 0 = .ok (.aload_n 0, 1) := by decide +kernel
theorem dX12_fill_1 : decode cX12_fill 1 = .ok (.iload_n 1, 1) := by decide +kernel
theorem dX12_fill_2 : decode cX12_fill 2 = .ok (.invokevirtual 189, 3) := by decide +kernel
theorem dX12_fill_5 : decode cX12_fill 5 = .ok (.ifCond .eq 5, 3) := by decide +kernel
theorem dX12_fill_8 : decode cX12_fill 8 = .ok (.iconst (-1), 1) := by decide +kernel
theorem dX12_fill_9 : decode cX12_fill 9 = .ok (.ireturn, 1) := by decide +kernel
theorem dX12_fill_10 : decode cX12_fill 10 = .ok (.iload_n 2, 1) := by decide +kernel
theorem dX12_fill_11 : decode cX12_fill 11 = .ok (.i2l, 1) := by decide +kernel
theorem dX12_fill_12 : decode cX12_fill 12 = .ok (.lconst 0, 1) := by decide +kernel
theorem dX12_fill_13 : decode cX12_fill 13 = .ok (.aload_n 0, 1) := by decide +kernel
theorem dX12_fill_14 : decode cX12_fill 14 = .ok (.iload_n 1, 1) := by decide +kernel
theorem dX12_fill_15 : decode cX12_fill 15 = .ok (.invokevirtual 198, 3) := by decide +kernel
theorem dX12_fill_18 : decode cX12_fill 18 = .ok (.i2l, 1) := by decide +kernel
theorem dX12_fill_19 : decode cX12_fill 19 = .ok (.invokestatic 150, 3) := by decide +kernel
theorem dX12_fill_22 : decode cX12_fill 22 = .ok (.ifCond .ne 6, 3) := by decide +kernel
theorem dX12_fill_25 : decode cX12_fill 25 = .ok (.bipush (-2), 2) := by decide +kernel
theorem dX12_fill_27 : decode cX12_fill 27 = .ok (.ireturn, 1) := by decide +kernel
theorem dX12_fill_28 : decode cX12_fill 28 = .ok (.aload_n 0, 1) := by decide +kernel
theorem dX12_fill_29 : decode cX12_fill 29 = .ok (.getfield 31, 3) := by decide +kernel
theorem dX12_fill_32 : decode cX12_fill 32 = .ok (.iload_n 1, 1) := by decide +kernel
theorem dX12_fill_33 : decode cX12_fill 33 = .ok (.iaload, 1) := by decide +kernel
theorem dX12_fill_34 : decode cX12_fill 34 = .ok (.istore_n 3, 1) := by decide +kernel
theorem dX12_fill_35 : decode cX12_fill 35 = .ok (.aload_n 0, 1) := by decide +kernel
theorem dX12_fill_36 : decode cX12_fill 36 = .ok (.getfield 31, 3) := by decide +kernel
theorem dX12_fill_39 : decode cX12_fill 39 = .ok (.iload_n 1, 1) := by decide +kernel
theorem dX12_fill_40 : decode cX12_fill 40 = .ok (.iload_n 2, 1) := by decide +kernel
theorem dX12_fill_41 : decode cX12_fill 41 = .ok (.iastore, 1) := by decide +kernel
theorem dX12_fill_42 : decode cX12_fill 42 = .ok (.iload_n 3, 1) := by decide +kernel
theorem dX12_fill_43 : decode cX12_fill 43 = .ok (.ireturn, 1) := by decide +kernel
set_option maxRecDepth 100000 in
theorem ggX12_burst_X12_noCylinder : GoodIn wsX12_burst wsX12_noCylinder := goodIn_s _ [7, 8, 9, 5, 11, 12, 13, 14, 15, 16, 17, 18, 19, 20, 21, 22, 23, 24, 25, 26, 27, 28, 29, 30, 31, 32, 33, 34, 35, 36, 37, 38, 39, 40, 41, 42, 43, 44, 45, 46, 47, 48, 49, 50, 51, 52, 53, 54, 55, 56, 57, 58, 59, 60, 61, 62, 63, 64, 65, 66, 67, 68, 69, 70, 71, 72, 73, 74, 75, 76] [6, 10] (by decide +kernel) rfl (by decide +kernel)
set_option maxRecDepth 20000 in
theorem gX12_burst_X12_noCylinder : GoodIn wsX12_burst (wsV RX12 189 RX12 yX12_noCylinder wsX12_noCylinder) := goodIn_app (goodIn_of _ (by decide +kernel)) ggX12_burst_X12_noCylinder
theorem dX12_burst_0 : decode cX12_burst 0 = .ok (.aload_n 0, 1) := by decide +kernel
theorem dX12_burst_1 : decode cX12_burst 1 = .ok (.iload_n 1, 1) := by decide +kernel
theorem dX12_burst_2 : decode cX12_burst 2 = .ok (.invokevirtual 189, 3) := by decide +kernel
theorem dX12_burst_5 : decode cX12_burst 5 = .ok (.ifCond .eq 5, 3) := by decide +kernel
theorem dX12_burst_8 : decode cX12_burst 8 = .ok (.iconst (-1), 1) := by decide +kernel
theorem dX12_burst_9 : decode cX12_burst 9 = .ok (.ireturn, 1) := by decide +kernel
theorem dX12_burst_10 : decode cX12_burst 10 = .ok (.aload_n 0, 1) := by decide +kernel
theorem dX12_burst_11 : decode cX12_burst 11 = .ok (.getfield 52, 3) := by decide +kernel
theorem dX12_burst_14 : decode cX12_burst 14 = .ok (.iload_n 1, 1) := by decide +kernel
theorem dX12_burst_15 : decode cX12_burst 15 = .ok (.baload, 1) := by decide +kernel
theorem dX12_burst_16 : decode cX12_burst 16 = .ok (.iload_n 2, 1) := by decide +kernel
theorem dX12_burst_17 : decode cX12_burst 17 = .ok (.if_icmp .eq 7, 3) := by decide +kernel
theorem dX12_burst_20 : decode cX12_burst 20 = .ok (.iconst 1, 1) := by decide +kernel
theorem dX12_burst_21 : decode cX12_burst 21 = .ok (.goto 4, 3) := by decide +kernel
theorem dX12_burst_24 : decode cX12_burst 24 = .ok (.iconst 0, 1) := by decide +kernel
theorem dX12_burst_25 : decode cX12_burst 25 = .ok (.istore_n 3, 1) := by decide +kernel
theorem dX12_burst_26 : decode cX12_burst 26 = .ok (.aload_n 0, 1) := by decide +kernel
theorem dX12_burst_27 : decode cX12_burst 27 = .ok (.getfield 52, 3) := by decide +kernel
theorem dX12_burst_30 : decode cX12_burst 30 = .ok (.iload_n 1, 1) := by decide +kernel
theorem dX12_burst_31 : decode cX12_burst 31 = .ok (.iload_n 2, 1) := by decide +kernel
theorem dX12_burst_32 : decode cX12_burst 32 = .ok (.bastore, 1) := by decide +kernel
theorem dX12_burst_33 : decode cX12_burst 33 = .ok (.iload_n 3, 1) := by decide +kernel
theorem dX12_burst_34 : decode cX12_burst 34 = .ok (.ifCond .eq 7, 3) := by decide +kernel
theorem dX12_burst_37 : decode cX12_burst 37 = .ok (.iconst 1, 1) := by decide +kernel
theorem dX12_burst_38 : decode cX12_burst 38 = .ok (.goto 4, 3) := by decide +kernel
theorem dX12_burst_41 : decode cX12_burst 41 = .ok (.iconst 0, 1) := by decide +kernel
theorem dX12_burst_42 : decode cX12_burst 42 = .ok (.ireturn, 1) := by decide +kernel
set_option maxRecDepth 100000 in
theorem ggX12_store_X12_in : GoodIn wsX12_store wsX12_in := goodIn_s _ [] [11] (by decide +kernel) rfl (by decide +kernel)
set_option maxRecDepth 20000 in
theorem gX12_store_X12_in : GoodIn wsX12_store (va_wsS RX12 150 yX12_in wsX12_in) := goodIn_app (goodIn_of _ (by decide +kernel)) ggX12_store_X12_in
theorem dX12_store_0 : decode cX12_store 0 = .ok (.iload_n 1, 1) := by decide +kernel
theorem dX12_store_1 : decode cX12_store 1 = .ok (.i2l, 1) := by decide +kernel
theorem dX12_store_2 : decode cX12_store 2 = .ok (.lconst 0, 1) := by decide +kernel
theorem dX12_store_3 : decode cX12_store 3 = .ok (.ldc2_w 201, 3) := by decide +kernel
theorem dX12_store_6 : decode cX12_store 6 = .ok (.invokestatic 150, 3) := by decide +kernel
theorem dX12_store_9 : decode cX12_store 9 = .ok (.ifCond .eq 27, 3) := by decide +kernel
theorem dX12_store_12 : decode cX12_store 12 = .ok (.iload_n 2, 1) := by decide +kernel
theorem dX12_store_13 : decode cX12_store 13 = .ok (.i2l, 1) := by decide +kernel
theorem dX12_store_14 : decode cX12_store 14 = .ok (.lconst 0, 1) := by decide +kernel
theorem dX12_store_15 : decode cX12_store 15 = .ok (.ldc2_w 182, 3) := by decide +kernel
theorem dX12_store_18 : decode cX12_store 18 = .ok (.invokestatic 150, 3) := by decide +kernel
theorem dX12_store_21 : decode cX12_store 21 = .ok (.ifCond .eq 15, 3) := by decide +kernel
theorem dX12_store_24 : decode cX12_store 24 = .ok (.iload_n 3, 1) := by decide +kernel
theorem dX12_store_25 : decode cX12_store 25 = .ok (.i2l, 1) := by decide +kernel
theorem dX12_store_26 : decode cX12_store 26 = .ok (.lconst 1, 1) := by decide +kernel
theorem dX12_store_27 : decode cX12_store 27 = .ok (.ldc2_w 187, 3) := by decide +kernel
theorem dX12_store_30 : decode cX12_store 30 = .ok (.invokestatic 150, 3) := by decide +kernel
theorem dX12_store_33 : decode cX12_store 33 = .ok (.ifCond .ne 6, 3) := by decide +kernel
theorem dX12_store_36 : decode cX12_store 36 = .ok (.bipush (-2), 2) := by decide +kernel
theorem dX12_store_38 : decode cX12_store 38 = .ok (.ireturn, 1) := by decide +kernel
theorem dX12_store_39 : decode cX12_store 39 = .ok (.aload_n 0, 1) := by decide +kernel
theorem dX12_store_40 : decode cX12_store 40 = .ok (.getfield 203, 3) := by decide +kernel
theorem dX12_store_43 : decode cX12_store 43 = .ok (.iload_n 1, 1) := by decide +kernel
theorem dX12_store_44 : decode cX12_store 44 = .ok (.if_icmp .le 6, 3) := by decide +kernel
theorem dX12_store_47 : decode cX12_store 47 = .ok (.bipush (-3), 2) := by decide +kernel
theorem dX12_store_49 : decode cX12_store 49 = .ok (.ireturn, 1) := by decide +kernel
theorem dX12_store_50 : decode cX12_store 50 = .ok (.aload_n 0, 1) := by decide +kernel
theorem dX12_store_51 : decode cX12_store 51 = .ok (.iload_n 1, 1) := by decide +kernel
theorem dX12_store_52 : decode cX12_store 52 = .ok (.putfield 206, 3) := by decide +kernel
theorem dX12_store_55 : decode cX12_store 55 = .ok (.aload_n 0, 1) := by decide +kernel
theorem dX12_store_56 : decode cX12_store 56 = .ok (.iload_n 2, 1) := by decide +kernel
theorem dX12_store_57 : decode cX12_store 57 = .ok (.putfield 209, 3) := by decide +kernel
theorem dX12_store_60 : decode cX12_store 60 = .ok (.aload_n 0, 1) := by decide +kernel
theorem dX12_store_61 : decode cX12_store 61 = .ok (.iload_n 3, 1) := by decide +kernel
theorem dX12_store_62 : decode cX12_store 62 = .ok (.putfield 133, 3) := by decide +kernel
theorem dX12_store_65 : decode cX12_store 65 = .ok (.iconst 1, 1) := by decide +kernel
theorem dX12_store_66 : decode cX12_store 66 = .ok (.ireturn, 1) := by decide +kernel
set_option maxRecDepth 100000 in
theorem ggX12_loadOf_X12_room : GoodIn wsX12_loadOf wsX12_room := goodIn_s _ [9, 10, 14, 15, 16, 17, 18, 19, 20, 21, 22, 23, 24, 25, 26, 27, 28, 29, 30, 31, 32, 33, 34, 35, 36, 37, 38, 39, 40, 41, 42, 43, 44, 45, 46, 47, 48, 49, 50, 51, 52, 53, 54, 55, 56, 57, 58, 59, 60, 61, 62, 63, 64, 65, 66, 67, 68, 69, 70, 71, 72, 73, 74, 75, 76, 77, 78, 79] [8] (by decide +kernel) rfl (by decide +kernel)
set_option maxRecDepth 20000 in
theorem gX12_loadOf_X12_room : GoodIn wsX12_loadOf (wsV RX12 198 RX12 yX12_room wsX12_room) := goodIn_app (goodIn_of _ (by decide +kernel)) ggX12_loadOf_X12_room
set_option maxRecDepth 100000 in
theorem ggX12_loadOf_X12_lesser : GoodIn wsX12_loadOf wsX12_lesser := goodIn_s _ [] [13] (by decide +kernel) rfl (by decide +kernel)
set_option maxRecDepth 20000 in
theorem gX12_loadOf_X12_lesser : GoodIn wsX12_loadOf (va_wsS RX12 212 yX12_lesser wsX12_lesser) := goodIn_app (goodIn_of _ (by decide +kernel)) ggX12_loadOf_X12_lesser
theorem dX12_loadOf_0 : decode cX12_loadOf 0 = .ok (.aload_n 0, 1) := by decide +kernel
theorem dX12_loadOf_1 : decode cX12_loadOf 1 = .ok (.getfield 31, 3) := by decide +kernel
theorem dX12_loadOf_4 : decode cX12_loadOf 4 = .ok (.iload_n 1, 1) := by decide +kernel
theorem dX12_loadOf_5 : decode cX12_loadOf 5 = .ok (.iaload, 1) := by decide +kernel
theorem dX12_loadOf_6 : decode cX12_loadOf 6 = .ok (.aload_n 0, 1) := by decide +kernel
theorem dX12_loadOf_7 : decode cX12_loadOf 7 = .ok (.getfield 34, 3) := by decide +kernel
theorem dX12_loadOf_10 : decode cX12_loadOf 10 = .ok (.iload_n 1, 1) := by decide +kernel
theorem dX12_loadOf_11 : decode cX12_loadOf 11 = .ok (.iaload, 1) := by decide +kernel
theorem dX12_loadOf_12 : decode cX12_loadOf 12 = .ok (.imul, 1) := by decide +kernel
theorem dX12_loadOf_13 : decode cX12_loadOf 13 = .ok (.aload_n 0, 1) := by decide +kernel
theorem dX12_loadOf_14 : decode cX12_loadOf 14 = .ok (.iload_n 1, 1) := by decide +kernel
theorem dX12_loadOf_15 : decode cX12_loadOf 15 = .ok (.invokevirtual 198, 3) := by decide +kernel
theorem dX12_loadOf_18 : decode cX12_loadOf 18 = .ok (.idiv, 1) := by decide +kernel
theorem dX12_loadOf_19 : decode cX12_loadOf 19 = .ok (.istore_n 2, 1) := by decide +kernel
theorem dX12_loadOf_20 : decode cX12_loadOf 20 = .ok (.aload_n 0, 1) := by decide +kernel
theorem dX12_loadOf_21 : decode cX12_loadOf 21 = .ok (.getfield 37, 3) := by decide +kernel
theorem dX12_loadOf_24 : decode cX12_loadOf 24 = .ok (.bipush 10, 2) := by decide +kernel
theorem dX12_loadOf_26 : decode cX12_loadOf 26 = .ok (.iload_n 1, 1) := by decide +kernel
theorem dX12_loadOf_27 : decode cX12_loadOf 27 = .ok (.imul, 1) := by decide +kernel
theorem dX12_loadOf_28 : decode cX12_loadOf 28 = .ok (.iload_n 2, 1) := by decide +kernel
theorem dX12_loadOf_29 : decode cX12_loadOf 29 = .ok (.aload_n 0, 1) := by decide +kernel
theorem dX12_loadOf_30 : decode cX12_loadOf 30 = .ok (.getfield 34, 3) := by decide +kernel
theorem dX12_loadOf_33 : decode cX12_loadOf 33 = .ok (.iload_n 1, 1) := by decide +kernel
theorem dX12_loadOf_34 : decode cX12_loadOf 34 = .ok (.iaload, 1) := by decide +kernel
theorem dX12_loadOf_35 : decode cX12_loadOf 35 = .ok (.iconst 1, 1) := by decide +kernel
theorem dX12_loadOf_36 : decode cX12_loadOf 36 = .ok (.isub, 1) := by decide +kernel
theorem dX12_loadOf_37 : decode cX12_loadOf 37 = .ok (.invokestatic 212, 3) := by decide +kernel
theorem dX12_loadOf_40 : decode cX12_loadOf 40 = .ok (.iadd, 1) := by decide +kernel
theorem dX12_loadOf_41 : decode cX12_loadOf 41 = .ok (.iaload, 1) := by decide +kernel
theorem dX12_loadOf_42 : decode cX12_loadOf 42 = .ok (.ireturn, 1) := by decide +kernel
set_option maxRecDepth 100000 in
theorem ggX12_needOf_X12_loadOf : GoodIn wsX12_needOf wsX12_loadOf := goodIn_s _ [9, 10, 11, 12, 13, 14, 7, 1, 16, 17, 18, 20, 21, 22, 23, 24, 25, 26, 27, 28, 29, 30, 31, 32, 33, 34, 35, 36, 37, 38, 39, 40, 41, 42, 43, 44, 45, 46, 47, 48, 49, 50, 51, 52, 53, 54, 55, 56, 57, 58, 59, 60, 61, 62, 63, 64, 65, 66, 67, 68, 69, 70, 71, 72, 73, 74, 75, 76, 77, 78, 79, 80, 81, 82, 83, 84, 85] [8, 15, 19] (by decide +kernel) rfl (by decide +kernel)
set_option maxRecDepth 20000 in
theorem gX12_needOf_X12_loadOf : GoodIn wsX12_needOf (wsV RX12 215 RX12 yX12_loadOf wsX12_loadOf) := goodIn_app (goodIn_of _ (by decide +kernel)) ggX12_needOf_X12_loadOf
theorem dX12_needOf_0 : decode cX12_needOf 0 = .ok (.aload_n 0, 1) := by decide +kernel
theorem dX12_needOf_1 : decode cX12_needOf 1 = .ok (.iload_n 1, 1) := by decide +kernel
theorem dX12_needOf_2 : decode cX12_needOf 2 = .ok (.invokevirtual 215, 3) := by decide +kernel
theorem dX12_needOf_5 : decode cX12_needOf 5 = .ok (.aload_n 0, 1) := by decide +kernel
theorem dX12_needOf_6 : decode cX12_needOf 6 = .ok (.getfield 25, 3) := by decide +kernel
theorem dX12_needOf_9 : decode cX12_needOf 9 = .ok (.iload_n 1, 1) := by decide +kernel
theorem dX12_needOf_10 : decode cX12_needOf 10 = .ok (.iaload, 1) := by decide +kernel
theorem dX12_needOf_11 : decode cX12_needOf 11 = .ok (.iadd, 1) := by decide +kernel
theorem dX12_needOf_12 : decode cX12_needOf 12 = .ok (.iconst 1, 1) := by decide +kernel
theorem dX12_needOf_13 : decode cX12_needOf 13 = .ok (.isub, 1) := by decide +kernel
theorem dX12_needOf_14 : decode cX12_needOf 14 = .ok (.aload_n 0, 1) := by decide +kernel
theorem dX12_needOf_15 : decode cX12_needOf 15 = .ok (.getfield 25, 3) := by decide +kernel
theorem dX12_needOf_18 : decode cX12_needOf 18 = .ok (.iload_n 1, 1) := by decide +kernel
theorem dX12_needOf_19 : decode cX12_needOf 19 = .ok (.iaload, 1) := by decide +kernel
theorem dX12_needOf_20 : decode cX12_needOf 20 = .ok (.idiv, 1) := by decide +kernel
theorem dX12_needOf_21 : decode cX12_needOf 21 = .ok (.istore_n 2, 1) := by decide +kernel
theorem dX12_needOf_22 : decode cX12_needOf 22 = .ok (.aload_n 0, 1) := by decide +kernel
theorem dX12_needOf_23 : decode cX12_needOf 23 = .ok (.getfield 22, 3) := by decide +kernel
theorem dX12_needOf_26 : decode cX12_needOf 26 = .ok (.iload_n 1, 1) := by decide +kernel
theorem dX12_needOf_27 : decode cX12_needOf 27 = .ok (.iaload, 1) := by decide +kernel
theorem dX12_needOf_28 : decode cX12_needOf 28 = .ok (.iconst 2, 1) := by decide +kernel
theorem dX12_needOf_29 : decode cX12_needOf 29 = .ok (.if_icmp .ne 11, 3) := by decide +kernel
theorem dX12_needOf_32 : decode cX12_needOf 32 = .ok (.iload_n 2, 1) := by decide +kernel
theorem dX12_needOf_33 : decode cX12_needOf 33 = .ok (.iconst 1, 1) := by decide +kernel
theorem dX12_needOf_34 : decode cX12_needOf 34 = .ok (.iadd, 1) := by decide +kernel
theorem dX12_needOf_35 : decode cX12_needOf 35 = .ok (.iconst 2, 1) := by decide +kernel
theorem dX12_needOf_36 : decode cX12_needOf 36 = .ok (.idiv, 1) := by decide +kernel
theorem dX12_needOf_37 : decode cX12_needOf 37 = .ok (.goto 4, 3) := by decide +kernel
theorem dX12_needOf_40 : decode cX12_needOf 40 = .ok (.iload_n 2, 1) := by decide +kernel
theorem dX12_needOf_41 : decode cX12_needOf 41 = .ok (.aload_n 0, 1) := by decide +kernel
theorem dX12_needOf_42 : decode cX12_needOf 42 = .ok (.getfield 40, 3) := by decide +kernel
theorem dX12_needOf_45 : decode cX12_needOf 45 = .ok (.iload_n 1, 1) := by decide +kernel
theorem dX12_needOf_46 : decode cX12_needOf 46 = .ok (.iaload, 1) := by decide +kernel
theorem dX12_needOf_47 : decode cX12_needOf 47 = .ok (.iadd, 1) := by decide +kernel
theorem dX12_needOf_48 : decode cX12_needOf 48 = .ok (.ireturn, 1) := by decide +kernel
theorem dX12_storePressure_0 : decode cX12_storePressure 0 = .ok (.aload_n 0, 1) := by decide +kernel
theorem dX12_storePressure_1 : decode cX12_storePressure 1 = .ok (.getfield 209, 3) := by decide +kernel
theorem dX12_storePressure_4 : decode cX12_storePressure 4 = .ok (.aload_n 0, 1) := by decide +kernel
theorem dX12_storePressure_5 : decode cX12_storePressure 5 = .ok (.getfield 203, 3) := by decide +kernel
theorem dX12_storePressure_8 : decode cX12_storePressure 8 = .ok (.aload_n 0, 1) := by decide +kernel
theorem dX12_storePressure_9 : decode cX12_storePressure 9 = .ok (.getfield 133, 3) := by decide +kernel
theorem dX12_storePressure_12 : decode cX12_storePressure 12 = .ok (.idiv, 1) := by decide +kernel
theorem dX12_storePressure_13 : decode cX12_storePressure 13 = .ok (.iadd, 1) := by decide +kernel
theorem dX12_storePressure_14 : decode cX12_storePressure 14 = .ok (.ireturn, 1) := by decide +kernel
set_option maxRecDepth 100000 in
theorem ggX12_about_X12_noCylinder : GoodIn wsX12_about wsX12_noCylinder := goodIn_s _ [14, 15, 16, 12, 35, 36, 37, 38, 39, 40, 41, 42, 43, 44, 45, 46, 47, 48, 49, 50, 51, 52, 53, 54, 55, 56, 57, 58, 59, 60, 61, 62, 63, 64, 65, 66, 67, 68, 69, 70, 71, 72, 73, 74, 75, 76, 77, 78, 79, 80, 81, 82, 83, 84, 85, 86, 87, 88, 89, 90, 91, 92, 93, 94, 95, 96, 97, 98, 99, 100] [13, 17] (by decide +kernel) rfl (by decide +kernel)
set_option maxRecDepth 20000 in
theorem gX12_about_X12_noCylinder : GoodIn wsX12_about (wsV RX12 189 RX12 yX12_noCylinder wsX12_noCylinder) := goodIn_app (goodIn_of _ (by decide +kernel)) ggX12_about_X12_noCylinder
set_option maxRecDepth 100000 in
theorem ggX12_about_X12_loadOf : GoodIn wsX12_about wsX12_loadOf := goodIn_s _ [4, 6, 22, 23, 24, 25, 12, 2, 3, 27, 28, 35, 36, 37, 38, 39, 40, 41, 42, 43, 44, 45, 46, 47, 48, 49, 50, 51, 52, 53, 54, 55, 56, 57, 58, 59, 60, 61, 62, 63, 64, 65, 66, 67, 68, 69, 70, 71, 72, 73, 74, 75, 76, 77, 78, 79, 80, 81, 82, 83, 84, 85, 86, 87, 88, 89, 90, 91, 92, 93, 94, 95, 96, 97, 98, 99, 100] [21, 26, 29] (by decide +kernel) rfl (by decide +kernel)
set_option maxRecDepth 20000 in
theorem gX12_about_X12_loadOf : GoodIn wsX12_about (wsV RX12 215 RX12 yX12_loadOf wsX12_loadOf) := goodIn_app (goodIn_of _ (by decide +kernel)) ggX12_about_X12_loadOf
set_option maxRecDepth 100000 in
theorem ggX12_about_X12_needOf : GoodIn wsX12_about wsX12_needOf := goodIn_s _ [2, 1, 34, 18, 19, 20, 12, 4, 6, 22, 23, 24, 25, 3, 27, 28, 35, 36, 37, 38, 39, 40, 41, 42, 43, 44, 45, 46, 47, 48, 49, 50, 51, 52, 53, 54, 55, 56, 57, 58, 59, 60, 61, 62, 63, 64, 65, 66, 67, 68, 69, 70, 71, 72, 73, 74, 75, 76, 77, 78, 79, 80, 81, 82, 83, 84, 85, 86, 87, 88, 89, 90, 91, 92, 93, 94, 95, 96, 97, 98, 99, 100] [33, 21, 26, 29] (by decide +kernel) rfl (by decide +kernel)
set_option maxRecDepth 20000 in
theorem gX12_about_X12_needOf : GoodIn wsX12_about (wsV RX12 218 RX12 yX12_needOf wsX12_needOf) := goodIn_app (goodIn_of _ (by decide +kernel)) ggX12_about_X12_needOf
theorem dX12_about_0 : decode cX12_about 0 = .ok (.aload_n 0, 1) := by decide +kernel
theorem dX12_about_1 : decode cX12_about 1 = .ok (.iload_n 1, 1) := by decide +kernel
theorem dX12_about_2 : decode cX12_about 2 = .ok (.invokevirtual 189, 3) := by decide +kernel
theorem dX12_about_5 : decode cX12_about 5 = .ok (.ifCond .eq 5, 3) := by decide +kernel
theorem dX12_about_8 : decode cX12_about 8 = .ok (.iconst (-1), 1) := by decide +kernel
theorem dX12_about_9 : decode cX12_about 9 = .ok (.ireturn, 1) := by decide +kernel
theorem dX12_about_10 : decode cX12_about 10 = .ok (.iload_n 2, 1) := by decide +kernel
theorem dX12_about_11 : decode cX12_about 11 = .ok (.tableswitch 129 0 9 #[53, 60, 67, 74, 81, 87, 93, 100, 107, 122], 53) := by decide +kernel
theorem dX12_about_64 : decode cX12_about 64 = .ok (.aload_n 0, 1) := by decide +kernel
theorem dX12_about_65 : decode cX12_about 65 = .ok (.getfield 22, 3) := by decide +kernel
theorem dX12_about_68 : decode cX12_about 68 = .ok (.iload_n 1, 1) := by decide +kernel
theorem dX12_about_69 : decode cX12_about 69 = .ok (.iaload, 1) := by decide +kernel
theorem dX12_about_70 : decode cX12_about 70 = .ok (.ireturn, 1) := by decide +kernel
theorem dX12_about_71 : decode cX12_about 71 = .ok (.aload_n 0, 1) := by decide +kernel
theorem dX12_about_72 : decode cX12_about 72 = .ok (.getfield 25, 3) := by decide +kernel
theorem dX12_about_75 : decode cX12_about 75 = .ok (.iload_n 1, 1) := by decide +kernel
theorem dX12_about_76 : decode cX12_about 76 = .ok (.iaload, 1) := by decide +kernel
theorem dX12_about_77 : decode cX12_about 77 = .ok (.ireturn, 1) := by decide +kernel
theorem dX12_about_78 : decode cX12_about 78 = .ok (.aload_n 0, 1) := by decide +kernel
theorem dX12_about_79 : decode cX12_about 79 = .ok (.getfield 28, 3) := by decide +kernel
theorem dX12_about_82 : decode cX12_about 82 = .ok (.iload_n 1, 1) := by decide +kernel
theorem dX12_about_83 : decode cX12_about 83 = .ok (.iaload, 1) := by decide +kernel
theorem dX12_about_84 : decode cX12_about 84 = .ok (.ireturn, 1) := by decide +kernel
theorem dX12_about_85 : decode cX12_about 85 = .ok (.aload_n 0, 1) := by decide +kernel
theorem dX12_about_86 : decode cX12_about 86 = .ok (.getfield 31, 3) := by decide +kernel
theorem dX12_about_89 : decode cX12_about 89 = .ok (.iload_n 1, 1) := by decide +kernel
theorem dX12_about_90 : decode cX12_about 90 = .ok (.iaload, 1) := by decide +kernel
theorem dX12_about_91 : decode cX12_about 91 = .ok (.ireturn, 1) := by decide +kernel
theorem dX12_about_92 : decode cX12_about 92 = .ok (.aload_n 0, 1) := by decide +kernel
theorem dX12_about_93 : decode cX12_about 93 = .ok (.iload_n 1, 1) := by decide +kernel
theorem dX12_about_94 : decode cX12_about 94 = .ok (.invokevirtual 215, 3) := by decide +kernel
theorem dX12_about_97 : decode cX12_about 97 = .ok (.ireturn, 1) := by decide +kernel
theorem dX12_about_98 : decode cX12_about 98 = .ok (.aload_n 0, 1) := by decide +kernel
theorem dX12_about_99 : decode cX12_about 99 = .ok (.iload_n 1, 1) := by decide +kernel
theorem dX12_about_100 : decode cX12_about 100 = .ok (.invokevirtual 218, 3) := by decide +kernel
theorem dX12_about_103 : decode cX12_about 103 = .ok (.ireturn, 1) := by decide +kernel
theorem dX12_about_104 : decode cX12_about 104 = .ok (.aload_n 0, 1) := by decide +kernel
theorem dX12_about_105 : decode cX12_about 105 = .ok (.getfield 49, 3) := by decide +kernel
theorem dX12_about_108 : decode cX12_about 108 = .ok (.iload_n 1, 1) := by decide +kernel
theorem dX12_about_109 : decode cX12_about 109 = .ok (.iaload, 1) := by decide +kernel
theorem dX12_about_110 : decode cX12_about 110 = .ok (.ireturn, 1) := by decide +kernel
theorem dX12_about_111 : decode cX12_about 111 = .ok (.aload_n 0, 1) := by decide +kernel
theorem dX12_about_112 : decode cX12_about 112 = .ok (.getfield 34, 3) := by decide +kernel
theorem dX12_about_115 : decode cX12_about 115 = .ok (.iload_n 1, 1) := by decide +kernel
theorem dX12_about_116 : decode cX12_about 116 = .ok (.iaload, 1) := by decide +kernel
theorem dX12_about_117 : decode cX12_about 117 = .ok (.ireturn, 1) := by decide +kernel
theorem dX12_about_118 : decode cX12_about 118 = .ok (.aload_n 0, 1) := by decide +kernel
theorem dX12_about_119 : decode cX12_about 119 = .ok (.getfield 52, 3) := by decide +kernel
theorem dX12_about_122 : decode cX12_about 122 = .ok (.iload_n 1, 1) := by decide +kernel
theorem dX12_about_123 : decode cX12_about 123 = .ok (.baload, 1) := by decide +kernel
theorem dX12_about_124 : decode cX12_about 124 = .ok (.ifCond .eq 7, 3) := by decide +kernel
theorem dX12_about_127 : decode cX12_about 127 = .ok (.iconst 1, 1) := by decide +kernel
theorem dX12_about_128 : decode cX12_about 128 = .ok (.goto 4, 3) := by decide +kernel
theorem dX12_about_131 : decode cX12_about 131 = .ok (.iconst 0, 1) := by decide +kernel
theorem dX12_about_132 : decode cX12_about 132 = .ok (.ireturn, 1) := by decide +kernel
theorem dX12_about_133 : decode cX12_about 133 = .ok (.aload_n 0, 1) := by decide +kernel
theorem dX12_about_134 : decode cX12_about 134 = .ok (.getfield 56, 3) := by decide +kernel
theorem dX12_about_137 : decode cX12_about 137 = .ok (.iload_n 1, 1) := by decide +kernel
theorem dX12_about_138 : decode cX12_about 138 = .ok (.iaload, 1) := by decide +kernel
theorem dX12_about_139 : decode cX12_about 139 = .ok (.ireturn, 1) := by decide +kernel
theorem dX12_about_140 : decode cX12_about 140 = .ok (.bipush (-2), 2) := by decide +kernel
theorem dX12_about_142 : decode cX12_about 142 = .ok (.ireturn, 1) := by decide +kernel
set_option maxRecDepth 100000 in
theorem ggX12_order_X12_noCylinder : GoodIn wsX12_order wsX12_noCylinder := goodIn_s _ [12, 13, 14, 10, 16, 17, 18, 19, 20, 21, 22, 23, 24, 25, 26, 27, 28, 29, 30, 31, 32, 33, 34, 35, 36, 37, 38, 39, 40, 41, 42, 43, 44, 45, 46, 47, 48, 49, 50, 51, 52, 53, 54, 55, 56, 57, 58, 59, 60, 61, 62, 63, 64, 65, 66, 67, 68, 69, 70, 71, 72, 73, 74, 75, 76, 77, 78, 79, 80, 81] [11, 15] (by decide +kernel) rfl (by decide +kernel)
set_option maxRecDepth 20000 in
theorem gX12_order_X12_noCylinder : GoodIn wsX12_order (wsV RX12 189 RX12 yX12_noCylinder wsX12_noCylinder) := goodIn_app (goodIn_of _ (by decide +kernel)) ggX12_order_X12_noCylinder
set_option maxRecDepth 100000 in
theorem ggX12_order_X12_in : GoodIn wsX12_order wsX12_in := goodIn_s _ [] [15] (by decide +kernel) rfl (by decide +kernel)
set_option maxRecDepth 20000 in
theorem gX12_order_X12_in : GoodIn wsX12_order (va_wsS RX12 150 yX12_in wsX12_in) := goodIn_app (goodIn_of _ (by decide +kernel)) ggX12_order_X12_in
theorem dX12_order_0 : decode cX12_order 0 = .ok (.aload_n 0, 1) := by decide +kernel
theorem dX12_order_1 : decode cX12_order 1 = .ok (.iload_n 1, 1) := by decide +kernel
theorem dX12_order_2 : decode cX12_order 2 = .ok (.invokevirtual 189, 3) := by decide +kernel
theorem dX12_order_5 : decode cX12_order 5 = .ok (.ifCond .ne 11, 3) := by decide +kernel
theorem dX12_order_8 : decode cX12_order 8 = .ok (.aload_n 0, 1) := by decide +kernel
theorem dX12_order_9 : decode cX12_order 9 = .ok (.iload_n 3, 1) := by decide +kernel
theorem dX12_order_10 : decode cX12_order 10 = .ok (.invokevirtual 189, 3) := by decide +kernel
theorem dX12_order_13 : decode cX12_order 13 = .ok (.ifCond .eq 5, 3) := by decide +kernel
theorem dX12_order_16 : decode cX12_order 16 = .ok (.iconst (-1), 1) := by decide +kernel
theorem dX12_order_17 : decode cX12_order 17 = .ok (.ireturn, 1) := by decide +kernel
theorem dX12_order_18 : decode cX12_order 18 = .ok (.iload_n 2, 1) := by decide +kernel
theorem dX12_order_19 : decode cX12_order 19 = .ok (.i2l, 1) := by decide +kernel
theorem dX12_order_20 : decode cX12_order 20 = .ok (.lconst 0, 1) := by decide +kernel
theorem dX12_order_21 : decode cX12_order 21 = .ok (.ldc2_w 162, 3) := by decide +kernel
theorem dX12_order_24 : decode cX12_order 24 = .ok (.invokestatic 150, 3) := by decide +kernel
theorem dX12_order_27 : decode cX12_order 27 = .ok (.ifCond .eq 16, 3) := by decide +kernel
theorem dX12_order_30 : decode cX12_order 30 = .ok (.iload 4, 2) := by decide +kernel
theorem dX12_order_32 : decode cX12_order 32 = .ok (.i2l, 1) := by decide +kernel
theorem dX12_order_33 : decode cX12_order 33 = .ok (.lconst 0, 1) := by decide +kernel
theorem dX12_order_34 : decode cX12_order 34 = .ok (.ldc2_w 162, 3) := by decide +kernel
theorem dX12_order_37 : decode cX12_order 37 = .ok (.invokestatic 150, 3) := by decide +kernel
theorem dX12_order_40 : decode cX12_order 40 = .ok (.ifCond .ne 6, 3) := by decide +kernel
theorem dX12_order_43 : decode cX12_order 43 = .ok (.bipush (-2), 2) := by decide +kernel
theorem dX12_order_45 : decode cX12_order 45 = .ok (.ireturn, 1) := by decide +kernel
theorem dX12_order_46 : decode cX12_order 46 = .ok (.aload_n 0, 1) := by decide +kernel
theorem dX12_order_47 : decode cX12_order 47 = .ok (.getfield 221, 3) := by decide +kernel
theorem dX12_order_50 : decode cX12_order 50 = .ok (.bipush 30, 2) := by decide +kernel
theorem dX12_order_52 : decode cX12_order 52 = .ok (.if_icmp .ne 6, 3) := by decide +kernel
theorem dX12_order_55 : decode cX12_order 55 = .ok (.bipush (-4), 2) := by decide +kernel
theorem dX12_order_57 : decode cX12_order 57 = .ok (.ireturn, 1) := by decide +kernel
theorem dX12_order_58 : decode cX12_order 58 = .ok (.aload_n 0, 1) := by decide +kernel
theorem dX12_order_59 : decode cX12_order 59 = .ok (.getfield 59, 3) := by decide +kernel
theorem dX12_order_62 : decode cX12_order 62 = .ok (.aload_n 0, 1) := by decide +kernel
theorem dX12_order_63 : decode cX12_order 63 = .ok (.getfield 221, 3) := by decide +kernel
theorem dX12_order_66 : decode cX12_order 66 = .ok (.iload_n 1, 1) := by decide +kernel
theorem dX12_order_67 : decode cX12_order 67 = .ok (.iastore, 1) := by decide +kernel
theorem dX12_order_68 : decode cX12_order 68 = .ok (.aload_n 0, 1) := by decide +kernel
theorem dX12_order_69 : decode cX12_order 69 = .ok (.getfield 62, 3) := by decide +kernel
theorem dX12_order_72 : decode cX12_order 72 = .ok (.aload_n 0, 1) := by decide +kernel
theorem dX12_order_73 : decode cX12_order 73 = .ok (.getfield 221, 3) := by decide +kernel
theorem dX12_order_76 : decode cX12_order 76 = .ok (.iload_n 2, 1) := by decide +kernel
theorem dX12_order_77 : decode cX12_order 77 = .ok (.iastore, 1) := by decide +kernel
theorem dX12_order_78 : decode cX12_order 78 = .ok (.aload_n 0, 1) := by decide +kernel
theorem dX12_order_79 : decode cX12_order 79 = .ok (.getfield 65, 3) := by decide +kernel
theorem dX12_order_82 : decode cX12_order 82 = .ok (.aload_n 0, 1) := by decide +kernel
theorem dX12_order_83 : decode cX12_order 83 = .ok (.getfield 221, 3) := by decide +kernel
theorem dX12_order_86 : decode cX12_order 86 = .ok (.iload_n 3, 1) := by decide +kernel
theorem dX12_order_87 : decode cX12_order 87 = .ok (.iastore, 1) := by decide +kernel
theorem dX12_order_88 : decode cX12_order 88 = .ok (.aload_n 0, 1) := by decide +kernel
theorem dX12_order_89 : decode cX12_order 89 = .ok (.getfield 68, 3) := by decide +kernel
theorem dX12_order_92 : decode cX12_order 92 = .ok (.aload_n 0, 1) := by decide +kernel
theorem dX12_order_93 : decode cX12_order 93 = .ok (.getfield 221, 3) := by decide +kernel
theorem dX12_order_96 : decode cX12_order 96 = .ok (.iload 4, 2) := by decide +kernel
theorem dX12_order_98 : decode cX12_order 98 = .ok (.iastore, 1) := by decide +kernel
theorem dX12_order_99 : decode cX12_order 99 = .ok (.aload_n 0, 1) := by decide +kernel
theorem dX12_order_100 : decode cX12_order 100 = .ok (.dup, 1) := by decide +kernel
theorem dX12_order_101 : decode cX12_order 101 = .ok (.getfield 221, 3) := by decide +kernel
theorem dX12_order_104 : decode cX12_order 104 = .ok (.iconst 1, 1) := by decide +kernel
theorem dX12_order_105 : decode cX12_order 105 = .ok (.iadd, 1) := by decide +kernel
theorem dX12_order_106 : decode cX12_order 106 = .ok (.putfield 221, 3) := by decide +kernel
theorem dX12_order_109 : decode cX12_order 109 = .ok (.aload_n 0, 1) := by decide +kernel
theorem dX12_order_110 : decode cX12_order 110 = .ok (.getfield 221, 3) := by decide +kernel
theorem dX12_order_113 : decode cX12_order 113 = .ok (.ireturn, 1) := by decide +kernel
theorem dX12_waits_0 : decode cX12_waits 0 = .ok (.aload_n 0, 1) := by decide +kernel
theorem dX12_waits_1 : decode cX12_waits 1 = .ok (.getfield 224, 3) := by decide +kernel
theorem dX12_waits_4 : decode cX12_waits 4 = .ok (.ireturn, 1) := by decide +kernel
set_option maxRecDepth 100000 in
theorem ggX12_mayBeDone_X12_room : GoodIn wsX12_mayBeDone wsX12_room := goodIn_s _ [9, 10, 11, 12, 13, 14, 15, 16, 17, 18, 19, 20, 21, 22, 23, 24, 25, 26, 27, 28, 29, 30, 31, 32, 33, 34, 35, 36, 37, 38, 39, 40, 41, 42, 43, 44, 45, 46, 47, 48, 49, 50, 51, 52, 53, 54, 55, 56, 57, 58, 59, 60, 61, 62, 63, 64, 65, 66, 67, 68, 69, 70, 71, 72, 73, 74, 75, 76] [8] (by decide +kernel) rfl (by decide +kernel)
set_option maxRecDepth 20000 in
theorem gX12_mayBeDone_X12_room : GoodIn wsX12_mayBeDone (wsV RX12 198 RX12 yX12_room wsX12_room) := goodIn_app (goodIn_of _ (by decide +kernel)) ggX12_mayBeDone_X12_room
theorem dX12_mayBeDone_0 : decode cX12_mayBeDone 0 = .ok (.aload_n 0, 1) := by decide +kernel
theorem dX12_mayBeDone_1 : decode cX12_mayBeDone 1 = .ok (.getfield 59, 3) := by decide +kernel
theorem dX12_mayBeDone_4 : decode cX12_mayBeDone 4 = .ok (.iload_n 1, 1) := by decide +kernel
theorem dX12_mayBeDone_5 : decode cX12_mayBeDone 5 = .ok (.iaload, 1) := by decide +kernel
theorem dX12_mayBeDone_6 : decode cX12_mayBeDone 6 = .ok (.istore_n 2, 1) := by decide +kernel
theorem dX12_mayBeDone_7 : decode cX12_mayBeDone 7 = .ok (.aload_n 0, 1) := by decide +kernel
theorem dX12_mayBeDone_8 : decode cX12_mayBeDone 8 = .ok (.getfield 62, 3) := by decide +kernel
theorem dX12_mayBeDone_11 : decode cX12_mayBeDone 11 = .ok (.iload_n 1, 1) := by decide +kernel
theorem dX12_mayBeDone_12 : decode cX12_mayBeDone 12 = .ok (.iaload, 1) := by decide +kernel
theorem dX12_mayBeDone_13 : decode cX12_mayBeDone 13 = .ok (.ifCond .eq 39, 3) := by decide +kernel
theorem dX12_mayBeDone_16 : decode cX12_mayBeDone 16 = .ok (.aload_n 0, 1) := by decide +kernel
theorem dX12_mayBeDone_17 : decode cX12_mayBeDone 17 = .ok (.getfield 62, 3) := by decide +kernel
theorem dX12_mayBeDone_20 : decode cX12_mayBeDone 20 = .ok (.iload_n 1, 1) := by decide +kernel
theorem dX12_mayBeDone_21 : decode cX12_mayBeDone 21 = .ok (.iaload, 1) := by decide +kernel
theorem dX12_mayBeDone_22 : decode cX12_mayBeDone 22 = .ok (.iconst 1, 1) := by decide +kernel
theorem dX12_mayBeDone_23 : decode cX12_mayBeDone 23 = .ok (.if_icmp .ne 20, 3) := by decide +kernel
theorem dX12_mayBeDone_26 : decode cX12_mayBeDone 26 = .ok (.aload_n 0, 1) := by decide +kernel
theorem dX12_mayBeDone_27 : decode cX12_mayBeDone 27 = .ok (.getfield 31, 3) := by decide +kernel
theorem dX12_mayBeDone_30 : decode cX12_mayBeDone 30 = .ok (.iload_n 2, 1) := by decide +kernel
theorem dX12_mayBeDone_31 : decode cX12_mayBeDone 31 = .ok (.iaload, 1) := by decide +kernel
theorem dX12_mayBeDone_32 : decode cX12_mayBeDone 32 = .ok (.aload_n 0, 1) := by decide +kernel
theorem dX12_mayBeDone_33 : decode cX12_mayBeDone 33 = .ok (.iload_n 2, 1) := by decide +kernel
theorem dX12_mayBeDone_34 : decode cX12_mayBeDone 34 = .ok (.invokevirtual 198, 3) := by decide +kernel
theorem dX12_mayBeDone_37 : decode cX12_mayBeDone 37 = .ok (.if_icmp .ne 19, 3) := by decide +kernel
theorem dX12_mayBeDone_40 : decode cX12_mayBeDone 40 = .ok (.goto 12, 3) := by decide +kernel
theorem dX12_mayBeDone_43 : decode cX12_mayBeDone 43 = .ok (.aload_n 0, 1) := by decide +kernel
theorem dX12_mayBeDone_44 : decode cX12_mayBeDone 44 = .ok (.getfield 31, 3) := by decide +kernel
theorem dX12_mayBeDone_47 : decode cX12_mayBeDone 47 = .ok (.iload_n 2, 1) := by decide +kernel
theorem dX12_mayBeDone_48 : decode cX12_mayBeDone 48 = .ok (.iaload, 1) := by decide +kernel
theorem dX12_mayBeDone_49 : decode cX12_mayBeDone 49 = .ok (.ifCond .ne 7, 3) := by decide +kernel
theorem dX12_mayBeDone_52 : decode cX12_mayBeDone 52 = .ok (.iconst 1, 1) := by decide +kernel
theorem dX12_mayBeDone_53 : decode cX12_mayBeDone 53 = .ok (.goto 4, 3) := by decide +kernel
theorem dX12_mayBeDone_56 : decode cX12_mayBeDone 56 = .ok (.iconst 0, 1) := by decide +kernel
theorem dX12_mayBeDone_57 : decode cX12_mayBeDone 57 = .ok (.ireturn, 1) := by decide +kernel
set_option maxRecDepth 100000 in
theorem ggX12_loseFrom_X12_lesser : GoodIn wsX12_loseFrom wsX12_lesser := goodIn_s _ [] [6] (by decide +kernel) rfl (by decide +kernel)
set_option maxRecDepth 20000 in
theorem gX12_loseFrom_X12_lesser : GoodIn wsX12_loseFrom (va_wsS RX12 212 yX12_lesser wsX12_lesser) := goodIn_app (goodIn_of _ (by decide +kernel)) ggX12_loseFrom_X12_lesser
theorem dX12_loseFrom_0 : decode cX12_loseFrom 0 = .ok (.iload_n 2, 1) := by decide +kernel
theorem dX12_loseFrom_1 : decode cX12_loseFrom 1 = .ok (.aload_n 0, 1) := by decide +kernel
theorem dX12_loseFrom_2 : decode cX12_loseFrom 2 = .ok (.getfield 31, 3) := by decide +kernel
theorem dX12_loseFrom_5 : decode cX12_loseFrom 5 = .ok (.iload_n 1, 1) := by decide +kernel
theorem dX12_loseFrom_6 : decode cX12_loseFrom 6 = .ok (.iaload, 1) := by decide +kernel
theorem dX12_loseFrom_7 : decode cX12_loseFrom 7 = .ok (.invokestatic 212, 3) := by decide +kernel
theorem dX12_loseFrom_10 : decode cX12_loseFrom 10 = .ok (.istore_n 3, 1) := by decide +kernel
theorem dX12_loseFrom_11 : decode cX12_loseFrom 11 = .ok (.aload_n 0, 1) := by decide +kernel
theorem dX12_loseFrom_12 : decode cX12_loseFrom 12 = .ok (.getfield 31, 3) := by decide +kernel
theorem dX12_loseFrom_15 : decode cX12_loseFrom 15 = .ok (.iload_n 1, 1) := by decide +kernel
theorem dX12_loseFrom_16 : decode cX12_loseFrom 16 = .ok (.dup2, 1) := by decide +kernel
theorem dX12_loseFrom_17 : decode cX12_loseFrom 17 = .ok (.iaload, 1) := by decide +kernel
theorem dX12_loseFrom_18 : decode cX12_loseFrom 18 = .ok (.iload_n 3, 1) := by decide +kernel
theorem dX12_loseFrom_19 : decode cX12_loseFrom 19 = .ok (.isub, 1) := by decide +kernel
theorem dX12_loseFrom_20 : decode cX12_loseFrom 20 = .ok (.iastore, 1) := by decide +kernel
theorem dX12_loseFrom_21 : decode cX12_loseFrom 21 = .ok (.aload_n 0, 1) := by decide +kernel
theorem dX12_loseFrom_22 : decode cX12_loseFrom 22 = .ok (.getfield 56, 3) := by decide +kernel
theorem dX12_loseFrom_25 : decode cX12_loseFrom 25 = .ok (.iload_n 1, 1) := by decide +kernel
theorem dX12_loseFrom_26 : decode cX12_loseFrom 26 = .ok (.iload_n 3, 1) := by decide +kernel
theorem dX12_loseFrom_27 : decode cX12_loseFrom 27 = .ok (.ineg, 1) := by decide +kernel
theorem dX12_loseFrom_28 : decode cX12_loseFrom 28 = .ok (.iastore, 1) := by decide +kernel
theorem dX12_loseFrom_29 : decode cX12_loseFrom 29 = .ok (.return_, 1) := by decide +kernel
set_option maxRecDepth 100000 in
theorem ggX12_loseAll_X12_loseFrom : GoodIn wsX12_loseAll wsX12_loseFrom := goodIn_s _ [13, 2, 14, 15, 11, 29, 30, 31, 32, 33, 34, 35, 36, 37, 38, 39, 40, 41, 42, 43, 44, 45, 46, 47, 48, 49, 50, 51, 52, 53, 54, 55, 56, 57, 58, 59, 60, 61, 62, 63, 64, 65, 66, 67, 68, 69, 70, 71, 72, 73, 74, 75, 76, 77, 78, 79, 80, 81, 82, 83, 84, 85, 86, 87, 88, 89, 90, 91, 92, 93, 94] [12, 16] (by decide +kernel) rfl (by decide +kernel)
set_option maxRecDepth 20000 in
theorem gX12_loseAll_X12_loseFrom : GoodIn wsX12_loseAll (wsV RX12 227 RX12 yX12_loseFrom wsX12_loseFrom) := goodIn_app (goodIn_of _ (by decide +kernel)) ggX12_loseAll_X12_loseFrom
set_option maxRecDepth 100000 in
theorem ggX12_loseAll_X12_loadOf : GoodIn wsX12_loseAll wsX12_loadOf := goodIn_s _ [13, 21, 22, 23, 24, 25, 11, 27, 28, 14, 15, 29, 30, 31, 32, 33, 34, 35, 36, 37, 38, 39, 40, 41, 42, 43, 44, 45, 46, 47, 48, 49, 50, 51, 52, 53, 54, 55, 56, 57, 58, 59, 60, 61, 62, 63, 64, 65, 66, 67, 68, 69, 70, 71, 72, 73, 74, 75, 76, 77, 78, 79, 80, 81, 82, 83, 84, 85, 86, 87, 88, 89, 90, 91, 92, 93, 94] [20, 26, 16] (by decide +kernel) rfl (by decide +kernel)
set_option maxRecDepth 20000 in
theorem gX12_loseAll_X12_loadOf : GoodIn wsX12_loseAll (wsV RX12 215 RX12 yX12_loadOf wsX12_loadOf) := goodIn_app (goodIn_of _ (by decide +kernel)) ggX12_loseAll_X12_loadOf
theorem dX12_loseAll_0 : decode cX12_loseAll 0 = .ok (.iconst 0, 1) := by decide +kernel
theorem dX12_loseAll_1 : decode cX12_loseAll 1 = .ok (.istore_n 1, 1) := by decide +kernel
theorem dX12_loseAll_2 : decode cX12_loseAll 2 = .ok (.iload_n 1, 1) := by decide +kernel
theorem dX12_loseAll_3 : decode cX12_loseAll 3 = .ok (.aload_n 0, 1) := by decide +kernel
theorem dX12_loseAll_4 : decode cX12_loseAll 4 = .ok (.getfield 179, 3) := by decide +kernel
theorem dX12_loseAll_7 : decode cX12_loseAll 7 = .ok (.if_icmp .ge 113, 3) := by decide +kernel
theorem dX12_loseAll_10 : decode cX12_loseAll 10 = .ok (.aload_n 0, 1) := by decide +kernel
theorem dX12_loseAll_11 : decode cX12_loseAll 11 = .ok (.getfield 56, 3) := by decide +kernel
theorem dX12_loseAll_14 : decode cX12_loseAll 14 = .ok (.iload_n 1, 1) := by decide +kernel
theorem dX12_loseAll_15 : decode cX12_loseAll 15 = .ok (.iconst 0, 1) := by decide +kernel
theorem dX12_loseAll_16 : decode cX12_loseAll 16 = .ok (.iastore, 1) := by decide +kernel
theorem dX12_loseAll_17 : decode cX12_loseAll 17 = .ok (.aload_n 0, 1) := by decide +kernel
theorem dX12_loseAll_18 : decode cX12_loseAll 18 = .ok (.getfield 52, 3) := by decide +kernel
theorem dX12_loseAll_21 : decode cX12_loseAll 21 = .ok (.iload_n 1, 1) := by decide +kernel
theorem dX12_loseAll_22 : decode cX12_loseAll 22 = .ok (.baload, 1) := by decide +kernel
theorem dX12_loseAll_23 : decode cX12_loseAll 23 = .ok (.ifCond .eq 30, 3) := by decide +kernel
theorem dX12_loseAll_26 : decode cX12_loseAll 26 = .ok (.aload_n 0, 1) := by decide +kernel
theorem dX12_loseAll_27 : decode cX12_loseAll 27 = .ok (.iload_n 1, 1) := by decide +kernel
theorem dX12_loseAll_28 : decode cX12_loseAll 28 = .ok (.aload_n 0, 1) := by decide +kernel
theorem dX12_loseAll_29 : decode cX12_loseAll 29 = .ok (.getfield 22, 3) := by decide +kernel
theorem dX12_loseAll_32 : decode cX12_loseAll 32 = .ok (.iload_n 1, 1) := by decide +kernel
theorem dX12_loseAll_33 : decode cX12_loseAll 33 = .ok (.iaload, 1) := by decide +kernel
theorem dX12_loseAll_34 : decode cX12_loseAll 34 = .ok (.ifCond .ne 12, 3) := by decide +kernel
theorem dX12_loseAll_37 : decode cX12_loseAll 37 = .ok (.aload_n 0, 1) := by decide +kernel
theorem dX12_loseAll_38 : decode cX12_loseAll 38 = .ok (.getfield 43, 3) := by decide +kernel
theorem dX12_loseAll_41 : decode cX12_loseAll 41 = .ok (.iload_n 1, 1) := by decide +kernel
theorem dX12_loseAll_42 : decode cX12_loseAll 42 = .ok (.iaload, 1) := by decide +kernel
theorem dX12_loseAll_43 : decode cX12_loseAll 43 = .ok (.goto 4, 3) := by decide +kernel
theorem dX12_loseAll_46 : decode cX12_loseAll 46 = .ok (.iconst 0, 1) := by decide +kernel
theorem dX12_loseAll_47 : decode cX12_loseAll 47 = .ok (.invokevirtual 227, 3) := by decide +kernel
theorem dX12_loseAll_50 : decode cX12_loseAll 50 = .ok (.goto 64, 3) := by decide +kernel
theorem dX12_loseAll_53 : decode cX12_loseAll 53 = .ok (.aload_n 0, 1) := by decide +kernel
theorem dX12_loseAll_54 : decode cX12_loseAll 54 = .ok (.getfield 49, 3) := by decide +kernel
theorem dX12_loseAll_57 : decode cX12_loseAll 57 = .ok (.iload_n 1, 1) := by decide +kernel
theorem dX12_loseAll_58 : decode cX12_loseAll 58 = .ok (.iaload, 1) := by decide +kernel
theorem dX12_loseAll_59 : decode cX12_loseAll 59 = .ok (.iconst 2, 1) := by decide +kernel
theorem dX12_loseAll_60 : decode cX12_loseAll 60 = .ok (.if_icmp .ne 17, 3) := by decide +kernel
theorem dX12_loseAll_63 : decode cX12_loseAll 63 = .ok (.aload_n 0, 1) := by decide +kernel
theorem dX12_loseAll_64 : decode cX12_loseAll 64 = .ok (.iload_n 1, 1) := by decide +kernel
theorem dX12_loseAll_65 : decode cX12_loseAll 65 = .ok (.aload_n 0, 1) := by decide +kernel
theorem dX12_loseAll_66 : decode cX12_loseAll 66 = .ok (.getfield 43, 3) := by decide +kernel
theorem dX12_loseAll_69 : decode cX12_loseAll 69 = .ok (.iload_n 1, 1) := by decide +kernel
theorem dX12_loseAll_70 : decode cX12_loseAll 70 = .ok (.iaload, 1) := by decide +kernel
theorem dX12_loseAll_71 : decode cX12_loseAll 71 = .ok (.invokevirtual 227, 3) := by decide +kernel
theorem dX12_loseAll_74 : decode cX12_loseAll 74 = .ok (.goto 40, 3) := by decide +kernel
theorem dX12_loseAll_77 : decode cX12_loseAll 77 = .ok (.aload_n 0, 1) := by decide +kernel
theorem dX12_loseAll_78 : decode cX12_loseAll 78 = .ok (.getfield 49, 3) := by decide +kernel
theorem dX12_loseAll_81 : decode cX12_loseAll 81 = .ok (.iload_n 1, 1) := by decide +kernel
theorem dX12_loseAll_82 : decode cX12_loseAll 82 = .ok (.iaload, 1) := by decide +kernel
theorem dX12_loseAll_83 : decode cX12_loseAll 83 = .ok (.ifCond .ne 31, 3) := by decide +kernel
theorem dX12_loseAll_86 : decode cX12_loseAll 86 = .ok (.aload_n 0, 1) := by decide +kernel
theorem dX12_loseAll_87 : decode cX12_loseAll 87 = .ok (.getfield 22, 3) := by decide +kernel
theorem dX12_loseAll_90 : decode cX12_loseAll 90 = .ok (.iload_n 1, 1) := by decide +kernel
theorem dX12_loseAll_91 : decode cX12_loseAll 91 = .ok (.iaload, 1) := by decide +kernel
theorem dX12_loseAll_92 : decode cX12_loseAll 92 = .ok (.ifCond .ne 22, 3) := by decide +kernel
theorem dX12_loseAll_95 : decode cX12_loseAll 95 = .ok (.aload_n 0, 1) := by decide +kernel
theorem dX12_loseAll_96 : decode cX12_loseAll 96 = .ok (.iload_n 1, 1) := by decide +kernel
theorem dX12_loseAll_97 : decode cX12_loseAll 97 = .ok (.invokevirtual 215, 3) := by decide +kernel
theorem dX12_loseAll_100 : decode cX12_loseAll 100 = .ok (.ifCond .le 14, 3) := by decide +kernel
theorem dX12_loseAll_103 : decode cX12_loseAll 103 = .ok (.aload_n 0, 1) := by decide +kernel
theorem dX12_loseAll_104 : decode cX12_loseAll 104 = .ok (.iload_n 1, 1) := by decide +kernel
theorem dX12_loseAll_105 : decode cX12_loseAll 105 = .ok (.aload_n 0, 1) := by decide +kernel
theorem dX12_loseAll_106 : decode cX12_loseAll 106 = .ok (.getfield 46, 3) := by decide +kernel
theorem dX12_loseAll_109 : decode cX12_loseAll 109 = .ok (.iload_n 1, 1) := by decide +kernel
theorem dX12_loseAll_110 : decode cX12_loseAll 110 = .ok (.iaload, 1) := by decide +kernel
theorem dX12_loseAll_111 : decode cX12_loseAll 111 = .ok (.invokevirtual 227, 3) := by decide +kernel
theorem dX12_loseAll_114 : decode cX12_loseAll 114 = .ok (.iinc 1 1, 3) := by decide +kernel
theorem dX12_loseAll_117 : decode cX12_loseAll 117 = .ok (.goto (-115), 3) := by decide +kernel
theorem dX12_loseAll_120 : decode cX12_loseAll 120 = .ok (.return_, 1) := by decide +kernel
set_option maxRecDepth 100000 in
theorem ggX12_findMoving_X12_needOf : GoodIn wsX12_findMoving wsX12_needOf := goodIn_s _ [17, 18, 19, 20, 21, 22, 15, 6, 24, 25, 26, 27, 28, 30, 31, 32, 34, 35, 36, 37, 38, 39, 40, 41, 42, 43, 44, 45, 46, 47, 48, 49, 50, 51, 52, 53, 54, 55, 56, 57, 58, 59, 60, 61, 62, 63, 64, 65, 66, 67, 68, 69, 70, 71, 72, 73, 74, 75, 76, 77, 78, 79, 80, 81, 82, 83, 84, 85, 86, 87, 88, 89, 90, 91, 92, 93, 94, 95, 96, 97, 98, 99] [16, 23, 29, 33] (by decide +kernel) rfl (by decide +kernel)
set_option maxRecDepth 20000 in
theorem gX12_findMoving_X12_needOf : GoodIn wsX12_findMoving (wsV RX12 218 RX12 yX12_needOf wsX12_needOf) := goodIn_app (goodIn_of _ (by decide +kernel)) ggX12_findMoving_X12_needOf
set_option maxRecDepth 100000 in
theorem ggX12_findMoving_X12_room : GoodIn wsX12_findMoving wsX12_room := goodIn_s _ [17, 30, 34, 35, 36, 37, 38, 39, 40, 41, 42, 43, 44, 45, 46, 47, 48, 49, 50, 51, 52, 53, 54, 55, 56, 57, 58, 59, 60, 61, 62, 63, 64, 65, 66, 67, 68, 69, 70, 71, 72, 73, 74, 75, 76, 77, 78, 79, 80, 81, 82, 83, 84, 85, 86, 87, 88, 89, 90, 91, 92, 93, 94, 95, 96, 97, 98, 99] [29] (by decide +kernel) rfl (by decide +kernel)
set_option maxRecDepth 20000 in
theorem gX12_findMoving_X12_room : GoodIn wsX12_findMoving (wsV RX12 198 RX12 yX12_room wsX12_room) := goodIn_app (goodIn_of _ (by decide +kernel)) ggX12_findMoving_X12_room
set_option maxRecDepth 100000 in
theorem ggX12_findMoving_X12_lesser : GoodIn wsX12_findMoving wsX12_lesser := goodIn_s _ [] [33] (by decide +kernel) rfl (by decide +kernel)
set_option maxRecDepth 20000 in
theorem gX12_findMoving_X12_lesser : GoodIn wsX12_findMoving (va_wsS RX12 212 yX12_lesser wsX12_lesser) := goodIn_app (goodIn_of _ (by decide +kernel)) ggX12_findMoving_X12_lesser
theorem dX12_findMoving_0 : decode cX12_findMoving 0 = .ok (.aload_n 0, 1) := by decide +kernel
theorem dX12_findMoving_1 : decode cX12_findMoving 1 = .ok (.iconst 0, 1) := by decide +kernel
theorem dX12_findMoving_2 : decode cX12_findMoving 2 = .ok (.putfield 231, 3) := by decide +kernel
theorem dX12_findMoving_5 : decode cX12_findMoving 5 = .ok (.iconst 0, 1) := by decide +kernel
theorem dX12_findMoving_6 : decode cX12_findMoving 6 = .ok (.istore_n 1, 1) := by decide +kernel
theorem dX12_findMoving_7 : decode cX12_findMoving 7 = .ok (.iload_n 1, 1) := by decide +kernel
theorem dX12_findMoving_8 : decode cX12_findMoving 8 = .ok (.aload_n 0, 1) := by decide +kernel
theorem dX12_findMoving_9 : decode cX12_findMoving 9 = .ok (.getfield 179, 3) := by decide +kernel
theorem dX12_findMoving_12 : decode cX12_findMoving 12 = .ok (.if_icmp .ge 168, 3) := by decide +kernel
theorem dX12_findMoving_15 : decode cX12_findMoving 15 = .ok (.aload_n 0, 1) := by decide +kernel
theorem dX12_findMoving_16 : decode cX12_findMoving 16 = .ok (.getfield 77, 3) := by decide +kernel
theorem dX12_findMoving_19 : decode cX12_findMoving 19 = .ok (.iload_n 1, 1) := by decide +kernel
theorem dX12_findMoving_20 : decode cX12_findMoving 20 = .ok (.aload_n 0, 1) := by decide +kernel
theorem dX12_findMoving_21 : decode cX12_findMoving 21 = .ok (.iload_n 1, 1) := by decide +kernel
theorem dX12_findMoving_22 : decode cX12_findMoving 22 = .ok (.invokevirtual 218, 3) := by decide +kernel
theorem dX12_findMoving_25 : decode cX12_findMoving 25 = .ok (.iastore, 1) := by decide +kernel
theorem dX12_findMoving_26 : decode cX12_findMoving 26 = .ok (.aload_n 0, 1) := by decide +kernel
theorem dX12_findMoving_27 : decode cX12_findMoving 27 = .ok (.getfield 80, 3) := by decide +kernel
theorem dX12_findMoving_30 : decode cX12_findMoving 30 = .ok (.iload_n 1, 1) := by decide +kernel
theorem dX12_findMoving_31 : decode cX12_findMoving 31 = .ok (.aload_n 0, 1) := by decide +kernel
theorem dX12_findMoving_32 : decode cX12_findMoving 32 = .ok (.getfield 43, 3) := by decide +kernel
theorem dX12_findMoving_35 : decode cX12_findMoving 35 = .ok (.iload_n 1, 1) := by decide +kernel
theorem dX12_findMoving_36 : decode cX12_findMoving 36 = .ok (.iaload, 1) := by decide +kernel
theorem dX12_findMoving_37 : decode cX12_findMoving 37 = .ok (.aload_n 0, 1) := by decide +kernel
theorem dX12_findMoving_38 : decode cX12_findMoving 38 = .ok (.iload_n 1, 1) := by decide +kernel
theorem dX12_findMoving_39 : decode cX12_findMoving 39 = .ok (.invokevirtual 198, 3) := by decide +kernel
theorem dX12_findMoving_42 : decode cX12_findMoving 42 = .ok (.aload_n 0, 1) := by decide +kernel
theorem dX12_findMoving_43 : decode cX12_findMoving 43 = .ok (.getfield 31, 3) := by decide +kernel
theorem dX12_findMoving_46 : decode cX12_findMoving 46 = .ok (.iload_n 1, 1) := by decide +kernel
theorem dX12_findMoving_47 : decode cX12_findMoving 47 = .ok (.iaload, 1) := by decide +kernel
theorem dX12_findMoving_48 : decode cX12_findMoving 48 = .ok (.isub, 1) := by decide +kernel
theorem dX12_findMoving_49 : decode cX12_findMoving 49 = .ok (.invokestatic 212, 3) := by decide +kernel
theorem dX12_findMoving_52 : decode cX12_findMoving 52 = .ok (.iastore, 1) := by decide +kernel
theorem dX12_findMoving_53 : decode cX12_findMoving 53 = .ok (.aload_n 0, 1) := by decide +kernel
theorem dX12_findMoving_54 : decode cX12_findMoving 54 = .ok (.getfield 83, 3) := by decide +kernel
theorem dX12_findMoving_57 : decode cX12_findMoving 57 = .ok (.iload_n 1, 1) := by decide +kernel
theorem dX12_findMoving_58 : decode cX12_findMoving 58 = .ok (.iconst 0, 1) := by decide +kernel
theorem dX12_findMoving_59 : decode cX12_findMoving 59 = .ok (.iastore, 1) := by decide +kernel
theorem dX12_findMoving_60 : decode cX12_findMoving 60 = .ok (.aload_n 0, 1) := by decide +kernel
theorem dX12_findMoving_61 : decode cX12_findMoving 61 = .ok (.getfield 49, 3) := by decide +kernel
theorem dX12_findMoving_64 : decode cX12_findMoving 64 = .ok (.iload_n 1, 1) := by decide +kernel
theorem dX12_findMoving_65 : decode cX12_findMoving 65 = .ok (.iaload, 1) := by decide +kernel
theorem dX12_findMoving_66 : decode cX12_findMoving 66 = .ok (.iconst 1, 1) := by decide +kernel
theorem dX12_findMoving_67 : decode cX12_findMoving 67 = .ok (.if_icmp .ne 107, 3) := by decide +kernel
theorem dX12_findMoving_70 : decode cX12_findMoving 70 = .ok (.aload_n 0, 1) := by decide +kernel
theorem dX12_findMoving_71 : decode cX12_findMoving 71 = .ok (.getfield 52, 3) := by decide +kernel
theorem dX12_findMoving_74 : decode cX12_findMoving 74 = .ok (.iload_n 1, 1) := by decide +kernel
theorem dX12_findMoving_75 : decode cX12_findMoving 75 = .ok (.baload, 1) := by decide +kernel
theorem dX12_findMoving_76 : decode cX12_findMoving 76 = .ok (.ifCond .ne 98, 3) := by decide +kernel
theorem dX12_findMoving_79 : decode cX12_findMoving 79 = .ok (.aload_n 0, 1) := by decide +kernel
theorem dX12_findMoving_80 : decode cX12_findMoving 80 = .ok (.getfield 31, 3) := by decide +kernel
theorem dX12_findMoving_83 : decode cX12_findMoving 83 = .ok (.iload_n 1, 1) := by decide +kernel
theorem dX12_findMoving_84 : decode cX12_findMoving 84 = .ok (.iaload, 1) := by decide +kernel
theorem dX12_findMoving_85 : decode cX12_findMoving 85 = .ok (.aload_n 0, 1) := by decide +kernel
theorem dX12_findMoving_86 : decode cX12_findMoving 86 = .ok (.iload_n 1, 1) := by decide +kernel
theorem dX12_findMoving_87 : decode cX12_findMoving 87 = .ok (.invokevirtual 198, 3) := by decide +kernel
theorem dX12_findMoving_90 : decode cX12_findMoving 90 = .ok (.if_icmp .ge 84, 3) := by decide +kernel
theorem dX12_findMoving_93 : decode cX12_findMoving 93 = .ok (.aload_n 0, 1) := by decide +kernel
theorem dX12_findMoving_94 : decode cX12_findMoving 94 = .ok (.getfield 77, 3) := by decide +kernel
theorem dX12_findMoving_97 : decode cX12_findMoving 97 = .ok (.iload_n 1, 1) := by decide +kernel
theorem dX12_findMoving_98 : decode cX12_findMoving 98 = .ok (.iaload, 1) := by decide +kernel
theorem dX12_findMoving_99 : decode cX12_findMoving 99 = .ok (.aload_n 0, 1) := by decide +kernel
theorem dX12_findMoving_100 : decode cX12_findMoving 100 = .ok (.getfield 129, 3) := by decide +kernel
theorem dX12_findMoving_103 : decode cX12_findMoving 103 = .ok (.if_icmp .gt 71, 3) := by decide +kernel
theorem dX12_findMoving_106 : decode cX12_findMoving 106 = .ok (.aload_n 0, 1) := by decide +kernel
theorem dX12_findMoving_107 : decode cX12_findMoving 107 = .ok (.getfield 231, 3) := by decide +kernel
theorem dX12_findMoving_110 : decode cX12_findMoving 110 = .ok (.istore_n 2, 1) := by decide +kernel
theorem dX12_findMoving_111 : decode cX12_findMoving 111 = .ok (.iload_n 2, 1) := by decide +kernel
theorem dX12_findMoving_112 : decode cX12_findMoving 112 = .ok (.ifCond .le 45, 3) := by decide +kernel
theorem dX12_findMoving_115 : decode cX12_findMoving 115 = .ok (.aload_n 0, 1) := by decide +kernel
theorem dX12_findMoving_116 : decode cX12_findMoving 116 = .ok (.getfield 77, 3) := by decide +kernel
theorem dX12_findMoving_119 : decode cX12_findMoving 119 = .ok (.aload_n 0, 1) := by decide +kernel
theorem dX12_findMoving_120 : decode cX12_findMoving 120 = .ok (.getfield 74, 3) := by decide +kernel
theorem dX12_findMoving_123 : decode cX12_findMoving 123 = .ok (.iload_n 2, 1) := by decide +kernel
theorem dX12_findMoving_124 : decode cX12_findMoving 124 = .ok (.iconst 1, 1) := by decide +kernel
theorem dX12_findMoving_125 : decode cX12_findMoving 125 = .ok (.isub, 1) := by decide +kernel
theorem dX12_findMoving_126 : decode cX12_findMoving 126 = .ok (.iaload, 1) := by decide +kernel
theorem dX12_findMoving_127 : decode cX12_findMoving 127 = .ok (.iaload, 1) := by decide +kernel
theorem dX12_findMoving_128 : decode cX12_findMoving 128 = .ok (.aload_n 0, 1) := by decide +kernel
theorem dX12_findMoving_129 : decode cX12_findMoving 129 = .ok (.getfield 77, 3) := by decide +kernel
theorem dX12_findMoving_132 : decode cX12_findMoving 132 = .ok (.iload_n 1, 1) := by decide +kernel
theorem dX12_findMoving_133 : decode cX12_findMoving 133 = .ok (.iaload, 1) := by decide +kernel
theorem dX12_findMoving_134 : decode cX12_findMoving 134 = .ok (.if_icmp .le 23, 3) := by decide +kernel
theorem dX12_findMoving_137 : decode cX12_findMoving 137 = .ok (.aload_n 0, 1) := by decide +kernel
theorem dX12_findMoving_138 : decode cX12_findMoving 138 = .ok (.getfield 74, 3) := by decide +kernel
theorem dX12_findMoving_141 : decode cX12_findMoving 141 = .ok (.iload_n 2, 1) := by decide +kernel
theorem dX12_findMoving_142 : decode cX12_findMoving 142 = .ok (.aload_n 0, 1) := by decide +kernel
theorem dX12_findMoving_143 : decode cX12_findMoving 143 = .ok (.getfield 74, 3) := by decide +kernel
theorem dX12_findMoving_146 : decode cX12_findMoving 146 = .ok (.iload_n 2, 1) := by decide +kernel
theorem dX12_findMoving_147 : decode cX12_findMoving 147 = .ok (.iconst 1, 1) := by decide +kernel
theorem dX12_findMoving_148 : decode cX12_findMoving 148 = .ok (.isub, 1) := by decide +kernel
theorem dX12_findMoving_149 : decode cX12_findMoving 149 = .ok (.iaload, 1) := by decide +kernel
theorem dX12_findMoving_150 : decode cX12_findMoving 150 = .ok (.iastore, 1) := by decide +kernel
theorem dX12_findMoving_151 : decode cX12_findMoving 151 = .ok (.iinc 2 (-1), 3) := by decide +kernel
theorem dX12_findMoving_154 : decode cX12_findMoving 154 = .ok (.goto (-43), 3) := by decide +kernel
theorem dX12_findMoving_157 : decode cX12_findMoving 157 = .ok (.aload_n 0, 1) := by decide +kernel
theorem dX12_findMoving_158 : decode cX12_findMoving 158 = .ok (.getfield 74, 3) := by decide +kernel
theorem dX12_findMoving_161 : decode cX12_findMoving 161 = .ok (.iload_n 2, 1) := by decide +kernel
theorem dX12_findMoving_162 : decode cX12_findMoving 162 = .ok (.iload_n 1, 1) := by decide +kernel
theorem dX12_findMoving_163 : decode cX12_findMoving 163 = .ok (.iastore, 1) := by decide +kernel
theorem dX12_findMoving_164 : decode cX12_findMoving 164 = .ok (.aload_n 0, 1) := by decide +kernel
theorem dX12_findMoving_165 : decode cX12_findMoving 165 = .ok (.dup, 1) := by decide +kernel
theorem dX12_findMoving_166 : decode cX12_findMoving 166 = .ok (.getfield 231, 3) := by decide +kernel
theorem dX12_findMoving_169 : decode cX12_findMoving 169 = .ok (.iconst 1, 1) := by decide +kernel
theorem dX12_findMoving_170 : decode cX12_findMoving 170 = .ok (.iadd, 1) := by decide +kernel
theorem dX12_findMoving_171 : decode cX12_findMoving 171 = .ok (.putfield 231, 3) := by decide +kernel
theorem dX12_findMoving_174 : decode cX12_findMoving 174 = .ok (.iinc 1 1, 3) := by decide +kernel
theorem dX12_findMoving_177 : decode cX12_findMoving 177 = .ok (.goto (-170), 3) := by decide +kernel
theorem dX12_findMoving_180 : decode cX12_findMoving 180 = .ok (.return_, 1) := by decide +kernel
set_option maxRecDepth 100000 in
theorem ggX12_tickOnce_X12_mayBeDone : GoodIn wsX12_tickOnce wsX12_mayBeDone := goodIn_s _ [31, 32, 13, 33, 34, 35, 29, 37, 38, 76, 77, 78, 79, 80, 81, 82, 83, 84, 85, 86, 87, 88, 89, 90, 91, 92, 93, 94, 95, 96, 97, 98, 99, 100, 101, 102, 103, 104, 105, 106, 107, 108, 109, 110, 111, 112, 113, 114, 115, 116, 117, 118, 119, 120, 121, 122, 123, 124, 125, 126, 127, 128, 129, 130, 131, 132, 133, 134, 135, 136, 137, 138, 139, 140, 141] [30, 36] (by decide +kernel) rfl (by decide +kernel)
set_option maxRecDepth 20000 in
theorem gX12_tickOnce_X12_mayBeDone : GoodIn wsX12_tickOnce (wsV RX12 234 RX12 yX12_mayBeDone wsX12_mayBeDone) := goodIn_app (goodIn_of _ (by decide +kernel)) ggX12_tickOnce_X12_mayBeDone
set_option maxRecDepth 100000 in
theorem ggX12_tickOnce_X12_loseAll : GoodIn wsX12_tickOnce wsX12_loseAll := goodIn_s _ [43, 14, 44, 45, 46, 3, 47, 48, 49, 50, 29, 13, 52, 53, 55, 56, 57, 59, 60, 33, 34, 35, 37, 38, 76, 77, 78, 79, 80, 81, 82, 83, 84, 85, 86, 87, 88, 89, 90, 91, 92, 93, 94, 95, 96, 97, 98, 99, 100, 101, 102, 103, 104, 105, 106, 107, 108, 109, 110, 111, 112, 113, 114, 115, 116, 117, 118, 119, 120, 121, 122, 123, 124, 125, 126, 127, 128, 129, 130, 131, 132, 133, 134, 135, 136, 137, 138, 139, 140, 141] [42, 51, 54, 58, 36] (by decide +kernel) rfl (by decide +kernel)
set_option maxRecDepth 20000 in
theorem gX12_tickOnce_X12_loseAll : GoodIn wsX12_tickOnce (wsV RX12 237 RX12 yX12_loseAll wsX12_loseAll) := goodIn_app (goodIn_of _ (by decide +kernel)) ggX12_tickOnce_X12_loseAll
set_option maxRecDepth 100000 in
theorem ggX12_tickOnce_X12_findMoving : GoodIn wsX12_tickOnce wsX12_findMoving := goodIn_s _ [9, 43, 15, 12, 46, 13, 11, 3, 44, 17, 10, 65, 66, 67, 29, 37, 45, 69, 55, 56, 57, 59, 60, 33, 34, 35, 38, 52, 53, 76, 77, 78, 79, 80, 81, 82, 83, 84, 85, 86, 87, 88, 89, 90, 91, 92, 93, 94, 95, 96, 97, 98, 99, 100, 101, 102, 103, 104, 105, 106, 107, 108, 109, 110, 111, 112, 113, 114, 115, 116, 117, 118, 119, 120, 121, 122, 123, 124, 125, 126, 127, 128, 129, 130, 131, 132, 133, 134, 135, 136, 137, 138, 139, 140, 141] [64, 68, 58, 36, 54] (by decide +kernel) rfl (by decide +kernel)
set_option maxRecDepth 20000 in
theorem gX12_tickOnce_X12_findMoving : GoodIn wsX12_tickOnce (wsV RX12 240 RX12 yX12_findMoving wsX12_findMoving) := goodIn_app (goodIn_of _ (by decide +kernel)) ggX12_tickOnce_X12_findMoving
set_option maxRecDepth 100000 in
theorem ggX12_tickOnce_X12_lesser : GoodIn wsX12_tickOnce wsX12_lesser := goodIn_s _ [] [54] (by decide +kernel) rfl (by decide +kernel)
set_option maxRecDepth 20000 in
theorem gX12_tickOnce_X12_lesser : GoodIn wsX12_tickOnce (va_wsS RX12 212 yX12_lesser wsX12_lesser) := goodIn_app (goodIn_of _ (by decide +kernel)) ggX12_tickOnce_X12_lesser
set_option maxRecDepth 100000 in
theorem ggX12_tickOnce_X12_storePressure : GoodIn wsX12_tickOnce wsX12_storePressure := goodIn_s _ [74, 19, 75, 76, 77, 78, 79, 80, 81, 82, 83, 84, 85, 86, 87, 88, 89, 90, 91, 92, 93, 94, 95, 96, 97, 98, 99, 100, 101, 102, 103, 104, 105, 106, 107, 108, 109, 110, 111, 112, 113, 114, 115, 116, 117, 118, 119, 120, 121, 122, 123, 124, 125, 126, 127, 128, 129, 130, 131, 132, 133, 134, 135, 136, 137, 138, 139, 140, 141] [73] (by decide +kernel) rfl (by decide +kernel)
set_option maxRecDepth 20000 in
theorem gX12_tickOnce_X12_storePressure : GoodIn wsX12_tickOnce (wsV RX12 249 RX12 yX12_storePressure wsX12_storePressure) := goodIn_app (goodIn_of _ (by decide +kernel)) ggX12_tickOnce_X12_storePressure
theorem dX12_tickOnce_0 : decode cX12_tickOnce 0 = .ok (.aload_n 0, 1) := by decide +kernel
theorem dX12_tickOnce_1 : decode cX12_tickOnce 1 = .ok (.getfield 224, 3) := by decide +kernel
theorem dX12_tickOnce_4 : decode cX12_tickOnce 4 = .ok (.aload_n 0, 1) := by decide +kernel
theorem dX12_tickOnce_5 : decode cX12_tickOnce 5 = .ok (.getfield 221, 3) := by decide +kernel
theorem dX12_tickOnce_8 : decode cX12_tickOnce 8 = .ok (.if_icmp .ge 50, 3) := by decide +kernel
theorem dX12_tickOnce_11 : decode cX12_tickOnce 11 = .ok (.aload_n 0, 1) := by decide +kernel
theorem dX12_tickOnce_12 : decode cX12_tickOnce 12 = .ok (.aload_n 0, 1) := by decide +kernel
theorem dX12_tickOnce_13 : decode cX12_tickOnce 13 = .ok (.getfield 224, 3) := by decide +kernel
theorem dX12_tickOnce_16 : decode cX12_tickOnce 16 = .ok (.invokevirtual 234, 3) := by decide +kernel
theorem dX12_tickOnce_19 : decode cX12_tickOnce 19 = .ok (.ifCond .eq 39, 3) := by decide +kernel
theorem dX12_tickOnce_22 : decode cX12_tickOnce 22 = .ok (.aload_n 0, 1) := by decide +kernel
theorem dX12_tickOnce_23 : decode cX12_tickOnce 23 = .ok (.getfield 49, 3) := by decide +kernel
theorem dX12_tickOnce_26 : decode cX12_tickOnce 26 = .ok (.aload_n 0, 1) := by decide +kernel
theorem dX12_tickOnce_27 : decode cX12_tickOnce 27 = .ok (.getfield 65, 3) := by decide +kernel
theorem dX12_tickOnce_30 : decode cX12_tickOnce 30 = .ok (.aload_n 0, 1) := by decide +kernel
theorem dX12_tickOnce_31 : decode cX12_tickOnce 31 = .ok (.getfield 224, 3) := by decide +kernel
theorem dX12_tickOnce_34 : decode cX12_tickOnce 34 = .ok (.iaload, 1) := by decide +kernel
theorem dX12_tickOnce_35 : decode cX12_tickOnce 35 = .ok (.aload_n 0, 1) := by decide +kernel
theorem dX12_tickOnce_36 : decode cX12_tickOnce 36 = .ok (.getfield 68, 3) := by decide +kernel
theorem dX12_tickOnce_39 : decode cX12_tickOnce 39 = .ok (.aload_n 0, 1) := by decide +kernel
theorem dX12_tickOnce_40 : decode cX12_tickOnce 40 = .ok (.getfield 224, 3) := by decide +kernel
theorem dX12_tickOnce_43 : decode cX12_tickOnce 43 = .ok (.iaload, 1) := by decide +kernel
theorem dX12_tickOnce_44 : decode cX12_tickOnce 44 = .ok (.iastore, 1) := by decide +kernel
theorem dX12_tickOnce_45 : decode cX12_tickOnce 45 = .ok (.aload_n 0, 1) := by decide +kernel
theorem dX12_tickOnce_46 : decode cX12_tickOnce 46 = .ok (.dup, 1) := by decide +kernel
theorem dX12_tickOnce_47 : decode cX12_tickOnce 47 = .ok (.getfield 224, 3) := by decide +kernel
theorem dX12_tickOnce_50 : decode cX12_tickOnce 50 = .ok (.iconst 1, 1) := by decide +kernel
theorem dX12_tickOnce_51 : decode cX12_tickOnce 51 = .ok (.iadd, 1) := by decide +kernel
theorem dX12_tickOnce_52 : decode cX12_tickOnce 52 = .ok (.putfield 224, 3) := by decide +kernel
theorem dX12_tickOnce_55 : decode cX12_tickOnce 55 = .ok (.goto (-55), 3) := by decide +kernel
theorem dX12_tickOnce_58 : decode cX12_tickOnce 58 = .ok (.aload_n 0, 1) := by decide +kernel
theorem dX12_tickOnce_59 : decode cX12_tickOnce 59 = .ok (.invokevirtual 237, 3) := by decide +kernel
theorem dX12_tickOnce_62 : decode cX12_tickOnce 62 = .ok (.aload_n 0, 1) := by decide +kernel
theorem dX12_tickOnce_63 : decode cX12_tickOnce 63 = .ok (.invokevirtual 240, 3) := by decide +kernel
theorem dX12_tickOnce_66 : decode cX12_tickOnce 66 = .ok (.aload_n 0, 1) := by decide +kernel
theorem dX12_tickOnce_67 : decode cX12_tickOnce 67 = .ok (.getfield 184, 3) := by decide +kernel
theorem dX12_tickOnce_70 : decode cX12_tickOnce 70 = .ok (.istore_n 1, 1) := by decide +kernel
theorem dX12_tickOnce_71 : decode cX12_tickOnce 71 = .ok (.aload_n 0, 1) := by decide +kernel
theorem dX12_tickOnce_72 : decode cX12_tickOnce 72 = .ok (.iconst 0, 1) := by decide +kernel
theorem dX12_tickOnce_73 : decode cX12_tickOnce 73 = .ok (.putfield 243, 3) := by decide +kernel
theorem dX12_tickOnce_76 : decode cX12_tickOnce 76 = .ok (.aload_n 0, 1) := by decide +kernel
theorem dX12_tickOnce_77 : decode cX12_tickOnce 77 = .ok (.iconst 0, 1) := by decide +kernel
theorem dX12_tickOnce_78 : decode cX12_tickOnce 78 = .ok (.putfield 246, 3) := by decide +kernel
theorem dX12_tickOnce_81 : decode cX12_tickOnce 81 = .ok (.iconst 0, 1) := by decide +kernel
theorem dX12_tickOnce_82 : decode cX12_tickOnce 82 = .ok (.istore_n 2, 1) := by decide +kernel
theorem dX12_tickOnce_83 : decode cX12_tickOnce 83 = .ok (.iload_n 2, 1) := by decide +kernel
theorem dX12_tickOnce_84 : decode cX12_tickOnce 84 = .ok (.aload_n 0, 1) := by decide +kernel
theorem dX12_tickOnce_85 : decode cX12_tickOnce 85 = .ok (.getfield 231, 3) := by decide +kernel
theorem dX12_tickOnce_88 : decode cX12_tickOnce 88 = .ok (.if_icmp .ge 127, 3) := by decide +kernel
theorem dX12_tickOnce_91 : decode cX12_tickOnce 91 = .ok (.aload_n 0, 1) := by decide +kernel
theorem dX12_tickOnce_92 : decode cX12_tickOnce 92 = .ok (.getfield 74, 3) := by decide +kernel
theorem dX12_tickOnce_95 : decode cX12_tickOnce 95 = .ok (.iload_n 2, 1) := by decide +kernel
theorem dX12_tickOnce_96 : decode cX12_tickOnce 96 = .ok (.iaload, 1) := by decide +kernel
theorem dX12_tickOnce_97 : decode cX12_tickOnce 97 = .ok (.istore_n 3, 1) := by decide +kernel
theorem dX12_tickOnce_98 : decode cX12_tickOnce 98 = .ok (.aload_n 0, 1) := by decide +kernel
theorem dX12_tickOnce_99 : decode cX12_tickOnce 99 = .ok (.getfield 83, 3) := by decide +kernel
theorem dX12_tickOnce_102 : decode cX12_tickOnce 102 = .ok (.iload_n 3, 1) := by decide +kernel
theorem dX12_tickOnce_103 : decode cX12_tickOnce 103 = .ok (.aload_n 0, 1) := by decide +kernel
theorem dX12_tickOnce_104 : decode cX12_tickOnce 104 = .ok (.getfield 80, 3) := by decide +kernel
theorem dX12_tickOnce_107 : decode cX12_tickOnce 107 = .ok (.iload_n 3, 1) := by decide +kernel
theorem dX12_tickOnce_108 : decode cX12_tickOnce 108 = .ok (.iaload, 1) := by decide +kernel
theorem dX12_tickOnce_109 : decode cX12_tickOnce 109 = .ok (.iload_n 1, 1) := by decide +kernel
theorem dX12_tickOnce_110 : decode cX12_tickOnce 110 = .ok (.invokestatic 212, 3) := by decide +kernel
theorem dX12_tickOnce_113 : decode cX12_tickOnce 113 = .ok (.iastore, 1) := by decide +kernel
theorem dX12_tickOnce_114 : decode cX12_tickOnce 114 = .ok (.iload_n 1, 1) := by decide +kernel
theorem dX12_tickOnce_115 : decode cX12_tickOnce 115 = .ok (.aload_n 0, 1) := by decide +kernel
theorem dX12_tickOnce_116 : decode cX12_tickOnce 116 = .ok (.getfield 83, 3) := by decide +kernel
theorem dX12_tickOnce_119 : decode cX12_tickOnce 119 = .ok (.iload_n 3, 1) := by decide +kernel
theorem dX12_tickOnce_120 : decode cX12_tickOnce 120 = .ok (.iaload, 1) := by decide +kernel
theorem dX12_tickOnce_121 : decode cX12_tickOnce 121 = .ok (.isub, 1) := by decide +kernel
theorem dX12_tickOnce_122 : decode cX12_tickOnce 122 = .ok (.istore_n 1, 1) := by decide +kernel
theorem dX12_tickOnce_123 : decode cX12_tickOnce 123 = .ok (.aload_n 0, 1) := by decide +kernel
theorem dX12_tickOnce_124 : decode cX12_tickOnce 124 = .ok (.getfield 31, 3) := by decide +kernel
theorem dX12_tickOnce_127 : decode cX12_tickOnce 127 = .ok (.iload_n 3, 1) := by decide +kernel
theorem dX12_tickOnce_128 : decode cX12_tickOnce 128 = .ok (.dup2, 1) := by decide +kernel
theorem dX12_tickOnce_129 : decode cX12_tickOnce 129 = .ok (.iaload, 1) := by decide +kernel
theorem dX12_tickOnce_130 : decode cX12_tickOnce 130 = .ok (.aload_n 0, 1) := by decide +kernel
theorem dX12_tickOnce_131 : decode cX12_tickOnce 131 = .ok (.getfield 83, 3) := by decide +kernel
theorem dX12_tickOnce_134 : decode cX12_tickOnce 134 = .ok (.iload_n 3, 1) := by decide +kernel
theorem dX12_tickOnce_135 : decode cX12_tickOnce 135 = .ok (.iaload, 1) := by decide +kernel
theorem dX12_tickOnce_136 : decode cX12_tickOnce 136 = .ok (.iadd, 1) := by decide +kernel
theorem dX12_tickOnce_137 : decode cX12_tickOnce 137 = .ok (.iastore, 1) := by decide +kernel
theorem dX12_tickOnce_138 : decode cX12_tickOnce 138 = .ok (.aload_n 0, 1) := by decide +kernel
theorem dX12_tickOnce_139 : decode cX12_tickOnce 139 = .ok (.getfield 56, 3) := by decide +kernel
theorem dX12_tickOnce_142 : decode cX12_tickOnce 142 = .ok (.iload_n 3, 1) := by decide +kernel
theorem dX12_tickOnce_143 : decode cX12_tickOnce 143 = .ok (.aload_n 0, 1) := by decide +kernel
theorem dX12_tickOnce_144 : decode cX12_tickOnce 144 = .ok (.getfield 83, 3) := by decide +kernel
theorem dX12_tickOnce_147 : decode cX12_tickOnce 147 = .ok (.iload_n 3, 1) := by decide +kernel
theorem dX12_tickOnce_148 : decode cX12_tickOnce 148 = .ok (.iaload, 1) := by decide +kernel
theorem dX12_tickOnce_149 : decode cX12_tickOnce 149 = .ok (.iastore, 1) := by decide +kernel
theorem dX12_tickOnce_150 : decode cX12_tickOnce 150 = .ok (.aload_n 0, 1) := by decide +kernel
theorem dX12_tickOnce_151 : decode cX12_tickOnce 151 = .ok (.getfield 83, 3) := by decide +kernel
theorem dX12_tickOnce_154 : decode cX12_tickOnce 154 = .ok (.iload_n 3, 1) := by decide +kernel
theorem dX12_tickOnce_155 : decode cX12_tickOnce 155 = .ok (.iaload, 1) := by decide +kernel
theorem dX12_tickOnce_156 : decode cX12_tickOnce 156 = .ok (.ifCond .le 53, 3) := by decide +kernel
theorem dX12_tickOnce_159 : decode cX12_tickOnce 159 = .ok (.aload_n 0, 1) := by decide +kernel
theorem dX12_tickOnce_160 : decode cX12_tickOnce 160 = .ok (.aload_n 0, 1) := by decide +kernel
theorem dX12_tickOnce_161 : decode cX12_tickOnce 161 = .ok (.getfield 77, 3) := by decide +kernel
theorem dX12_tickOnce_164 : decode cX12_tickOnce 164 = .ok (.iload_n 3, 1) := by decide +kernel
theorem dX12_tickOnce_165 : decode cX12_tickOnce 165 = .ok (.iaload, 1) := by decide +kernel
theorem dX12_tickOnce_166 : decode cX12_tickOnce 166 = .ok (.aload_n 0, 1) := by decide +kernel
theorem dX12_tickOnce_167 : decode cX12_tickOnce 167 = .ok (.getfield 243, 3) := by decide +kernel
theorem dX12_tickOnce_170 : decode cX12_tickOnce 170 = .ok (.if_icmp .le 12, 3) := by decide +kernel
theorem dX12_tickOnce_173 : decode cX12_tickOnce 173 = .ok (.aload_n 0, 1) := by decide +kernel
theorem dX12_tickOnce_174 : decode cX12_tickOnce 174 = .ok (.getfield 77, 3) := by decide +kernel
theorem dX12_tickOnce_177 : decode cX12_tickOnce 177 = .ok (.iload_n 3, 1) := by decide +kernel
theorem dX12_tickOnce_178 : decode cX12_tickOnce 178 = .ok (.iaload, 1) := by decide +kernel
theorem dX12_tickOnce_179 : decode cX12_tickOnce 179 = .ok (.goto 7, 3) := by decide +kernel
theorem dX12_tickOnce_182 : decode cX12_tickOnce 182 = .ok (.aload_n 0, 1) := by decide +kernel
theorem dX12_tickOnce_183 : decode cX12_tickOnce 183 = .ok (.getfield 243, 3) := by decide +kernel
theorem dX12_tickOnce_186 : decode cX12_tickOnce 186 = .ok (.putfield 243, 3) := by decide +kernel
theorem dX12_tickOnce_189 : decode cX12_tickOnce 189 = .ok (.aload_n 0, 1) := by decide +kernel
theorem dX12_tickOnce_190 : decode cX12_tickOnce 190 = .ok (.getfield 71, 3) := by decide +kernel
theorem dX12_tickOnce_193 : decode cX12_tickOnce 193 = .ok (.aload_n 0, 1) := by decide +kernel
theorem dX12_tickOnce_194 : decode cX12_tickOnce 194 = .ok (.getfield 246, 3) := by decide +kernel
theorem dX12_tickOnce_197 : decode cX12_tickOnce 197 = .ok (.iload_n 3, 1) := by decide +kernel
theorem dX12_tickOnce_198 : decode cX12_tickOnce 198 = .ok (.iastore, 1) := by decide +kernel
theorem dX12_tickOnce_199 : decode cX12_tickOnce 199 = .ok (.aload_n 0, 1) := by decide +kernel
theorem dX12_tickOnce_200 : decode cX12_tickOnce 200 = .ok (.dup, 1) := by decide +kernel
theorem dX12_tickOnce_201 : decode cX12_tickOnce 201 = .ok (.getfield 246, 3) := by decide +kernel
theorem dX12_tickOnce_204 : decode cX12_tickOnce 204 = .ok (.iconst 1, 1) := by decide +kernel
theorem dX12_tickOnce_205 : decode cX12_tickOnce 205 = .ok (.iadd, 1) := by decide +kernel
theorem dX12_tickOnce_206 : decode cX12_tickOnce 206 = .ok (.putfield 246, 3) := by decide +kernel
theorem dX12_tickOnce_209 : decode cX12_tickOnce 209 = .ok (.iinc 2 1, 3) := by decide +kernel
theorem dX12_tickOnce_212 : decode cX12_tickOnce 212 = .ok (.goto (-129), 3) := by decide +kernel
theorem dX12_tickOnce_215 : decode cX12_tickOnce 215 = .ok (.iload_n 1, 1) := by decide +kernel
theorem dX12_tickOnce_216 : decode cX12_tickOnce 216 = .ok (.ifCond .ne 7, 3) := by decide +kernel
theorem dX12_tickOnce_219 : decode cX12_tickOnce 219 = .ok (.iconst 1, 1) := by decide +kernel
theorem dX12_tickOnce_220 : decode cX12_tickOnce 220 = .ok (.goto 4, 3) := by decide +kernel
theorem dX12_tickOnce_223 : decode cX12_tickOnce 223 = .ok (.iconst 0, 1) := by decide +kernel
theorem dX12_tickOnce_224 : decode cX12_tickOnce 224 = .ok (.istore_n 2, 1) := by decide +kernel
end
section
theorem dX12_tickOnce_225 : decode cX12_tickOnce 225 = .ok (.aload_n 0, 1) := by decide +kernel
theorem dX12_tickOnce_226 : decode cX12_tickOnce 226 = .ok (.invokevirtual 249, 3) := by decide +kernel
theorem dX12_tickOnce_229 : decode cX12_tickOnce 229 = .ok (.istore_n 3, 1) := by decide +kernel
theorem dX12_tickOnce_230 : decode cX12_tickOnce 230 = .ok (.aload_n 0, 1) := by decide +kernel
theorem dX12_tickOnce_231 : decode cX12_tickOnce 231 = .ok (.iload_n 3, 1) := by decide +kernel
theorem dX12_tickOnce_232 : decode cX12_tickOnce 232 = .ok (.aload_n 0, 1) := by decide +kernel
theorem dX12_tickOnce_233 : decode cX12_tickOnce 233 = .ok (.getfield 129, 3) := by decide +kernel
theorem dX12_tickOnce_236 : decode cX12_tickOnce 236 = .ok (.if_icmp .gt 30, 3) := by decide +kernel
theorem dX12_tickOnce_239 : decode cX12_tickOnce 239 = .ok (.aload_n 0, 1) := by decide +kernel
theorem dX12_tickOnce_240 : decode cX12_tickOnce 240 = .ok (.getfield 206, 3) := by decide +kernel
theorem dX12_tickOnce_243 : decode cX12_tickOnce 243 = .ok (.aload_n 0, 1) := by decide +kernel
theorem dX12_tickOnce_244 : decode cX12_tickOnce 244 = .ok (.getfield 203, 3) := by decide +kernel
theorem dX12_tickOnce_247 : decode cX12_tickOnce 247 = .ok (.if_icmp .le 19, 3) := by decide +kernel
theorem dX12_tickOnce_250 : decode cX12_tickOnce 250 = .ok (.iload_n 1, 1) := by decide +kernel
theorem dX12_tickOnce_251 : decode cX12_tickOnce 251 = .ok (.aload_n 0, 1) := by decide +kernel
theorem dX12_tickOnce_252 : decode cX12_tickOnce 252 = .ok (.getfield 206, 3) := by decide +kernel
theorem dX12_tickOnce_255 : decode cX12_tickOnce 255 = .ok (.aload_n 0, 1) := by decide +kernel
theorem dX12_tickOnce_256 : decode cX12_tickOnce 256 = .ok (.getfield 203, 3) := by decide +kernel
theorem dX12_tickOnce_259 : decode cX12_tickOnce 259 = .ok (.isub, 1) := by decide +kernel
theorem dX12_tickOnce_260 : decode cX12_tickOnce 260 = .ok (.invokestatic 212, 3) := by decide +kernel
theorem dX12_tickOnce_263 : decode cX12_tickOnce 263 = .ok (.goto 4, 3) := by decide +kernel
theorem dX12_tickOnce_266 : decode cX12_tickOnce 266 = .ok (.iconst 0, 1) := by decide +kernel
theorem dX12_tickOnce_267 : decode cX12_tickOnce 267 = .ok (.putfield 253, 3) := by decide +kernel
theorem dX12_tickOnce_270 : decode cX12_tickOnce 270 = .ok (.aload_n 0, 1) := by decide +kernel
theorem dX12_tickOnce_271 : decode cX12_tickOnce 271 = .ok (.dup, 1) := by decide +kernel
theorem dX12_tickOnce_272 : decode cX12_tickOnce 272 = .ok (.getfield 203, 3) := by decide +kernel
theorem dX12_tickOnce_275 : decode cX12_tickOnce 275 = .ok (.aload_n 0, 1) := by decide +kernel
theorem dX12_tickOnce_276 : decode cX12_tickOnce 276 = .ok (.getfield 253, 3) := by decide +kernel
theorem dX12_tickOnce_279 : decode cX12_tickOnce 279 = .ok (.iadd, 1) := by decide +kernel
theorem dX12_tickOnce_280 : decode cX12_tickOnce 280 = .ok (.putfield 203, 3) := by decide +kernel
theorem dX12_tickOnce_283 : decode cX12_tickOnce 283 = .ok (.iload_n 1, 1) := by decide +kernel
theorem dX12_tickOnce_284 : decode cX12_tickOnce 284 = .ok (.aload_n 0, 1) := by decide +kernel
theorem dX12_tickOnce_285 : decode cX12_tickOnce 285 = .ok (.getfield 253, 3) := by decide +kernel
theorem dX12_tickOnce_288 : decode cX12_tickOnce 288 = .ok (.isub, 1) := by decide +kernel
theorem dX12_tickOnce_289 : decode cX12_tickOnce 289 = .ok (.istore_n 1, 1) := by decide +kernel
theorem dX12_tickOnce_290 : decode cX12_tickOnce 290 = .ok (.aload_n 0, 1) := by decide +kernel
theorem dX12_tickOnce_291 : decode cX12_tickOnce 291 = .ok (.aload_n 0, 1) := by decide +kernel
theorem dX12_tickOnce_292 : decode cX12_tickOnce 292 = .ok (.getfield 253, 3) := by decide +kernel
theorem dX12_tickOnce_295 : decode cX12_tickOnce 295 = .ok (.ifCond .le 15, 3) := by decide +kernel
theorem dX12_tickOnce_298 : decode cX12_tickOnce 298 = .ok (.iload_n 3, 1) := by decide +kernel
theorem dX12_tickOnce_299 : decode cX12_tickOnce 299 = .ok (.aload_n 0, 1) := by decide +kernel
theorem dX12_tickOnce_300 : decode cX12_tickOnce 300 = .ok (.getfield 243, 3) := by decide +kernel
theorem dX12_tickOnce_303 : decode cX12_tickOnce 303 = .ok (.if_icmp .le 7, 3) := by decide +kernel
theorem dX12_tickOnce_306 : decode cX12_tickOnce 306 = .ok (.iload_n 3, 1) := by decide +kernel
theorem dX12_tickOnce_307 : decode cX12_tickOnce 307 = .ok (.goto 7, 3) := by decide +kernel
theorem dX12_tickOnce_310 : decode cX12_tickOnce 310 = .ok (.aload_n 0, 1) := by decide +kernel
theorem dX12_tickOnce_311 : decode cX12_tickOnce 311 = .ok (.getfield 243, 3) := by decide +kernel
theorem dX12_tickOnce_314 : decode cX12_tickOnce 314 = .ok (.putfield 243, 3) := by decide +kernel
theorem dX12_tickOnce_317 : decode cX12_tickOnce 317 = .ok (.aload_n 0, 1) := by decide +kernel
theorem dX12_tickOnce_318 : decode cX12_tickOnce 318 = .ok (.iload_n 1, 1) := by decide +kernel
theorem dX12_tickOnce_319 : decode cX12_tickOnce 319 = .ok (.putfield 256, 3) := by decide +kernel
theorem dX12_tickOnce_322 : decode cX12_tickOnce 322 = .ok (.aload_n 0, 1) := by decide +kernel
theorem dX12_tickOnce_323 : decode cX12_tickOnce 323 = .ok (.aload_n 0, 1) := by decide +kernel
theorem dX12_tickOnce_324 : decode cX12_tickOnce 324 = .ok (.getfield 256, 3) := by decide +kernel
theorem dX12_tickOnce_327 : decode cX12_tickOnce 327 = .ok (.ifCond .le 10, 3) := by decide +kernel
theorem dX12_tickOnce_330 : decode cX12_tickOnce 330 = .ok (.aload_n 0, 1) := by decide +kernel
theorem dX12_tickOnce_331 : decode cX12_tickOnce 331 = .ok (.getfield 129, 3) := by decide +kernel
theorem dX12_tickOnce_334 : decode cX12_tickOnce 334 = .ok (.goto 7, 3) := by decide +kernel
theorem dX12_tickOnce_337 : decode cX12_tickOnce 337 = .ok (.aload_n 0, 1) := by decide +kernel
theorem dX12_tickOnce_338 : decode cX12_tickOnce 338 = .ok (.getfield 243, 3) := by decide +kernel
theorem dX12_tickOnce_341 : decode cX12_tickOnce 341 = .ok (.putfield 243, 3) := by decide +kernel
theorem dX12_tickOnce_344 : decode cX12_tickOnce 344 = .ok (.iconst 0, 1) := by decide +kernel
theorem dX12_tickOnce_345 : decode cX12_tickOnce 345 = .ok (.istore 4, 2) := by decide +kernel
theorem dX12_tickOnce_347 : decode cX12_tickOnce 347 = .ok (.iload 4, 2) := by decide +kernel
theorem dX12_tickOnce_349 : decode cX12_tickOnce 349 = .ok (.aload_n 0, 1) := by decide +kernel
theorem dX12_tickOnce_350 : decode cX12_tickOnce 350 = .ok (.getfield 231, 3) := by decide +kernel
theorem dX12_tickOnce_353 : decode cX12_tickOnce 353 = .ok (.if_icmp .ge 75, 3) := by decide +kernel
theorem dX12_tickOnce_356 : decode cX12_tickOnce 356 = .ok (.aload_n 0, 1) := by decide +kernel
theorem dX12_tickOnce_357 : decode cX12_tickOnce 357 = .ok (.getfield 74, 3) := by decide +kernel
theorem dX12_tickOnce_360 : decode cX12_tickOnce 360 = .ok (.iload 4, 2) := by decide +kernel
theorem dX12_tickOnce_362 : decode cX12_tickOnce 362 = .ok (.iaload, 1) := by decide +kernel
theorem dX12_tickOnce_363 : decode cX12_tickOnce 363 = .ok (.istore 5, 2) := by decide +kernel
theorem dX12_tickOnce_365 : decode cX12_tickOnce 365 = .ok (.aload_n 0, 1) := by decide +kernel
theorem dX12_tickOnce_366 : decode cX12_tickOnce 366 = .ok (.dup, 1) := by decide +kernel
theorem dX12_tickOnce_367 : decode cX12_tickOnce 367 = .ok (.getfield 259, 3) := by decide +kernel
theorem dX12_tickOnce_370 : decode cX12_tickOnce 370 = .ok (.aload_n 0, 1) := by decide +kernel
theorem dX12_tickOnce_371 : decode cX12_tickOnce 371 = .ok (.getfield 83, 3) := by decide +kernel
theorem dX12_tickOnce_374 : decode cX12_tickOnce 374 = .ok (.iload 5, 2) := by decide +kernel
theorem dX12_tickOnce_376 : decode cX12_tickOnce 376 = .ok (.iaload, 1) := by decide +kernel
theorem dX12_tickOnce_377 : decode cX12_tickOnce 377 = .ok (.i2l, 1) := by decide +kernel
theorem dX12_tickOnce_378 : decode cX12_tickOnce 378 = .ok (.aload_n 0, 1) := by decide +kernel
theorem dX12_tickOnce_379 : decode cX12_tickOnce 379 = .ok (.getfield 243, 3) := by decide +kernel
theorem dX12_tickOnce_382 : decode cX12_tickOnce 382 = .ok (.aload_n 0, 1) := by decide +kernel
theorem dX12_tickOnce_383 : decode cX12_tickOnce 383 = .ok (.getfield 77, 3) := by decide +kernel
theorem dX12_tickOnce_386 : decode cX12_tickOnce 386 = .ok (.iload 5, 2) := by decide +kernel
theorem dX12_tickOnce_388 : decode cX12_tickOnce 388 = .ok (.iaload, 1) := by decide +kernel
theorem dX12_tickOnce_389 : decode cX12_tickOnce 389 = .ok (.isub, 1) := by decide +kernel
theorem dX12_tickOnce_390 : decode cX12_tickOnce 390 = .ok (.i2l, 1) := by decide +kernel
theorem dX12_tickOnce_391 : decode cX12_tickOnce 391 = .ok (.lmul, 1) := by decide +kernel
theorem dX12_tickOnce_392 : decode cX12_tickOnce 392 = .ok (.ladd, 1) := by decide +kernel
theorem dX12_tickOnce_393 : decode cX12_tickOnce 393 = .ok (.putfield 259, 3) := by decide +kernel
theorem dX12_tickOnce_396 : decode cX12_tickOnce 396 = .ok (.aload_n 0, 1) := by decide +kernel
theorem dX12_tickOnce_397 : decode cX12_tickOnce 397 = .ok (.dup, 1) := by decide +kernel
theorem dX12_tickOnce_398 : decode cX12_tickOnce 398 = .ok (.getfield 263, 3) := by decide +kernel
theorem dX12_tickOnce_401 : decode cX12_tickOnce 401 = .ok (.aload_n 0, 1) := by decide +kernel
theorem dX12_tickOnce_402 : decode cX12_tickOnce 402 = .ok (.getfield 83, 3) := by decide +kernel
theorem dX12_tickOnce_405 : decode cX12_tickOnce 405 = .ok (.iload 5, 2) := by decide +kernel
theorem dX12_tickOnce_407 : decode cX12_tickOnce 407 = .ok (.iaload, 1) := by decide +kernel
theorem dX12_tickOnce_408 : decode cX12_tickOnce 408 = .ok (.i2l, 1) := by decide +kernel
theorem dX12_tickOnce_409 : decode cX12_tickOnce 409 = .ok (.aload_n 0, 1) := by decide +kernel
theorem dX12_tickOnce_410 : decode cX12_tickOnce 410 = .ok (.getfield 77, 3) := by decide +kernel
theorem dX12_tickOnce_413 : decode cX12_tickOnce 413 = .ok (.iload 5, 2) := by decide +kernel
theorem dX12_tickOnce_415 : decode cX12_tickOnce 415 = .ok (.iaload, 1) := by decide +kernel
theorem dX12_tickOnce_416 : decode cX12_tickOnce 416 = .ok (.i2l, 1) := by decide +kernel
theorem dX12_tickOnce_417 : decode cX12_tickOnce 417 = .ok (.lmul, 1) := by decide +kernel
theorem dX12_tickOnce_418 : decode cX12_tickOnce 418 = .ok (.ladd, 1) := by decide +kernel
theorem dX12_tickOnce_419 : decode cX12_tickOnce 419 = .ok (.putfield 263, 3) := by decide +kernel
theorem dX12_tickOnce_422 : decode cX12_tickOnce 422 = .ok (.iinc 4 1, 3) := by decide +kernel
theorem dX12_tickOnce_425 : decode cX12_tickOnce 425 = .ok (.goto (-78), 3) := by decide +kernel
theorem dX12_tickOnce_428 : decode cX12_tickOnce 428 = .ok (.aload_n 0, 1) := by decide +kernel
theorem dX12_tickOnce_429 : decode cX12_tickOnce 429 = .ok (.dup, 1) := by decide +kernel
theorem dX12_tickOnce_430 : decode cX12_tickOnce 430 = .ok (.getfield 259, 3) := by decide +kernel
theorem dX12_tickOnce_433 : decode cX12_tickOnce 433 = .ok (.aload_n 0, 1) := by decide +kernel
theorem dX12_tickOnce_434 : decode cX12_tickOnce 434 = .ok (.getfield 253, 3) := by decide +kernel
theorem dX12_tickOnce_437 : decode cX12_tickOnce 437 = .ok (.i2l, 1) := by decide +kernel
theorem dX12_tickOnce_438 : decode cX12_tickOnce 438 = .ok (.aload_n 0, 1) := by decide +kernel
theorem dX12_tickOnce_439 : decode cX12_tickOnce 439 = .ok (.getfield 243, 3) := by decide +kernel
theorem dX12_tickOnce_442 : decode cX12_tickOnce 442 = .ok (.iload_n 3, 1) := by decide +kernel
theorem dX12_tickOnce_443 : decode cX12_tickOnce 443 = .ok (.isub, 1) := by decide +kernel
theorem dX12_tickOnce_444 : decode cX12_tickOnce 444 = .ok (.i2l, 1) := by decide +kernel
theorem dX12_tickOnce_445 : decode cX12_tickOnce 445 = .ok (.lmul, 1) := by decide +kernel
theorem dX12_tickOnce_446 : decode cX12_tickOnce 446 = .ok (.aload_n 0, 1) := by decide +kernel
theorem dX12_tickOnce_447 : decode cX12_tickOnce 447 = .ok (.getfield 256, 3) := by decide +kernel
theorem dX12_tickOnce_450 : decode cX12_tickOnce 450 = .ok (.i2l, 1) := by decide +kernel
theorem dX12_tickOnce_451 : decode cX12_tickOnce 451 = .ok (.aload_n 0, 1) := by decide +kernel
theorem dX12_tickOnce_452 : decode cX12_tickOnce 452 = .ok (.getfield 129, 3) := by decide +kernel
theorem dX12_tickOnce_455 : decode cX12_tickOnce 455 = .ok (.i2l, 1) := by decide +kernel
theorem dX12_tickOnce_456 : decode cX12_tickOnce 456 = .ok (.lmul, 1) := by decide +kernel
theorem dX12_tickOnce_457 : decode cX12_tickOnce 457 = .ok (.ladd, 1) := by decide +kernel
theorem dX12_tickOnce_458 : decode cX12_tickOnce 458 = .ok (.ladd, 1) := by decide +kernel
theorem dX12_tickOnce_459 : decode cX12_tickOnce 459 = .ok (.putfield 259, 3) := by decide +kernel
theorem dX12_tickOnce_462 : decode cX12_tickOnce 462 = .ok (.aload_n 0, 1) := by decide +kernel
theorem dX12_tickOnce_463 : decode cX12_tickOnce 463 = .ok (.dup, 1) := by decide +kernel
theorem dX12_tickOnce_464 : decode cX12_tickOnce 464 = .ok (.getfield 266, 3) := by decide +kernel
theorem dX12_tickOnce_467 : decode cX12_tickOnce 467 = .ok (.aload_n 0, 1) := by decide +kernel
theorem dX12_tickOnce_468 : decode cX12_tickOnce 468 = .ok (.getfield 184, 3) := by decide +kernel
theorem dX12_tickOnce_471 : decode cX12_tickOnce 471 = .ok (.i2l, 1) := by decide +kernel
theorem dX12_tickOnce_472 : decode cX12_tickOnce 472 = .ok (.aload_n 0, 1) := by decide +kernel
theorem dX12_tickOnce_473 : decode cX12_tickOnce 473 = .ok (.getfield 243, 3) := by decide +kernel
theorem dX12_tickOnce_476 : decode cX12_tickOnce 476 = .ok (.i2l, 1) := by decide +kernel
theorem dX12_tickOnce_477 : decode cX12_tickOnce 477 = .ok (.lmul, 1) := by decide +kernel
theorem dX12_tickOnce_478 : decode cX12_tickOnce 478 = .ok (.ladd, 1) := by decide +kernel
theorem dX12_tickOnce_479 : decode cX12_tickOnce 479 = .ok (.putfield 266, 3) := by decide +kernel
theorem dX12_tickOnce_482 : decode cX12_tickOnce 482 = .ok (.iconst 0, 1) := by decide +kernel
theorem dX12_tickOnce_483 : decode cX12_tickOnce 483 = .ok (.istore 4, 2) := by decide +kernel
theorem dX12_tickOnce_485 : decode cX12_tickOnce 485 = .ok (.iload 4, 2) := by decide +kernel
theorem dX12_tickOnce_487 : decode cX12_tickOnce 487 = .ok (.aload_n 0, 1) := by decide +kernel
theorem dX12_tickOnce_488 : decode cX12_tickOnce 488 = .ok (.getfield 231, 3) := by decide +kernel
theorem dX12_tickOnce_491 : decode cX12_tickOnce 491 = .ok (.if_icmp .ge 123, 3) := by decide +kernel
theorem dX12_tickOnce_494 : decode cX12_tickOnce 494 = .ok (.iload_n 2, 1) := by decide +kernel
theorem dX12_tickOnce_495 : decode cX12_tickOnce 495 = .ok (.ifCond .eq 119, 3) := by decide +kernel
theorem dX12_tickOnce_498 : decode cX12_tickOnce 498 = .ok (.aload_n 0, 1) := by decide +kernel
theorem dX12_tickOnce_499 : decode cX12_tickOnce 499 = .ok (.getfield 74, 3) := by decide +kernel
theorem dX12_tickOnce_502 : decode cX12_tickOnce 502 = .ok (.iload 4, 2) := by decide +kernel
theorem dX12_tickOnce_504 : decode cX12_tickOnce 504 = .ok (.iaload, 1) := by decide +kernel
theorem dX12_tickOnce_505 : decode cX12_tickOnce 505 = .ok (.istore 5, 2) := by decide +kernel
theorem dX12_tickOnce_507 : decode cX12_tickOnce 507 = .ok (.aload_n 0, 1) := by decide +kernel
theorem dX12_tickOnce_508 : decode cX12_tickOnce 508 = .ok (.getfield 83, 3) := by decide +kernel
theorem dX12_tickOnce_511 : decode cX12_tickOnce 511 = .ok (.iload 5, 2) := by decide +kernel
theorem dX12_tickOnce_513 : decode cX12_tickOnce 513 = .ok (.iaload, 1) := by decide +kernel
theorem dX12_tickOnce_514 : decode cX12_tickOnce 514 = .ok (.aload_n 0, 1) := by decide +kernel
theorem dX12_tickOnce_515 : decode cX12_tickOnce 515 = .ok (.getfield 80, 3) := by decide +kernel
theorem dX12_tickOnce_518 : decode cX12_tickOnce 518 = .ok (.iload 5, 2) := by decide +kernel
theorem dX12_tickOnce_520 : decode cX12_tickOnce 520 = .ok (.iaload, 1) := by decide +kernel
theorem dX12_tickOnce_521 : decode cX12_tickOnce 521 = .ok (.if_icmp .ge 87, 3) := by decide +kernel
theorem dX12_tickOnce_524 : decode cX12_tickOnce 524 = .ok (.aload_n 0, 1) := by decide +kernel
theorem dX12_tickOnce_525 : decode cX12_tickOnce 525 = .ok (.invokevirtual 249, 3) := by decide +kernel
theorem dX12_tickOnce_528 : decode cX12_tickOnce 528 = .ok (.aload_n 0, 1) := by decide +kernel
theorem dX12_tickOnce_529 : decode cX12_tickOnce 529 = .ok (.getfield 77, 3) := by decide +kernel
theorem dX12_tickOnce_532 : decode cX12_tickOnce 532 = .ok (.iload 5, 2) := by decide +kernel
theorem dX12_tickOnce_534 : decode cX12_tickOnce 534 = .ok (.iaload, 1) := by decide +kernel
theorem dX12_tickOnce_535 : decode cX12_tickOnce 535 = .ok (.if_icmp .lt 73, 3) := by decide +kernel
theorem dX12_tickOnce_538 : decode cX12_tickOnce 538 = .ok (.aload_n 0, 1) := by decide +kernel
theorem dX12_tickOnce_539 : decode cX12_tickOnce 539 = .ok (.getfield 80, 3) := by decide +kernel
theorem dX12_tickOnce_542 : decode cX12_tickOnce 542 = .ok (.iload 5, 2) := by decide +kernel
theorem dX12_tickOnce_544 : decode cX12_tickOnce 544 = .ok (.iaload, 1) := by decide +kernel
theorem dX12_tickOnce_545 : decode cX12_tickOnce 545 = .ok (.aload_n 0, 1) := by decide +kernel
theorem dX12_tickOnce_546 : decode cX12_tickOnce 546 = .ok (.getfield 83, 3) := by decide +kernel
theorem dX12_tickOnce_549 : decode cX12_tickOnce 549 = .ok (.iload 5, 2) := by decide +kernel
theorem dX12_tickOnce_551 : decode cX12_tickOnce 551 = .ok (.iaload, 1) := by decide +kernel
theorem dX12_tickOnce_552 : decode cX12_tickOnce 552 = .ok (.isub, 1) := by decide +kernel
theorem dX12_tickOnce_553 : decode cX12_tickOnce 553 = .ok (.aload_n 0, 1) := by decide +kernel
theorem dX12_tickOnce_554 : decode cX12_tickOnce 554 = .ok (.getfield 203, 3) := by decide +kernel
theorem dX12_tickOnce_557 : decode cX12_tickOnce 557 = .ok (.invokestatic 212, 3) := by decide +kernel
theorem dX12_tickOnce_560 : decode cX12_tickOnce 560 = .ok (.istore 6, 2) := by decide +kernel
theorem dX12_tickOnce_562 : decode cX12_tickOnce 562 = .ok (.aload_n 0, 1) := by decide +kernel
theorem dX12_tickOnce_563 : decode cX12_tickOnce 563 = .ok (.dup, 1) := by decide +kernel
theorem dX12_tickOnce_564 : decode cX12_tickOnce 564 = .ok (.getfield 203, 3) := by decide +kernel
theorem dX12_tickOnce_567 : decode cX12_tickOnce 567 = .ok (.iload 6, 2) := by decide +kernel
theorem dX12_tickOnce_569 : decode cX12_tickOnce 569 = .ok (.isub, 1) := by decide +kernel
theorem dX12_tickOnce_570 : decode cX12_tickOnce 570 = .ok (.putfield 203, 3) := by decide +kernel
theorem dX12_tickOnce_573 : decode cX12_tickOnce 573 = .ok (.aload_n 0, 1) := by decide +kernel
theorem dX12_tickOnce_574 : decode cX12_tickOnce 574 = .ok (.dup, 1) := by decide +kernel
theorem dX12_tickOnce_575 : decode cX12_tickOnce 575 = .ok (.getfield 253, 3) := by decide +kernel
theorem dX12_tickOnce_578 : decode cX12_tickOnce 578 = .ok (.iload 6, 2) := by decide +kernel
theorem dX12_tickOnce_580 : decode cX12_tickOnce 580 = .ok (.isub, 1) := by decide +kernel
theorem dX12_tickOnce_581 : decode cX12_tickOnce 581 = .ok (.putfield 253, 3) := by decide +kernel
theorem dX12_tickOnce_584 : decode cX12_tickOnce 584 = .ok (.aload_n 0, 1) := by decide +kernel
theorem dX12_tickOnce_585 : decode cX12_tickOnce 585 = .ok (.getfield 31, 3) := by decide +kernel
theorem dX12_tickOnce_588 : decode cX12_tickOnce 588 = .ok (.iload 5, 2) := by decide +kernel
theorem dX12_tickOnce_590 : decode cX12_tickOnce 590 = .ok (.dup2, 1) := by decide +kernel
theorem dX12_tickOnce_591 : decode cX12_tickOnce 591 = .ok (.iaload, 1) := by decide +kernel
theorem dX12_tickOnce_592 : decode cX12_tickOnce 592 = .ok (.iload 6, 2) := by decide +kernel
theorem dX12_tickOnce_594 : decode cX12_tickOnce 594 = .ok (.iadd, 1) := by decide +kernel
theorem dX12_tickOnce_595 : decode cX12_tickOnce 595 = .ok (.iastore, 1) := by decide +kernel
theorem dX12_tickOnce_596 : decode cX12_tickOnce 596 = .ok (.aload_n 0, 1) := by decide +kernel
theorem dX12_tickOnce_597 : decode cX12_tickOnce 597 = .ok (.getfield 56, 3) := by decide +kernel
theorem dX12_tickOnce_600 : decode cX12_tickOnce 600 = .ok (.iload 5, 2) := by decide +kernel
theorem dX12_tickOnce_602 : decode cX12_tickOnce 602 = .ok (.dup2, 1) := by decide +kernel
theorem dX12_tickOnce_603 : decode cX12_tickOnce 603 = .ok (.iaload, 1) := by decide +kernel
theorem dX12_tickOnce_604 : decode cX12_tickOnce 604 = .ok (.iload 6, 2) := by decide +kernel
theorem dX12_tickOnce_606 : decode cX12_tickOnce 606 = .ok (.iadd, 1) := by decide +kernel
theorem dX12_tickOnce_607 : decode cX12_tickOnce 607 = .ok (.iastore, 1) := by decide +kernel
theorem dX12_tickOnce_608 : decode cX12_tickOnce 608 = .ok (.iinc 4 1, 3) := by decide +kernel
theorem dX12_tickOnce_611 : decode cX12_tickOnce 611 = .ok (.goto (-126), 3) := by decide +kernel
theorem dX12_tickOnce_614 : decode cX12_tickOnce 614 = .ok (.aload_n 0, 1) := by decide +kernel
theorem dX12_tickOnce_615 : decode cX12_tickOnce 615 = .ok (.iconst 1, 1) := by decide +kernel
theorem dX12_tickOnce_616 : decode cX12_tickOnce 616 = .ok (.putfield 269, 3) := by decide +kernel
theorem dX12_tickOnce_619 : decode cX12_tickOnce 619 = .ok (.return_, 1) := by decide +kernel
set_option maxRecDepth 100000 in
theorem ggX12_tick_X12_in : GoodIn wsX12_tick wsX12_in := goodIn_s _ [] [7] (by decide +kernel) rfl (by decide +kernel)
set_option maxRecDepth 20000 in
theorem gX12_tick_X12_in : GoodIn wsX12_tick (va_wsS RX12 150 yX12_in wsX12_in) := goodIn_app (goodIn_of _ (by decide +kernel)) ggX12_tick_X12_in
set_option maxRecDepth 100000 in
theorem ggX12_tick_X12_tickOnce : GoodIn wsX12_tick wsX12_tickOnce := goodIn_s _ [12, 13, 14, 15, 16, 17, 18, 19, 20, 21, 22, 23, 24, 25, 26, 27, 28, 29, 30, 31, 32, 33, 34, 35, 36, 37, 38, 39, 6, 41, 42, 43, 44, 45, 47, 48, 49, 50, 51, 53, 54, 55, 56, 57, 58, 59, 60, 62, 63, 65, 66, 67, 69, 70, 71, 72, 73, 75, 76, 77, 79, 80, 81, 82, 84, 85, 86, 87, 88, 89, 90, 91, 92, 93, 94, 95, 96, 97, 98, 99, 100, 101, 102, 103, 104, 105, 106, 107, 108, 109, 110, 111, 112, 113, 114, 115, 116, 117, 118, 119, 120, 121, 122, 123, 124, 125, 126, 127, 128, 129, 130, 131, 132, 133, 134, 135, 136, 137, 138, 139, 140, 141, 142, 143, 144, 145, 146, 147, 148, 149, 150, 151] [11, 40, 46, 52, 61, 64, 68, 74, 78, 83] (by decide +kernel) rfl (by decide +kernel)
set_option maxRecDepth 20000 in
theorem gX12_tick_X12_tickOnce : GoodIn wsX12_tick (wsV RX12 276 RX12 yX12_tickOnce wsX12_tickOnce) := goodIn_app (goodIn_of _ (by decide +kernel)) ggX12_tick_X12_tickOnce
theorem dX12_tick_0 : decode cX12_tick 0 = .ok (.iload_n 1, 1) := by decide +kernel
theorem dX12_tick_1 : decode cX12_tick 1 = .ok (.i2l, 1) := by decide +kernel
theorem dX12_tick_2 : decode cX12_tick 2 = .ok (.lconst 0, 1) := by decide +kernel
theorem dX12_tick_3 : decode cX12_tick 3 = .ok (.ldc2_w 273, 3) := by decide +kernel
theorem dX12_tick_6 : decode cX12_tick 6 = .ok (.invokestatic 150, 3) := by decide +kernel
theorem dX12_tick_9 : decode cX12_tick 9 = .ok (.ifCond .ne 6, 3) := by decide +kernel
theorem dX12_tick_12 : decode cX12_tick 12 = .ok (.bipush (-2), 2) := by decide +kernel
theorem dX12_tick_14 : decode cX12_tick 14 = .ok (.ireturn, 1) := by decide +kernel
theorem dX12_tick_15 : decode cX12_tick 15 = .ok (.aload_n 0, 1) := by decide +kernel
theorem dX12_tick_16 : decode cX12_tick 16 = .ok (.getfield 136, 3) := by decide +kernel
theorem dX12_tick_19 : decode cX12_tick 19 = .ok (.iload_n 1, 1) := by decide +kernel
theorem dX12_tick_20 : decode cX12_tick 20 = .ok (.iadd, 1) := by decide +kernel
theorem dX12_tick_21 : decode cX12_tick 21 = .ok (.ldc_w 275, 3) := by decide +kernel
theorem dX12_tick_24 : decode cX12_tick 24 = .ok (.if_icmp .le 6, 3) := by decide +kernel
theorem dX12_tick_27 : decode cX12_tick 27 = .ok (.bipush (-3), 2) := by decide +kernel
theorem dX12_tick_29 : decode cX12_tick 29 = .ok (.ireturn, 1) := by decide +kernel
theorem dX12_tick_30 : decode cX12_tick 30 = .ok (.iconst 0, 1) := by decide +kernel
theorem dX12_tick_31 : decode cX12_tick 31 = .ok (.istore_n 2, 1) := by decide +kernel
theorem dX12_tick_32 : decode cX12_tick 32 = .ok (.iload_n 2, 1) := by decide +kernel
theorem dX12_tick_33 : decode cX12_tick 33 = .ok (.iload_n 1, 1) := by decide +kernel
theorem dX12_tick_34 : decode cX12_tick 34 = .ok (.if_icmp .ge 13, 3) := by decide +kernel
theorem dX12_tick_37 : decode cX12_tick 37 = .ok (.aload_n 0, 1) := by decide +kernel
theorem dX12_tick_38 : decode cX12_tick 38 = .ok (.invokevirtual 276, 3) := by decide +kernel
theorem dX12_tick_41 : decode cX12_tick 41 = .ok (.iinc 2 1, 3) := by decide +kernel
theorem dX12_tick_44 : decode cX12_tick 44 = .ok (.goto (-12), 3) := by decide +kernel
theorem dX12_tick_47 : decode cX12_tick 47 = .ok (.aload_n 0, 1) := by decide +kernel
theorem dX12_tick_48 : decode cX12_tick 48 = .ok (.dup, 1) := by decide +kernel
theorem dX12_tick_49 : decode cX12_tick 49 = .ok (.getfield 136, 3) := by decide +kernel
theorem dX12_tick_52 : decode cX12_tick 52 = .ok (.iload_n 1, 1) := by decide +kernel
theorem dX12_tick_53 : decode cX12_tick 53 = .ok (.iadd, 1) := by decide +kernel
theorem dX12_tick_54 : decode cX12_tick 54 = .ok (.putfield 136, 3) := by decide +kernel
theorem dX12_tick_57 : decode cX12_tick 57 = .ok (.aload_n 0, 1) := by decide +kernel
theorem dX12_tick_58 : decode cX12_tick 58 = .ok (.getfield 136, 3) := by decide +kernel
theorem dX12_tick_61 : decode cX12_tick 61 = .ok (.ireturn, 1) := by decide +kernel
set_option maxRecDepth 100000 in
theorem ggX12_gauge_X12_in : GoodIn wsX12_gauge wsX12_in := goodIn_s _ [] [10] (by decide +kernel) rfl (by decide +kernel)
set_option maxRecDepth 20000 in
theorem gX12_gauge_X12_in : GoodIn wsX12_gauge (va_wsS RX12 150 yX12_in wsX12_in) := goodIn_app (goodIn_of _ (by decide +kernel)) ggX12_gauge_X12_in
theorem dX12_gauge_0 : decode cX12_gauge 0 = .ok (.iload_n 1, 1) := by decide +kernel
theorem dX12_gauge_1 : decode cX12_gauge 1 = .ok (.i2l, 1) := by decide +kernel
theorem dX12_gauge_2 : decode cX12_gauge 2 = .ok (.lconst 0, 1) := by decide +kernel
theorem dX12_gauge_3 : decode cX12_gauge 3 = .ok (.ldc2_w 148, 3) := by decide +kernel
theorem dX12_gauge_6 : decode cX12_gauge 6 = .ok (.invokestatic 150, 3) := by decide +kernel
theorem dX12_gauge_9 : decode cX12_gauge 9 = .ok (.ifCond .ne 6, 3) := by decide +kernel
theorem dX12_gauge_12 : decode cX12_gauge 12 = .ok (.bipush (-2), 2) := by decide +kernel
theorem dX12_gauge_14 : decode cX12_gauge 14 = .ok (.ireturn, 1) := by decide +kernel
theorem dX12_gauge_15 : decode cX12_gauge 15 = .ok (.aload_n 0, 1) := by decide +kernel
theorem dX12_gauge_16 : decode cX12_gauge 16 = .ok (.getfield 269, 3) := by decide +kernel
theorem dX12_gauge_19 : decode cX12_gauge 19 = .ok (.ifCond .ne 6, 3) := by decide +kernel
theorem dX12_gauge_22 : decode cX12_gauge 22 = .ok (.bipush (-3), 2) := by decide +kernel
theorem dX12_gauge_24 : decode cX12_gauge 24 = .ok (.ireturn, 1) := by decide +kernel
theorem dX12_gauge_25 : decode cX12_gauge 25 = .ok (.iload_n 1, 1) := by decide +kernel
theorem dX12_gauge_26 : decode cX12_gauge 26 = .ok (.ifCond .ne 10, 3) := by decide +kernel
theorem dX12_gauge_29 : decode cX12_gauge 29 = .ok (.aload_n 0, 1) := by decide +kernel
theorem dX12_gauge_30 : decode cX12_gauge 30 = .ok (.getfield 243, 3) := by decide +kernel
theorem dX12_gauge_33 : decode cX12_gauge 33 = .ok (.goto 31, 3) := by decide +kernel
theorem dX12_gauge_36 : decode cX12_gauge 36 = .ok (.iload_n 1, 1) := by decide +kernel
theorem dX12_gauge_37 : decode cX12_gauge 37 = .ok (.iconst 1, 1) := by decide +kernel
theorem dX12_gauge_38 : decode cX12_gauge 38 = .ok (.if_icmp .ne 10, 3) := by decide +kernel
theorem dX12_gauge_41 : decode cX12_gauge 41 = .ok (.aload_n 0, 1) := by decide +kernel
theorem dX12_gauge_42 : decode cX12_gauge 42 = .ok (.getfield 256, 3) := by decide +kernel
theorem dX12_gauge_45 : decode cX12_gauge 45 = .ok (.goto 19, 3) := by decide +kernel
theorem dX12_gauge_48 : decode cX12_gauge 48 = .ok (.iload_n 1, 1) := by decide +kernel
theorem dX12_gauge_49 : decode cX12_gauge 49 = .ok (.iconst 2, 1) := by decide +kernel
theorem dX12_gauge_50 : decode cX12_gauge 50 = .ok (.if_icmp .ne 10, 3) := by decide +kernel
theorem dX12_gauge_53 : decode cX12_gauge 53 = .ok (.aload_n 0, 1) := by decide +kernel
theorem dX12_gauge_54 : decode cX12_gauge 54 = .ok (.getfield 253, 3) := by decide +kernel
theorem dX12_gauge_57 : decode cX12_gauge 57 = .ok (.goto 7, 3) := by decide +kernel
theorem dX12_gauge_60 : decode cX12_gauge 60 = .ok (.aload_n 0, 1) := by decide +kernel
theorem dX12_gauge_61 : decode cX12_gauge 61 = .ok (.getfield 246, 3) := by decide +kernel
theorem dX12_gauge_64 : decode cX12_gauge 64 = .ok (.ireturn, 1) := by decide +kernel
set_option maxRecDepth 100000 in
theorem ggX12_mover_X12_in : GoodIn wsX12_mover wsX12_in := goodIn_s _ [] [6] (by decide +kernel) rfl (by decide +kernel)
set_option maxRecDepth 20000 in
theorem gX12_mover_X12_in : GoodIn wsX12_mover (va_wsS RX12 150 yX12_in wsX12_in) := goodIn_app (goodIn_of _ (by decide +kernel)) ggX12_mover_X12_in
theorem dX12_mover_0 : decode cX12_mover 0 = .ok (.iload_n 1, 1) := by decide +kernel
theorem dX12_mover_1 : decode cX12_mover 1 = .ok (.i2l, 1) := by decide +kernel
theorem dX12_mover_2 : decode cX12_mover 2 = .ok (.lconst 0, 1) := by decide +kernel
theorem dX12_mover_3 : decode cX12_mover 3 = .ok (.aload_n 0, 1) := by decide +kernel
theorem dX12_mover_4 : decode cX12_mover 4 = .ok (.getfield 246, 3) := by decide +kernel
theorem dX12_mover_7 : decode cX12_mover 7 = .ok (.i2l, 1) := by decide +kernel
theorem dX12_mover_8 : decode cX12_mover 8 = .ok (.lconst 1, 1) := by decide +kernel
theorem dX12_mover_9 : decode cX12_mover 9 = .ok (.lsub, 1) := by decide +kernel
theorem dX12_mover_10 : decode cX12_mover 10 = .ok (.invokestatic 150, 3) := by decide +kernel
theorem dX12_mover_13 : decode cX12_mover 13 = .ok (.ifCond .eq 12, 3) := by decide +kernel
theorem dX12_mover_16 : decode cX12_mover 16 = .ok (.aload_n 0, 1) := by decide +kernel
theorem dX12_mover_17 : decode cX12_mover 17 = .ok (.getfield 71, 3) := by decide +kernel
theorem dX12_mover_20 : decode cX12_mover 20 = .ok (.iload_n 1, 1) := by decide +kernel
theorem dX12_mover_21 : decode cX12_mover 21 = .ok (.iaload, 1) := by decide +kernel
theorem dX12_mover_22 : decode cX12_mover 22 = .ok (.goto 4, 3) := by decide +kernel
theorem dX12_mover_25 : decode cX12_mover 25 = .ok (.iconst (-1), 1) := by decide +kernel
theorem dX12_mover_26 : decode cX12_mover 26 = .ok (.ireturn, 1) := by decide +kernel
set_option maxRecDepth 100000 in
theorem ggX12_sum_X12_storePressure : GoodIn wsX12_sum wsX12_storePressure := goodIn_s _ [10, 4, 11, 16, 17, 18, 19, 20, 21, 22, 23, 24, 25, 26, 27, 28, 29, 30, 31, 32, 33, 34, 35, 36, 37, 38, 39, 40, 41, 42, 43, 44, 45, 46, 47, 48, 49, 50, 51, 52, 53, 54, 55, 56, 57, 58, 59, 60, 61, 62, 63, 64, 65, 66, 67, 68, 69, 70, 71, 72, 73, 74, 75, 76, 77, 78, 79, 80, 81] [9] (by decide +kernel) rfl (by decide +kernel)
set_option maxRecDepth 20000 in
theorem gX12_sum_X12_storePressure : GoodIn wsX12_sum (wsV RX12 249 RX12 yX12_storePressure wsX12_storePressure) := goodIn_app (goodIn_of _ (by decide +kernel)) ggX12_sum_X12_storePressure
set_option maxRecDepth 100000 in
theorem ggX12_sum_X12_lost : GoodIn wsX12_sum wsX12_lost := goodIn_s _ [15] [14] (by decide +kernel) rfl (by decide +kernel)
set_option maxRecDepth 20000 in
theorem gX12_sum_X12_lost : GoodIn wsX12_sum (va_wsS RX12 144 yX12_lost wsX12_lost) := goodIn_app (goodIn_of _ (by decide +kernel)) ggX12_sum_X12_lost
theorem dX12_sum_0 : decode cX12_sum 0 = .ok (.iload_n 1, 1) := by decide +kernel
theorem dX12_sum_1 : decode cX12_sum 1 = .ok (.tableswitch 62 0 4 #[35, 40, 45, 50, 56], 35) := by decide +kernel
theorem dX12_sum_36 : decode cX12_sum 36 = .ok (.aload_n 0, 1) := by decide +kernel
theorem dX12_sum_37 : decode cX12_sum 37 = .ok (.getfield 259, 3) := by decide +kernel
theorem dX12_sum_40 : decode cX12_sum 40 = .ok (.lreturn, 1) := by decide +kernel
theorem dX12_sum_41 : decode cX12_sum 41 = .ok (.aload_n 0, 1) := by decide +kernel
theorem dX12_sum_42 : decode cX12_sum 42 = .ok (.getfield 263, 3) := by decide +kernel
theorem dX12_sum_45 : decode cX12_sum 45 = .ok (.lreturn, 1) := by decide +kernel
theorem dX12_sum_46 : decode cX12_sum 46 = .ok (.aload_n 0, 1) := by decide +kernel
theorem dX12_sum_47 : decode cX12_sum 47 = .ok (.getfield 266, 3) := by decide +kernel
theorem dX12_sum_50 : decode cX12_sum 50 = .ok (.lreturn, 1) := by decide +kernel
theorem dX12_sum_51 : decode cX12_sum 51 = .ok (.aload_n 0, 1) := by decide +kernel
theorem dX12_sum_52 : decode cX12_sum 52 = .ok (.getfield 203, 3) := by decide +kernel
theorem dX12_sum_55 : decode cX12_sum 55 = .ok (.i2l, 1) := by decide +kernel
theorem dX12_sum_56 : decode cX12_sum 56 = .ok (.lreturn, 1) := by decide +kernel
theorem dX12_sum_57 : decode cX12_sum 57 = .ok (.aload_n 0, 1) := by decide +kernel
theorem dX12_sum_58 : decode cX12_sum 58 = .ok (.invokevirtual 249, 3) := by decide +kernel
theorem dX12_sum_61 : decode cX12_sum 61 = .ok (.i2l, 1) := by decide +kernel
theorem dX12_sum_62 : decode cX12_sum 62 = .ok (.lreturn, 1) := by decide +kernel
theorem dX12_sum_63 : decode cX12_sum 63 = .ok (.invokestatic 144, 3) := by decide +kernel
theorem dX12_sum_66 : decode cX12_sum 66 = .ok (.lreturn, 1) := by decide +kernel
theorem dX12_start_0 : decode cX12_start 0 = .ok (.aload_n 0, 1) := by decide +kernel
theorem dX12_start_1 : decode cX12_start 1 = .ok (.iconst 1, 1) := by decide +kernel
theorem dX12_start_2 : decode cX12_start 2 = .ok (.putfield 279, 3) := by decide +kernel
theorem dX12_start_5 : decode cX12_start 5 = .ok (.aload_n 0, 1) := by decide +kernel
theorem dX12_start_6 : decode cX12_start 6 = .ok (.aload_n 0, 1) := by decide +kernel
theorem dX12_start_7 : decode cX12_start 7 = .ok (.getfield 179, 3) := by decide +kernel
theorem dX12_start_10 : decode cX12_start 10 = .ok (.putfield 282, 3) := by decide +kernel
theorem dX12_start_13 : decode cX12_start 13 = .ok (.iconst 0, 1) := by decide +kernel
theorem dX12_start_14 : decode cX12_start 14 = .ok (.istore_n 1, 1) := by decide +kernel
theorem dX12_start_15 : decode cX12_start 15 = .ok (.iload_n 1, 1) := by decide +kernel
theorem dX12_start_16 : decode cX12_start 16 = .ok (.aload_n 0, 1) := by decide +kernel
theorem dX12_start_17 : decode cX12_start 17 = .ok (.getfield 179, 3) := by decide +kernel
theorem dX12_start_20 : decode cX12_start 20 = .ok (.if_icmp .ge 45, 3) := by decide +kernel
theorem dX12_start_23 : decode cX12_start 23 = .ok (.aload_n 0, 1) := by decide +kernel
theorem dX12_start_24 : decode cX12_start 24 = .ok (.getfield 86, 3) := by decide +kernel
theorem dX12_start_27 : decode cX12_start 27 = .ok (.iload_n 1, 1) := by decide +kernel
theorem dX12_start_28 : decode cX12_start 28 = .ok (.aload_n 0, 1) := by decide +kernel
theorem dX12_start_29 : decode cX12_start 29 = .ok (.getfield 31, 3) := by decide +kernel
theorem dX12_start_32 : decode cX12_start 32 = .ok (.iload_n 1, 1) := by decide +kernel
theorem dX12_start_33 : decode cX12_start 33 = .ok (.iaload, 1) := by decide +kernel
theorem dX12_start_34 : decode cX12_start 34 = .ok (.iastore, 1) := by decide +kernel
theorem dX12_start_35 : decode cX12_start 35 = .ok (.aload_n 0, 1) := by decide +kernel
theorem dX12_start_36 : decode cX12_start 36 = .ok (.getfield 89, 3) := by decide +kernel
theorem dX12_start_39 : decode cX12_start 39 = .ok (.iload_n 1, 1) := by decide +kernel
theorem dX12_start_40 : decode cX12_start 40 = .ok (.aload_n 0, 1) := by decide +kernel
theorem dX12_start_41 : decode cX12_start 41 = .ok (.getfield 49, 3) := by decide +kernel
theorem dX12_start_44 : decode cX12_start 44 = .ok (.iload_n 1, 1) := by decide +kernel
theorem dX12_start_45 : decode cX12_start 45 = .ok (.iaload, 1) := by decide +kernel
theorem dX12_start_46 : decode cX12_start 46 = .ok (.iastore, 1) := by decide +kernel
theorem dX12_start_47 : decode cX12_start 47 = .ok (.aload_n 0, 1) := by decide +kernel
theorem dX12_start_48 : decode cX12_start 48 = .ok (.getfield 92, 3) := by decide +kernel
theorem dX12_start_51 : decode cX12_start 51 = .ok (.iload_n 1, 1) := by decide +kernel
theorem dX12_start_52 : decode cX12_start 52 = .ok (.aload_n 0, 1) := by decide +kernel
theorem dX12_start_53 : decode cX12_start 53 = .ok (.getfield 52, 3) := by decide +kernel
theorem dX12_start_56 : decode cX12_start 56 = .ok (.iload_n 1, 1) := by decide +kernel
theorem dX12_start_57 : decode cX12_start 57 = .ok (.baload, 1) := by decide +kernel
theorem dX12_start_58 : decode cX12_start 58 = .ok (.bastore, 1) := by decide +kernel
theorem dX12_start_59 : decode cX12_start 59 = .ok (.iinc 1 1, 3) := by decide +kernel
theorem dX12_start_62 : decode cX12_start 62 = .ok (.goto (-47), 3) := by decide +kernel
theorem dX12_start_65 : decode cX12_start 65 = .ok (.aload_n 0, 1) := by decide +kernel
theorem dX12_start_66 : decode cX12_start 66 = .ok (.aload_n 0, 1) := by decide +kernel
theorem dX12_start_67 : decode cX12_start 67 = .ok (.getfield 203, 3) := by decide +kernel
theorem dX12_start_70 : decode cX12_start 70 = .ok (.putfield 285, 3) := by decide +kernel
theorem dX12_start_73 : decode cX12_start 73 = .ok (.aload_n 0, 1) := by decide +kernel
theorem dX12_start_74 : decode cX12_start 74 = .ok (.aload_n 0, 1) := by decide +kernel
theorem dX12_start_75 : decode cX12_start 75 = .ok (.getfield 224, 3) := by decide +kernel
theorem dX12_start_78 : decode cX12_start 78 = .ok (.putfield 288, 3) := by decide +kernel
theorem dX12_start_81 : decode cX12_start 81 = .ok (.aload_n 0, 1) := by decide +kernel
theorem dX12_start_82 : decode cX12_start 82 = .ok (.iconst 0, 1) := by decide +kernel
theorem dX12_start_83 : decode cX12_start 83 = .ok (.putfield 136, 3) := by decide +kernel
theorem dX12_start_86 : decode cX12_start 86 = .ok (.iconst 1, 1) := by decide +kernel
theorem dX12_start_87 : decode cX12_start 87 = .ok (.ireturn, 1) := by decide +kernel
set_option maxRecDepth 100000 in
theorem ggX12_reading_X12_noCylinder : GoodIn wsX12_reading wsX12_noCylinder := goodIn_s _ [11, 12, 13, 9, 21, 22, 23, 24, 25, 26, 27, 28, 29, 30, 31, 32, 33, 34, 35, 36, 37, 38, 39, 40, 41, 42, 43, 44, 45, 46, 47, 48, 49, 50, 51, 52, 53, 54, 55, 56, 57, 58, 59, 60, 61, 62, 63, 64, 65, 66, 67, 68, 69, 70, 71, 72, 73, 74, 75, 76, 77, 78, 79, 80, 81, 82, 83, 84, 85, 86] [10, 14] (by decide +kernel) rfl (by decide +kernel)
set_option maxRecDepth 20000 in
theorem gX12_reading_X12_noCylinder : GoodIn wsX12_reading (wsV RX12 189 RX12 yX12_noCylinder wsX12_noCylinder) := goodIn_app (goodIn_of _ (by decide +kernel)) ggX12_reading_X12_noCylinder
set_option maxRecDepth 100000 in
theorem ggX12_reading_X12_in : GoodIn wsX12_reading wsX12_in := goodIn_s _ [] [14] (by decide +kernel) rfl (by decide +kernel)
set_option maxRecDepth 20000 in
theorem gX12_reading_X12_in : GoodIn wsX12_reading (va_wsS RX12 150 yX12_in wsX12_in) := goodIn_app (goodIn_of _ (by decide +kernel)) ggX12_reading_X12_in
set_option maxRecDepth 100000 in
theorem ggX12_reading_X12_room : GoodIn wsX12_reading wsX12_room := goodIn_s _ [19, 20, 21, 22, 23, 24, 25, 26, 27, 28, 29, 30, 31, 32, 33, 34, 35, 36, 37, 38, 39, 40, 41, 42, 43, 44, 45, 46, 47, 48, 49, 50, 51, 52, 53, 54, 55, 56, 57, 58, 59, 60, 61, 62, 63, 64, 65, 66, 67, 68, 69, 70, 71, 72, 73, 74, 75, 76, 77, 78, 79, 80, 81, 82, 83, 84, 85, 86] [18] (by decide +kernel) rfl (by decide +kernel)
set_option maxRecDepth 20000 in
theorem gX12_reading_X12_room : GoodIn wsX12_reading (wsV RX12 198 RX12 yX12_room wsX12_room) := goodIn_app (goodIn_of _ (by decide +kernel)) ggX12_reading_X12_room
theorem dX12_reading_0 : decode cX12_reading 0 = .ok (.aload_n 0, 1) := by decide +kernel
theorem dX12_reading_1 : decode cX12_reading 1 = .ok (.iload_n 2, 1) := by decide +kernel
theorem dX12_reading_2 : decode cX12_reading 2 = .ok (.invokevirtual 189, 3) := by decide +kernel
theorem dX12_reading_5 : decode cX12_reading 5 = .ok (.ifCond .eq 5, 3) := by decide +kernel
theorem dX12_reading_8 : decode cX12_reading 8 = .ok (.iconst (-1), 1) := by decide +kernel
theorem dX12_reading_9 : decode cX12_reading 9 = .ok (.ireturn, 1) := by decide +kernel
theorem dX12_reading_10 : decode cX12_reading 10 = .ok (.iload_n 1, 1) := by decide +kernel
theorem dX12_reading_11 : decode cX12_reading 11 = .ok (.i2l, 1) := by decide +kernel
theorem dX12_reading_12 : decode cX12_reading 12 = .ok (.lconst 0, 1) := by decide +kernel
theorem dX12_reading_13 : decode cX12_reading 13 = .ok (.ldc2_w 273, 3) := by decide +kernel
theorem dX12_reading_16 : decode cX12_reading 16 = .ok (.invokestatic 150, 3) := by decide +kernel
theorem dX12_reading_19 : decode cX12_reading 19 = .ok (.ifCond .eq 18, 3) := by decide +kernel
theorem dX12_reading_22 : decode cX12_reading 22 = .ok (.iload_n 3, 1) := by decide +kernel
theorem dX12_reading_23 : decode cX12_reading 23 = .ok (.i2l, 1) := by decide +kernel
theorem dX12_reading_24 : decode cX12_reading 24 = .ok (.lconst 0, 1) := by decide +kernel
theorem dX12_reading_25 : decode cX12_reading 25 = .ok (.aload_n 0, 1) := by decide +kernel
theorem dX12_reading_26 : decode cX12_reading 26 = .ok (.iload_n 2, 1) := by decide +kernel
theorem dX12_reading_27 : decode cX12_reading 27 = .ok (.invokevirtual 198, 3) := by decide +kernel
theorem dX12_reading_30 : decode cX12_reading 30 = .ok (.i2l, 1) := by decide +kernel
theorem dX12_reading_31 : decode cX12_reading 31 = .ok (.invokestatic 150, 3) := by decide +kernel
theorem dX12_reading_34 : decode cX12_reading 34 = .ok (.ifCond .ne 6, 3) := by decide +kernel
theorem dX12_reading_37 : decode cX12_reading 37 = .ok (.bipush (-2), 2) := by decide +kernel
theorem dX12_reading_39 : decode cX12_reading 39 = .ok (.ireturn, 1) := by decide +kernel
theorem dX12_reading_40 : decode cX12_reading 40 = .ok (.aload_n 0, 1) := by decide +kernel
theorem dX12_reading_41 : decode cX12_reading 41 = .ok (.getfield 291, 3) := by decide +kernel
theorem dX12_reading_44 : decode cX12_reading 44 = .ok (.bipush 20, 2) := by decide +kernel
theorem dX12_reading_46 : decode cX12_reading 46 = .ok (.if_icmp .ne 6, 3) := by decide +kernel
theorem dX12_reading_49 : decode cX12_reading 49 = .ok (.bipush (-4), 2) := by decide +kernel
theorem dX12_reading_51 : decode cX12_reading 51 = .ok (.ireturn, 1) := by decide +kernel
theorem dX12_reading_52 : decode cX12_reading 52 = .ok (.aload_n 0, 1) := by decide +kernel
theorem dX12_reading_53 : decode cX12_reading 53 = .ok (.getfield 95, 3) := by decide +kernel
theorem dX12_reading_56 : decode cX12_reading 56 = .ok (.aload_n 0, 1) := by decide +kernel
theorem dX12_reading_57 : decode cX12_reading 57 = .ok (.getfield 291, 3) := by decide +kernel
theorem dX12_reading_60 : decode cX12_reading 60 = .ok (.iload_n 1, 1) := by decide +kernel
theorem dX12_reading_61 : decode cX12_reading 61 = .ok (.iastore, 1) := by decide +kernel
theorem dX12_reading_62 : decode cX12_reading 62 = .ok (.aload_n 0, 1) := by decide +kernel
theorem dX12_reading_63 : decode cX12_reading 63 = .ok (.getfield 98, 3) := by decide +kernel
theorem dX12_reading_66 : decode cX12_reading 66 = .ok (.aload_n 0, 1) := by decide +kernel
theorem dX12_reading_67 : decode cX12_reading 67 = .ok (.getfield 291, 3) := by decide +kernel
theorem dX12_reading_70 : decode cX12_reading 70 = .ok (.iload_n 2, 1) := by decide +kernel
theorem dX12_reading_71 : decode cX12_reading 71 = .ok (.iastore, 1) := by decide +kernel
theorem dX12_reading_72 : decode cX12_reading 72 = .ok (.aload_n 0, 1) := by decide +kernel
theorem dX12_reading_73 : decode cX12_reading 73 = .ok (.getfield 101, 3) := by decide +kernel
theorem dX12_reading_76 : decode cX12_reading 76 = .ok (.aload_n 0, 1) := by decide +kernel
theorem dX12_reading_77 : decode cX12_reading 77 = .ok (.getfield 291, 3) := by decide +kernel
theorem dX12_reading_80 : decode cX12_reading 80 = .ok (.iload_n 3, 1) := by decide +kernel
theorem dX12_reading_81 : decode cX12_reading 81 = .ok (.iastore, 1) := by decide +kernel
theorem dX12_reading_82 : decode cX12_reading 82 = .ok (.aload_n 0, 1) := by decide +kernel
theorem dX12_reading_83 : decode cX12_reading 83 = .ok (.dup, 1) := by decide +kernel
theorem dX12_reading_84 : decode cX12_reading 84 = .ok (.getfield 291, 3) := by decide +kernel
theorem dX12_reading_87 : decode cX12_reading 87 = .ok (.iconst 1, 1) := by decide +kernel
theorem dX12_reading_88 : decode cX12_reading 88 = .ok (.iadd, 1) := by decide +kernel
theorem dX12_reading_89 : decode cX12_reading 89 = .ok (.putfield 291, 3) := by decide +kernel
theorem dX12_reading_92 : decode cX12_reading 92 = .ok (.aload_n 0, 1) := by decide +kernel
theorem dX12_reading_93 : decode cX12_reading 93 = .ok (.getfield 291, 3) := by decide +kernel
theorem dX12_reading_96 : decode cX12_reading 96 = .ok (.ireturn, 1) := by decide +kernel
theorem dX12_forget_0 : decode cX12_forget 0 = .ok (.aload_n 0, 1) := by decide +kernel
theorem dX12_forget_1 : decode cX12_forget 1 = .ok (.getfield 291, 3) := by decide +kernel
theorem dX12_forget_4 : decode cX12_forget 4 = .ok (.istore_n 1, 1) := by decide +kernel
theorem dX12_forget_5 : decode cX12_forget 5 = .ok (.aload_n 0, 1) := by decide +kernel
theorem dX12_forget_6 : decode cX12_forget 6 = .ok (.iconst 0, 1) := by decide +kernel
theorem dX12_forget_7 : decode cX12_forget 7 = .ok (.putfield 291, 3) := by decide +kernel
theorem dX12_forget_10 : decode cX12_forget 10 = .ok (.iload_n 1, 1) := by decide +kernel
theorem dX12_forget_11 : decode cX12_forget 11 = .ok (.ireturn, 1) := by decide +kernel
theorem dX12_putAside_0 : decode cX12_putAside 0 = .ok (.iconst 0, 1) := by decide +kernel
theorem dX12_putAside_1 : decode cX12_putAside 1 = .ok (.istore_n 1, 1) := by decide +kernel
theorem dX12_putAside_2 : decode cX12_putAside 2 = .ok (.iload_n 1, 1) := by decide +kernel
theorem dX12_putAside_3 : decode cX12_putAside 3 = .ok (.bipush 6, 2) := by decide +kernel
theorem dX12_putAside_5 : decode cX12_putAside 5 = .ok (.if_icmp .ge 81, 3) := by decide +kernel
theorem dX12_putAside_8 : decode cX12_putAside 8 = .ok (.aload_n 0, 1) := by decide +kernel
theorem dX12_putAside_9 : decode cX12_putAside 9 = .ok (.getfield 104, 3) := by decide +kernel
theorem dX12_putAside_12 : decode cX12_putAside 12 = .ok (.iload_n 1, 1) := by decide +kernel
theorem dX12_putAside_13 : decode cX12_putAside 13 = .ok (.aload_n 0, 1) := by decide +kernel
theorem dX12_putAside_14 : decode cX12_putAside 14 = .ok (.getfield 31, 3) := by decide +kernel
theorem dX12_putAside_17 : decode cX12_putAside 17 = .ok (.iload_n 1, 1) := by decide +kernel
theorem dX12_putAside_18 : decode cX12_putAside 18 = .ok (.iaload, 1) := by decide +kernel
theorem dX12_putAside_19 : decode cX12_putAside 19 = .ok (.iastore, 1) := by decide +kernel
theorem dX12_putAside_20 : decode cX12_putAside 20 = .ok (.aload_n 0, 1) := by decide +kernel
theorem dX12_putAside_21 : decode cX12_putAside 21 = .ok (.getfield 107, 3) := by decide +kernel
theorem dX12_putAside_24 : decode cX12_putAside 24 = .ok (.iload_n 1, 1) := by decide +kernel
theorem dX12_putAside_25 : decode cX12_putAside 25 = .ok (.aload_n 0, 1) := by decide +kernel
theorem dX12_putAside_26 : decode cX12_putAside 26 = .ok (.getfield 49, 3) := by decide +kernel
theorem dX12_putAside_29 : decode cX12_putAside 29 = .ok (.iload_n 1, 1) := by decide +kernel
theorem dX12_putAside_30 : decode cX12_putAside 30 = .ok (.iaload, 1) := by decide +kernel
theorem dX12_putAside_31 : decode cX12_putAside 31 = .ok (.iastore, 1) := by decide +kernel
theorem dX12_putAside_32 : decode cX12_putAside 32 = .ok (.aload_n 0, 1) := by decide +kernel
theorem dX12_putAside_33 : decode cX12_putAside 33 = .ok (.getfield 110, 3) := by decide +kernel
theorem dX12_putAside_36 : decode cX12_putAside 36 = .ok (.iload_n 1, 1) := by decide +kernel
theorem dX12_putAside_37 : decode cX12_putAside 37 = .ok (.aload_n 0, 1) := by decide +kernel
theorem dX12_putAside_38 : decode cX12_putAside 38 = .ok (.getfield 46, 3) := by decide +kernel
theorem dX12_putAside_41 : decode cX12_putAside 41 = .ok (.iload_n 1, 1) := by decide +kernel
theorem dX12_putAside_42 : decode cX12_putAside 42 = .ok (.iaload, 1) := by decide +kernel
theorem dX12_putAside_43 : decode cX12_putAside 43 = .ok (.iastore, 1) := by decide +kernel
theorem dX12_putAside_44 : decode cX12_putAside 44 = .ok (.aload_n 0, 1) := by decide +kernel
theorem dX12_putAside_45 : decode cX12_putAside 45 = .ok (.getfield 113, 3) := by decide +kernel
theorem dX12_putAside_48 : decode cX12_putAside 48 = .ok (.iload_n 1, 1) := by decide +kernel
theorem dX12_putAside_49 : decode cX12_putAside 49 = .ok (.aload_n 0, 1) := by decide +kernel
theorem dX12_putAside_50 : decode cX12_putAside 50 = .ok (.getfield 56, 3) := by decide +kernel
theorem dX12_putAside_53 : decode cX12_putAside 53 = .ok (.iload_n 1, 1) := by decide +kernel
theorem dX12_putAside_54 : decode cX12_putAside 54 = .ok (.iaload, 1) := by decide +kernel
theorem dX12_putAside_55 : decode cX12_putAside 55 = .ok (.iastore, 1) := by decide +kernel
theorem dX12_putAside_56 : decode cX12_putAside 56 = .ok (.aload_n 0, 1) := by decide +kernel
theorem dX12_putAside_57 : decode cX12_putAside 57 = .ok (.getfield 116, 3) := by decide +kernel
theorem dX12_putAside_60 : decode cX12_putAside 60 = .ok (.iload_n 1, 1) := by decide +kernel
theorem dX12_putAside_61 : decode cX12_putAside 61 = .ok (.aload_n 0, 1) := by decide +kernel
theorem dX12_putAside_62 : decode cX12_putAside 62 = .ok (.getfield 71, 3) := by decide +kernel
theorem dX12_putAside_65 : decode cX12_putAside 65 = .ok (.iload_n 1, 1) := by decide +kernel
theorem dX12_putAside_66 : decode cX12_putAside 66 = .ok (.iaload, 1) := by decide +kernel
theorem dX12_putAside_67 : decode cX12_putAside 67 = .ok (.iastore, 1) := by decide +kernel
theorem dX12_putAside_68 : decode cX12_putAside 68 = .ok (.aload_n 0, 1) := by decide +kernel
theorem dX12_putAside_69 : decode cX12_putAside 69 = .ok (.getfield 119, 3) := by decide +kernel
theorem dX12_putAside_72 : decode cX12_putAside 72 = .ok (.iload_n 1, 1) := by decide +kernel
theorem dX12_putAside_73 : decode cX12_putAside 73 = .ok (.aload_n 0, 1) := by decide +kernel
theorem dX12_putAside_74 : decode cX12_putAside 74 = .ok (.getfield 52, 3) := by decide +kernel
theorem dX12_putAside_77 : decode cX12_putAside 77 = .ok (.iload_n 1, 1) := by decide +kernel
theorem dX12_putAside_78 : decode cX12_putAside 78 = .ok (.baload, 1) := by decide +kernel
theorem dX12_putAside_79 : decode cX12_putAside 79 = .ok (.bastore, 1) := by decide +kernel
theorem dX12_putAside_80 : decode cX12_putAside 80 = .ok (.iinc 1 1, 3) := by decide +kernel
theorem dX12_putAside_83 : decode cX12_putAside 83 = .ok (.goto (-81), 3) := by decide +kernel
theorem dX12_putAside_86 : decode cX12_putAside 86 = .ok (.aload_n 0, 1) := by decide +kernel
theorem dX12_putAside_87 : decode cX12_putAside 87 = .ok (.getfield 122, 3) := by decide +kernel
theorem dX12_putAside_90 : decode cX12_putAside 90 = .ok (.iconst 0, 1) := by decide +kernel
theorem dX12_putAside_91 : decode cX12_putAside 91 = .ok (.aload_n 0, 1) := by decide +kernel
theorem dX12_putAside_92 : decode cX12_putAside 92 = .ok (.getfield 203, 3) := by decide +kernel
theorem dX12_putAside_95 : decode cX12_putAside 95 = .ok (.iastore, 1) := by decide +kernel
theorem dX12_putAside_96 : decode cX12_putAside 96 = .ok (.aload_n 0, 1) := by decide +kernel
theorem dX12_putAside_97 : decode cX12_putAside 97 = .ok (.getfield 122, 3) := by decide +kernel
theorem dX12_putAside_100 : decode cX12_putAside 100 = .ok (.iconst 1, 1) := by decide +kernel
theorem dX12_putAside_101 : decode cX12_putAside 101 = .ok (.aload_n 0, 1) := by decide +kernel
theorem dX12_putAside_102 : decode cX12_putAside 102 = .ok (.getfield 224, 3) := by decide +kernel
theorem dX12_putAside_105 : decode cX12_putAside 105 = .ok (.iastore, 1) := by decide +kernel
theorem dX12_putAside_106 : decode cX12_putAside 106 = .ok (.aload_n 0, 1) := by decide +kernel
theorem dX12_putAside_107 : decode cX12_putAside 107 = .ok (.getfield 122, 3) := by decide +kernel
theorem dX12_putAside_110 : decode cX12_putAside 110 = .ok (.iconst 2, 1) := by decide +kernel
theorem dX12_putAside_111 : decode cX12_putAside 111 = .ok (.aload_n 0, 1) := by decide +kernel
theorem dX12_putAside_112 : decode cX12_putAside 112 = .ok (.getfield 243, 3) := by decide +kernel
theorem dX12_putAside_115 : decode cX12_putAside 115 = .ok (.iastore, 1) := by decide +kernel
theorem dX12_putAside_116 : decode cX12_putAside 116 = .ok (.aload_n 0, 1) := by decide +kernel
theorem dX12_putAside_117 : decode cX12_putAside 117 = .ok (.getfield 122, 3) := by decide +kernel
theorem dX12_putAside_120 : decode cX12_putAside 120 = .ok (.iconst 3, 1) := by decide +kernel
theorem dX12_putAside_121 : decode cX12_putAside 121 = .ok (.aload_n 0, 1) := by decide +kernel
theorem dX12_putAside_122 : decode cX12_putAside 122 = .ok (.getfield 256, 3) := by decide +kernel
theorem dX12_putAside_125 : decode cX12_putAside 125 = .ok (.iastore, 1) := by decide +kernel
theorem dX12_putAside_126 : decode cX12_putAside 126 = .ok (.aload_n 0, 1) := by decide +kernel
theorem dX12_putAside_127 : decode cX12_putAside 127 = .ok (.getfield 122, 3) := by decide +kernel
theorem dX12_putAside_130 : decode cX12_putAside 130 = .ok (.iconst 4, 1) := by decide +kernel
theorem dX12_putAside_131 : decode cX12_putAside 131 = .ok (.aload_n 0, 1) := by decide +kernel
theorem dX12_putAside_132 : decode cX12_putAside 132 = .ok (.getfield 253, 3) := by decide +kernel
theorem dX12_putAside_135 : decode cX12_putAside 135 = .ok (.iastore, 1) := by decide +kernel
theorem dX12_putAside_136 : decode cX12_putAside 136 = .ok (.aload_n 0, 1) := by decide +kernel
theorem dX12_putAside_137 : decode cX12_putAside 137 = .ok (.getfield 122, 3) := by decide +kernel
theorem dX12_putAside_140 : decode cX12_putAside 140 = .ok (.iconst 5, 1) := by decide +kernel
theorem dX12_putAside_141 : decode cX12_putAside 141 = .ok (.aload_n 0, 1) := by decide +kernel
theorem dX12_putAside_142 : decode cX12_putAside 142 = .ok (.getfield 246, 3) := by decide +kernel
theorem dX12_putAside_145 : decode cX12_putAside 145 = .ok (.iastore, 1) := by decide +kernel
theorem dX12_putAside_146 : decode cX12_putAside 146 = .ok (.aload_n 0, 1) := by decide +kernel
theorem dX12_putAside_147 : decode cX12_putAside 147 = .ok (.getfield 125, 3) := by decide +kernel
theorem dX12_putAside_150 : decode cX12_putAside 150 = .ok (.iconst 0, 1) := by decide +kernel
theorem dX12_putAside_151 : decode cX12_putAside 151 = .ok (.aload_n 0, 1) := by decide +kernel
theorem dX12_putAside_152 : decode cX12_putAside 152 = .ok (.getfield 259, 3) := by decide +kernel
theorem dX12_putAside_155 : decode cX12_putAside 155 = .ok (.lastore, 1) := by decide +kernel
theorem dX12_putAside_156 : decode cX12_putAside 156 = .ok (.aload_n 0, 1) := by decide +kernel
theorem dX12_putAside_157 : decode cX12_putAside 157 = .ok (.getfield 125, 3) := by decide +kernel
theorem dX12_putAside_160 : decode cX12_putAside 160 = .ok (.iconst 1, 1) := by decide +kernel
theorem dX12_putAside_161 : decode cX12_putAside 161 = .ok (.aload_n 0, 1) := by decide +kernel
theorem dX12_putAside_162 : decode cX12_putAside 162 = .ok (.getfield 263, 3) := by decide +kernel
theorem dX12_putAside_165 : decode cX12_putAside 165 = .ok (.lastore, 1) := by decide +kernel
theorem dX12_putAside_166 : decode cX12_putAside 166 = .ok (.aload_n 0, 1) := by decide +kernel
theorem dX12_putAside_167 : decode cX12_putAside 167 = .ok (.getfield 125, 3) := by decide +kernel
theorem dX12_putAside_170 : decode cX12_putAside 170 = .ok (.iconst 2, 1) := by decide +kernel
theorem dX12_putAside_171 : decode cX12_putAside 171 = .ok (.aload_n 0, 1) := by decide +kernel
theorem dX12_putAside_172 : decode cX12_putAside 172 = .ok (.getfield 266, 3) := by decide +kernel
theorem dX12_putAside_175 : decode cX12_putAside 175 = .ok (.lastore, 1) := by decide +kernel
theorem dX12_putAside_176 : decode cX12_putAside 176 = .ok (.aload_n 0, 1) := by decide +kernel
theorem dX12_putAside_177 : decode cX12_putAside 177 = .ok (.aload_n 0, 1) := by decide +kernel
theorem dX12_putAside_178 : decode cX12_putAside 178 = .ok (.getfield 269, 3) := by decide +kernel
theorem dX12_putAside_181 : decode cX12_putAside 181 = .ok (.putfield 294, 3) := by decide +kernel
theorem dX12_putAside_184 : decode cX12_putAside 184 = .ok (.return_, 1) := by decide +kernel
theorem dX12_putBack_0 : decode cX12_putBack 0 = .ok (.iconst 0, 1) := by decide +kernel
theorem dX12_putBack_1 : decode cX12_putBack 1 = .ok (.istore_n 1, 1) := by decide +kernel
theorem dX12_putBack_2 : decode cX12_putBack 2 = .ok (.iload_n 1, 1) := by decide +kernel
theorem dX12_putBack_3 : decode cX12_putBack 3 = .ok (.bipush 6, 2) := by decide +kernel
theorem dX12_putBack_5 : decode cX12_putBack 5 = .ok (.if_icmp .ge 81, 3) := by decide +kernel
theorem dX12_putBack_8 : decode cX12_putBack 8 = .ok (.aload_n 0, 1) := by decide +kernel
theorem dX12_putBack_9 : decode cX12_putBack 9 = .ok (.getfield 31, 3) := by decide +kernel
theorem dX12_putBack_12 : decode cX12_putBack 12 = .ok (.iload_n 1, 1) := by decide +kernel
theorem dX12_putBack_13 : decode cX12_putBack 13 = .ok (.aload_n 0, 1) := by decide +kernel
theorem dX12_putBack_14 : decode cX12_putBack 14 = .ok (.getfield 104, 3) := by decide +kernel
theorem dX12_putBack_17 : decode cX12_putBack 17 = .ok (.iload_n 1, 1) := by decide +kernel
theorem dX12_putBack_18 : decode cX12_putBack 18 = .ok (.iaload, 1) := by decide +kernel
theorem dX12_putBack_19 : decode cX12_putBack 19 = .ok (.iastore, 1) := by decide +kernel
theorem dX12_putBack_20 : decode cX12_putBack 20 = .ok (.aload_n 0, 1) := by decide +kernel
theorem dX12_putBack_21 : decode cX12_putBack 21 = .ok (.getfield 49, 3) := by decide +kernel
theorem dX12_putBack_24 : decode cX12_putBack 24 = .ok (.iload_n 1, 1) := by decide +kernel
theorem dX12_putBack_25 : decode cX12_putBack 25 = .ok (.aload_n 0, 1) := by decide +kernel
theorem dX12_putBack_26 : decode cX12_putBack 26 = .ok (.getfield 107, 3) := by decide +kernel
theorem dX12_putBack_29 : decode cX12_putBack 29 = .ok (.iload_n 1, 1) := by decide +kernel
theorem dX12_putBack_30 : decode cX12_putBack 30 = .ok (.iaload, 1) := by decide +kernel
theorem dX12_putBack_31 : decode cX12_putBack 31 = .ok (.iastore, 1) := by decide +kernel
theorem dX12_putBack_32 : decode cX12_putBack 32 = .ok (.aload_n 0, 1) := by decide +kernel
theorem dX12_putBack_33 : decode cX12_putBack 33 = .ok (.getfield 46, 3) := by decide +kernel
theorem dX12_putBack_36 : decode cX12_putBack 36 = .ok (.iload_n 1, 1) := by decide +kernel
theorem dX12_putBack_37 : decode cX12_putBack 37 = .ok (.aload_n 0, 1) := by decide +kernel
theorem dX12_putBack_38 : decode cX12_putBack 38 = .ok (.getfield 110, 3) := by decide +kernel
theorem dX12_putBack_41 : decode cX12_putBack 41 = .ok (.iload_n 1, 1) := by decide +kernel
theorem dX12_putBack_42 : decode cX12_putBack 42 = .ok (.iaload, 1) := by decide +kernel
theorem dX12_putBack_43 : decode cX12_putBack 43 = .ok (.iastore, 1) := by decide +kernel
theorem dX12_putBack_44 : decode cX12_putBack 44 = .ok (.aload_n 0, 1) := by decide +kernel
theorem dX12_putBack_45 : decode cX12_putBack 45 = .ok (.getfield 56, 3) := by decide +kernel
theorem dX12_putBack_48 : decode cX12_putBack 48 = .ok (.iload_n 1, 1) := by decide +kernel
theorem dX12_putBack_49 : decode cX12_putBack 49 = .ok (.aload_n 0, 1) := by decide +kernel
theorem dX12_putBack_50 : decode cX12_putBack 50 = .ok (.getfield 113, 3) := by decide +kernel
theorem dX12_putBack_53 : decode cX12_putBack 53 = .ok (.iload_n 1, 1) := by decide +kernel
theorem dX12_putBack_54 : decode cX12_putBack 54 = .ok (.iaload, 1) := by decide +kernel
theorem dX12_putBack_55 : decode cX12_putBack 55 = .ok (.iastore, 1) := by decide +kernel
theorem dX12_putBack_56 : decode cX12_putBack 56 = .ok (.aload_n 0, 1) := by decide +kernel
theorem dX12_putBack_57 : decode cX12_putBack 57 = .ok (.getfield 71, 3) := by decide +kernel
theorem dX12_putBack_60 : decode cX12_putBack 60 = .ok (.iload_n 1, 1) := by decide +kernel
theorem dX12_putBack_61 : decode cX12_putBack 61 = .ok (.aload_n 0, 1) := by decide +kernel
theorem dX12_putBack_62 : decode cX12_putBack 62 = .ok (.getfield 116, 3) := by decide +kernel
theorem dX12_putBack_65 : decode cX12_putBack 65 = .ok (.iload_n 1, 1) := by decide +kernel
theorem dX12_putBack_66 : decode cX12_putBack 66 = .ok (.iaload, 1) := by decide +kernel
theorem dX12_putBack_67 : decode cX12_putBack 67 = .ok (.iastore, 1) := by decide +kernel
theorem dX12_putBack_68 : decode cX12_putBack 68 = .ok (.aload_n 0, 1) := by decide +kernel
theorem dX12_putBack_69 : decode cX12_putBack 69 = .ok (.getfield 52, 3) := by decide +kernel
theorem dX12_putBack_72 : decode cX12_putBack 72 = .ok (.iload_n 1, 1) := by decide +kernel
theorem dX12_putBack_73 : decode cX12_putBack 73 = .ok (.aload_n 0, 1) := by decide +kernel
theorem dX12_putBack_74 : decode cX12_putBack 74 = .ok (.getfield 119, 3) := by decide +kernel
theorem dX12_putBack_77 : decode cX12_putBack 77 = .ok (.iload_n 1, 1) := by decide +kernel
theorem dX12_putBack_78 : decode cX12_putBack 78 = .ok (.baload, 1) := by decide +kernel
theorem dX12_putBack_79 : decode cX12_putBack 79 = .ok (.bastore, 1) := by decide +kernel
theorem dX12_putBack_80 : decode cX12_putBack 80 = .ok (.iinc 1 1, 3) := by decide +kernel
theorem dX12_putBack_83 : decode cX12_putBack 83 = .ok (.goto (-81), 3) := by decide +kernel
theorem dX12_putBack_86 : decode cX12_putBack 86 = .ok (.aload_n 0, 1) := by decide +kernel
theorem dX12_putBack_87 : decode cX12_putBack 87 = .ok (.aload_n 0, 1) := by decide +kernel
theorem dX12_putBack_88 : decode cX12_putBack 88 = .ok (.getfield 122, 3) := by decide +kernel
theorem dX12_putBack_91 : decode cX12_putBack 91 = .ok (.iconst 0, 1) := by decide +kernel
theorem dX12_putBack_92 : decode cX12_putBack 92 = .ok (.iaload, 1) := by decide +kernel
theorem dX12_putBack_93 : decode cX12_putBack 93 = .ok (.putfield 203, 3) := by decide +kernel
theorem dX12_putBack_96 : decode cX12_putBack 96 = .ok (.aload_n 0, 1) := by decide +kernel
theorem dX12_putBack_97 : decode cX12_putBack 97 = .ok (.aload_n 0, 1) := by decide +kernel
theorem dX12_putBack_98 : decode cX12_putBack 98 = .ok (.getfield 122, 3) := by decide +kernel
theorem dX12_putBack_101 : decode cX12_putBack 101 = .ok (.iconst 1, 1) := by decide +kernel
theorem dX12_putBack_102 : decode cX12_putBack 102 = .ok (.iaload, 1) := by decide +kernel
theorem dX12_putBack_103 : decode cX12_putBack 103 = .ok (.putfield 224, 3) := by decide +kernel
theorem dX12_putBack_106 : decode cX12_putBack 106 = .ok (.aload_n 0, 1) := by decide +kernel
theorem dX12_putBack_107 : decode cX12_putBack 107 = .ok (.aload_n 0, 1) := by decide +kernel
theorem dX12_putBack_108 : decode cX12_putBack 108 = .ok (.getfield 122, 3) := by decide +kernel
theorem dX12_putBack_111 : decode cX12_putBack 111 = .ok (.iconst 2, 1) := by decide +kernel
theorem dX12_putBack_112 : decode cX12_putBack 112 = .ok (.iaload, 1) := by decide +kernel
theorem dX12_putBack_113 : decode cX12_putBack 113 = .ok (.putfield 243, 3) := by decide +kernel
theorem dX12_putBack_116 : decode cX12_putBack 116 = .ok (.aload_n 0, 1) := by decide +kernel
theorem dX12_putBack_117 : decode cX12_putBack 117 = .ok (.aload_n 0, 1) := by decide +kernel
theorem dX12_putBack_118 : decode cX12_putBack 118 = .ok (.getfield 122, 3) := by decide +kernel
theorem dX12_putBack_121 : decode cX12_putBack 121 = .ok (.iconst 3, 1) := by decide +kernel
theorem dX12_putBack_122 : decode cX12_putBack 122 = .ok (.iaload, 1) := by decide +kernel
theorem dX12_putBack_123 : decode cX12_putBack 123 = .ok (.putfield 256, 3) := by decide +kernel
theorem dX12_putBack_126 : decode cX12_putBack 126 = .ok (.aload_n 0, 1) := by decide +kernel
theorem dX12_putBack_127 : decode cX12_putBack 127 = .ok (.aload_n 0, 1) := by decide +kernel
theorem dX12_putBack_128 : decode cX12_putBack 128 = .ok (.getfield 122, 3) := by decide +kernel
theorem dX12_putBack_131 : decode cX12_putBack 131 = .ok (.iconst 4, 1) := by decide +kernel
theorem dX12_putBack_132 : decode cX12_putBack 132 = .ok (.iaload, 1) := by decide +kernel
theorem dX12_putBack_133 : decode cX12_putBack 133 = .ok (.putfield 253, 3) := by decide +kernel
theorem dX12_putBack_136 : decode cX12_putBack 136 = .ok (.aload_n 0, 1) := by decide +kernel
theorem dX12_putBack_137 : decode cX12_putBack 137 = .ok (.aload_n 0, 1) := by decide +kernel
theorem dX12_putBack_138 : decode cX12_putBack 138 = .ok (.getfield 122, 3) := by decide +kernel
theorem dX12_putBack_141 : decode cX12_putBack 141 = .ok (.iconst 5, 1) := by decide +kernel
theorem dX12_putBack_142 : decode cX12_putBack 142 = .ok (.iaload, 1) := by decide +kernel
theorem dX12_putBack_143 : decode cX12_putBack 143 = .ok (.putfield 246, 3) := by decide +kernel
theorem dX12_putBack_146 : decode cX12_putBack 146 = .ok (.aload_n 0, 1) := by decide +kernel
theorem dX12_putBack_147 : decode cX12_putBack 147 = .ok (.aload_n 0, 1) := by decide +kernel
theorem dX12_putBack_148 : decode cX12_putBack 148 = .ok (.getfield 125, 3) := by decide +kernel
theorem dX12_putBack_151 : decode cX12_putBack 151 = .ok (.iconst 0, 1) := by decide +kernel
theorem dX12_putBack_152 : decode cX12_putBack 152 = .ok (.laload, 1) := by decide +kernel
theorem dX12_putBack_153 : decode cX12_putBack 153 = .ok (.putfield 259, 3) := by decide +kernel
theorem dX12_putBack_156 : decode cX12_putBack 156 = .ok (.aload_n 0, 1) := by decide +kernel
theorem dX12_putBack_157 : decode cX12_putBack 157 = .ok (.aload_n 0, 1) := by decide +kernel
theorem dX12_putBack_158 : decode cX12_putBack 158 = .ok (.getfield 125, 3) := by decide +kernel
theorem dX12_putBack_161 : decode cX12_putBack 161 = .ok (.iconst 1, 1) := by decide +kernel
theorem dX12_putBack_162 : decode cX12_putBack 162 = .ok (.laload, 1) := by decide +kernel
theorem dX12_putBack_163 : decode cX12_putBack 163 = .ok (.putfield 263, 3) := by decide +kernel
theorem dX12_putBack_166 : decode cX12_putBack 166 = .ok (.aload_n 0, 1) := by decide +kernel
theorem dX12_putBack_167 : decode cX12_putBack 167 = .ok (.aload_n 0, 1) := by decide +kernel
theorem dX12_putBack_168 : decode cX12_putBack 168 = .ok (.getfield 125, 3) := by decide +kernel
theorem dX12_putBack_171 : decode cX12_putBack 171 = .ok (.iconst 2, 1) := by decide +kernel
theorem dX12_putBack_172 : decode cX12_putBack 172 = .ok (.laload, 1) := by decide +kernel
theorem dX12_putBack_173 : decode cX12_putBack 173 = .ok (.putfield 266, 3) := by decide +kernel
theorem dX12_putBack_176 : decode cX12_putBack 176 = .ok (.aload_n 0, 1) := by decide +kernel
theorem dX12_putBack_177 : decode cX12_putBack 177 = .ok (.aload_n 0, 1) := by decide +kernel
theorem dX12_putBack_178 : decode cX12_putBack 178 = .ok (.getfield 294, 3) := by decide +kernel
theorem dX12_putBack_181 : decode cX12_putBack 181 = .ok (.putfield 269, 3) := by decide +kernel
theorem dX12_putBack_184 : decode cX12_putBack 184 = .ok (.return_, 1) := by decide +kernel
theorem dX12_tells_0 : decode cX12_tells 0 = .ok (.iconst 1, 1) := by decide +kernel
theorem dX12_tells_1 : decode cX12_tells 1 = .ok (.istore_n 2, 1) := by decide +kernel
theorem dX12_tells_2 : decode cX12_tells 2 = .ok (.iconst 0, 1) := by decide +kernel
theorem dX12_tells_3 : decode cX12_tells 3 = .ok (.istore_n 3, 1) := by decide +kernel
theorem dX12_tells_4 : decode cX12_tells 4 = .ok (.iload_n 3, 1) := by decide +kernel
theorem dX12_tells_5 : decode cX12_tells 5 = .ok (.aload_n 0, 1) := by decide +kernel
theorem dX12_tells_6 : decode cX12_tells 6 = .ok (.getfield 291, 3) := by decide +kernel
theorem dX12_tells_9 : decode cX12_tells 9 = .ok (.if_icmp .ge 49, 3) := by decide +kernel
theorem dX12_tells_12 : decode cX12_tells 12 = .ok (.iload_n 2, 1) := by decide +kernel
theorem dX12_tells_13 : decode cX12_tells 13 = .ok (.ifCond .eq 37, 3) := by decide +kernel
theorem dX12_tells_16 : decode cX12_tells 16 = .ok (.aload_n 0, 1) := by decide +kernel
theorem dX12_tells_17 : decode cX12_tells 17 = .ok (.getfield 95, 3) := by decide +kernel
theorem dX12_tells_20 : decode cX12_tells 20 = .ok (.iload_n 3, 1) := by decide +kernel
theorem dX12_tells_21 : decode cX12_tells 21 = .ok (.iaload, 1) := by decide +kernel
theorem dX12_tells_22 : decode cX12_tells 22 = .ok (.iload_n 1, 1) := by decide +kernel
theorem dX12_tells_23 : decode cX12_tells 23 = .ok (.if_icmp .ne 23, 3) := by decide +kernel
theorem dX12_tells_26 : decode cX12_tells 26 = .ok (.aload_n 0, 1) := by decide +kernel
theorem dX12_tells_27 : decode cX12_tells 27 = .ok (.getfield 31, 3) := by decide +kernel
theorem dX12_tells_30 : decode cX12_tells 30 = .ok (.aload_n 0, 1) := by decide +kernel
theorem dX12_tells_31 : decode cX12_tells 31 = .ok (.getfield 98, 3) := by decide +kernel
theorem dX12_tells_34 : decode cX12_tells 34 = .ok (.iload_n 3, 1) := by decide +kernel
theorem dX12_tells_35 : decode cX12_tells 35 = .ok (.iaload, 1) := by decide +kernel
theorem dX12_tells_36 : decode cX12_tells 36 = .ok (.iaload, 1) := by decide +kernel
theorem dX12_tells_37 : decode cX12_tells 37 = .ok (.aload_n 0, 1) := by decide +kernel
theorem dX12_tells_38 : decode cX12_tells 38 = .ok (.getfield 101, 3) := by decide +kernel
theorem dX12_tells_41 : decode cX12_tells 41 = .ok (.iload_n 3, 1) := by decide +kernel
theorem dX12_tells_42 : decode cX12_tells 42 = .ok (.iaload, 1) := by decide +kernel
theorem dX12_tells_43 : decode cX12_tells 43 = .ok (.if_icmp .ne 7, 3) := by decide +kernel
theorem dX12_tells_46 : decode cX12_tells 46 = .ok (.iconst 1, 1) := by decide +kernel
theorem dX12_tells_47 : decode cX12_tells 47 = .ok (.goto 4, 3) := by decide +kernel
theorem dX12_tells_50 : decode cX12_tells 50 = .ok (.iconst 0, 1) := by decide +kernel
theorem dX12_tells_51 : decode cX12_tells 51 = .ok (.istore_n 2, 1) := by decide +kernel
theorem dX12_tells_52 : decode cX12_tells 52 = .ok (.iinc 3 1, 3) := by decide +kernel
theorem dX12_tells_55 : decode cX12_tells 55 = .ok (.goto (-51), 3) := by decide +kernel
theorem dX12_tells_58 : decode cX12_tells 58 = .ok (.iload_n 2, 1) := by decide +kernel
theorem dX12_tells_59 : decode cX12_tells 59 = .ok (.ireturn, 1) := by decide +kernel
set_option maxRecDepth 100000 in
theorem ggX12_tellsAll_X12_tells : GoodIn wsX12_tellsAll wsX12_tells := goodIn_s _ [20, 21, 2, 22, 23, 95, 96, 97, 98, 99, 100, 101, 102, 103, 104, 105, 106, 107, 108, 109, 110, 111, 112, 113, 114, 115, 116, 117, 118, 119, 120, 121, 122, 123, 124, 125, 126, 127, 128, 129, 130, 131, 132, 133, 134, 135, 136, 137, 138, 139, 140, 141, 142, 143, 144, 145, 146, 147, 148, 149, 150, 151, 152, 153, 154, 155, 156, 157, 158, 159, 160] [19] (by decide +kernel) rfl (by decide +kernel)
set_option maxRecDepth 20000 in
theorem gX12_tellsAll_X12_tells : GoodIn wsX12_tellsAll (wsV RX12 297 RX12 yX12_tells wsX12_tells) := goodIn_app (goodIn_of _ (by decide +kernel)) ggX12_tellsAll_X12_tells
set_option maxRecDepth 100000 in
theorem ggX12_tellsAll_X12_tickOnce : GoodIn wsX12_tellsAll wsX12_tickOnce := goodIn_s _ [13, 28, 5, 29, 30, 31, 32, 33, 34, 35, 36, 37, 2, 38, 39, 40, 41, 42, 11, 43, 44, 45, 46, 47, 48, 49, 50, 51, 18, 53, 54, 55, 56, 57, 59, 60, 61, 62, 63, 1, 7, 65, 66, 9, 67, 68, 69, 71, 72, 74, 75, 76, 78, 79, 80, 81, 82, 84, 85, 86, 88, 89, 90, 91, 93, 94, 95, 96, 97, 98, 99, 100, 101, 102, 103, 104, 105, 106, 107, 108, 109, 110, 111, 112, 113, 114, 115, 116, 117, 118, 119, 120, 121, 122, 123, 124, 125, 126, 127, 128, 129, 130, 131, 132, 133, 134, 135, 136, 137, 138, 139, 140, 141, 142, 143, 144, 145, 146, 147, 148, 149, 150, 151, 152, 153, 154, 155, 156, 157, 158, 159, 160] [27, 52, 58, 64, 70, 73, 77, 83, 87, 92] (by decide +kernel) rfl (by decide +kernel)
set_option maxRecDepth 20000 in
theorem gX12_tellsAll_X12_tickOnce : GoodIn wsX12_tellsAll (wsV RX12 276 RX12 yX12_tickOnce wsX12_tickOnce) := goodIn_app (goodIn_of _ (by decide +kernel)) ggX12_tellsAll_X12_tickOnce
theorem dX12_tellsAll_0 : decode cX12_tellsAll 0 = .ok (.iconst 0, 1) := by decide +kernel
theorem dX12_tellsAll_1 : decode cX12_tellsAll 1 = .ok (.istore_n 3, 1) := by decide +kernel
theorem dX12_tellsAll_2 : decode cX12_tellsAll 2 = .ok (.iload_n 3, 1) := by decide +kernel
theorem dX12_tellsAll_3 : decode cX12_tellsAll 3 = .ok (.aload_n 0, 1) := by decide +kernel
theorem dX12_tellsAll_4 : decode cX12_tellsAll 4 = .ok (.getfield 179, 3) := by decide +kernel
theorem dX12_tellsAll_7 : decode cX12_tellsAll 7 = .ok (.if_icmp .ge 101, 3) := by decide +kernel
theorem dX12_tellsAll_10 : decode cX12_tellsAll 10 = .ok (.aload_n 0, 1) := by decide +kernel
theorem dX12_tellsAll_11 : decode cX12_tellsAll 11 = .ok (.getfield 31, 3) := by decide +kernel
theorem dX12_tellsAll_14 : decode cX12_tellsAll 14 = .ok (.iload_n 3, 1) := by decide +kernel
theorem dX12_tellsAll_15 : decode cX12_tellsAll 15 = .ok (.iload_n 3, 1) := by decide +kernel
theorem dX12_tellsAll_16 : decode cX12_tellsAll 16 = .ok (.aload_n 0, 1) := by decide +kernel
theorem dX12_tellsAll_17 : decode cX12_tellsAll 17 = .ok (.getfield 282, 3) := by decide +kernel
theorem dX12_tellsAll_20 : decode cX12_tellsAll 20 = .ok (.if_icmp .ge 12, 3) := by decide +kernel
theorem dX12_tellsAll_23 : decode cX12_tellsAll 23 = .ok (.aload_n 0, 1) := by decide +kernel
theorem dX12_tellsAll_24 : decode cX12_tellsAll 24 = .ok (.getfield 86, 3) := by decide +kernel
theorem dX12_tellsAll_27 : decode cX12_tellsAll 27 = .ok (.iload_n 3, 1) := by decide +kernel
theorem dX12_tellsAll_28 : decode cX12_tellsAll 28 = .ok (.iaload, 1) := by decide +kernel
theorem dX12_tellsAll_29 : decode cX12_tellsAll 29 = .ok (.goto 4, 3) := by decide +kernel
theorem dX12_tellsAll_32 : decode cX12_tellsAll 32 = .ok (.iconst 0, 1) := by decide +kernel
theorem dX12_tellsAll_33 : decode cX12_tellsAll 33 = .ok (.iastore, 1) := by decide +kernel
theorem dX12_tellsAll_34 : decode cX12_tellsAll 34 = .ok (.aload_n 0, 1) := by decide +kernel
theorem dX12_tellsAll_35 : decode cX12_tellsAll 35 = .ok (.getfield 49, 3) := by decide +kernel
theorem dX12_tellsAll_38 : decode cX12_tellsAll 38 = .ok (.iload_n 3, 1) := by decide +kernel
theorem dX12_tellsAll_39 : decode cX12_tellsAll 39 = .ok (.iload_n 3, 1) := by decide +kernel
theorem dX12_tellsAll_40 : decode cX12_tellsAll 40 = .ok (.aload_n 0, 1) := by decide +kernel
theorem dX12_tellsAll_41 : decode cX12_tellsAll 41 = .ok (.getfield 282, 3) := by decide +kernel
theorem dX12_tellsAll_44 : decode cX12_tellsAll 44 = .ok (.if_icmp .ge 12, 3) := by decide +kernel
theorem dX12_tellsAll_47 : decode cX12_tellsAll 47 = .ok (.aload_n 0, 1) := by decide +kernel
theorem dX12_tellsAll_48 : decode cX12_tellsAll 48 = .ok (.getfield 89, 3) := by decide +kernel
theorem dX12_tellsAll_51 : decode cX12_tellsAll 51 = .ok (.iload_n 3, 1) := by decide +kernel
theorem dX12_tellsAll_52 : decode cX12_tellsAll 52 = .ok (.iaload, 1) := by decide +kernel
theorem dX12_tellsAll_53 : decode cX12_tellsAll 53 = .ok (.goto 4, 3) := by decide +kernel
theorem dX12_tellsAll_56 : decode cX12_tellsAll 56 = .ok (.iconst 0, 1) := by decide +kernel
theorem dX12_tellsAll_57 : decode cX12_tellsAll 57 = .ok (.iastore, 1) := by decide +kernel
theorem dX12_tellsAll_58 : decode cX12_tellsAll 58 = .ok (.aload_n 0, 1) := by decide +kernel
theorem dX12_tellsAll_59 : decode cX12_tellsAll 59 = .ok (.getfield 52, 3) := by decide +kernel
theorem dX12_tellsAll_62 : decode cX12_tellsAll 62 = .ok (.iload_n 3, 1) := by decide +kernel
theorem dX12_tellsAll_63 : decode cX12_tellsAll 63 = .ok (.iload_n 3, 1) := by decide +kernel
theorem dX12_tellsAll_64 : decode cX12_tellsAll 64 = .ok (.aload_n 0, 1) := by decide +kernel
theorem dX12_tellsAll_65 : decode cX12_tellsAll 65 = .ok (.getfield 282, 3) := by decide +kernel
theorem dX12_tellsAll_68 : decode cX12_tellsAll 68 = .ok (.if_icmp .ge 16, 3) := by decide +kernel
theorem dX12_tellsAll_71 : decode cX12_tellsAll 71 = .ok (.aload_n 0, 1) := by decide +kernel
theorem dX12_tellsAll_72 : decode cX12_tellsAll 72 = .ok (.getfield 92, 3) := by decide +kernel
theorem dX12_tellsAll_75 : decode cX12_tellsAll 75 = .ok (.iload_n 3, 1) := by decide +kernel
theorem dX12_tellsAll_76 : decode cX12_tellsAll 76 = .ok (.baload, 1) := by decide +kernel
theorem dX12_tellsAll_77 : decode cX12_tellsAll 77 = .ok (.ifCond .eq 7, 3) := by decide +kernel
theorem dX12_tellsAll_80 : decode cX12_tellsAll 80 = .ok (.iconst 1, 1) := by decide +kernel
theorem dX12_tellsAll_81 : decode cX12_tellsAll 81 = .ok (.goto 4, 3) := by decide +kernel
theorem dX12_tellsAll_84 : decode cX12_tellsAll 84 = .ok (.iconst 0, 1) := by decide +kernel
theorem dX12_tellsAll_85 : decode cX12_tellsAll 85 = .ok (.bastore, 1) := by decide +kernel
theorem dX12_tellsAll_86 : decode cX12_tellsAll 86 = .ok (.aload_n 0, 1) := by decide +kernel
theorem dX12_tellsAll_87 : decode cX12_tellsAll 87 = .ok (.getfield 46, 3) := by decide +kernel
theorem dX12_tellsAll_90 : decode cX12_tellsAll 90 = .ok (.iload_n 3, 1) := by decide +kernel
theorem dX12_tellsAll_91 : decode cX12_tellsAll 91 = .ok (.iload_n 3, 1) := by decide +kernel
theorem dX12_tellsAll_92 : decode cX12_tellsAll 92 = .ok (.iload_n 1, 1) := by decide +kernel
theorem dX12_tellsAll_93 : decode cX12_tellsAll 93 = .ok (.if_icmp .ne 7, 3) := by decide +kernel
theorem dX12_tellsAll_96 : decode cX12_tellsAll 96 = .ok (.iload_n 2, 1) := by decide +kernel
theorem dX12_tellsAll_97 : decode cX12_tellsAll 97 = .ok (.goto 4, 3) := by decide +kernel
theorem dX12_tellsAll_100 : decode cX12_tellsAll 100 = .ok (.iconst 0, 1) := by decide +kernel
theorem dX12_tellsAll_101 : decode cX12_tellsAll 101 = .ok (.iastore, 1) := by decide +kernel
theorem dX12_tellsAll_102 : decode cX12_tellsAll 102 = .ok (.iinc 3 1, 3) := by decide +kernel
theorem dX12_tellsAll_105 : decode cX12_tellsAll 105 = .ok (.goto (-103), 3) := by decide +kernel
theorem dX12_tellsAll_108 : decode cX12_tellsAll 108 = .ok (.aload_n 0, 1) := by decide +kernel
theorem dX12_tellsAll_109 : decode cX12_tellsAll 109 = .ok (.aload_n 0, 1) := by decide +kernel
theorem dX12_tellsAll_110 : decode cX12_tellsAll 110 = .ok (.getfield 285, 3) := by decide +kernel
theorem dX12_tellsAll_113 : decode cX12_tellsAll 113 = .ok (.putfield 203, 3) := by decide +kernel
theorem dX12_tellsAll_116 : decode cX12_tellsAll 116 = .ok (.aload_n 0, 1) := by decide +kernel
theorem dX12_tellsAll_117 : decode cX12_tellsAll 117 = .ok (.aload_n 0, 1) := by decide +kernel
theorem dX12_tellsAll_118 : decode cX12_tellsAll 118 = .ok (.getfield 288, 3) := by decide +kernel
theorem dX12_tellsAll_121 : decode cX12_tellsAll 121 = .ok (.putfield 224, 3) := by decide +kernel
theorem dX12_tellsAll_124 : decode cX12_tellsAll 124 = .ok (.aload_n 0, 1) := by decide +kernel
theorem dX12_tellsAll_125 : decode cX12_tellsAll 125 = .ok (.iconst 0, 1) := by decide +kernel
theorem dX12_tellsAll_126 : decode cX12_tellsAll 126 = .ok (.invokevirtual 297, 3) := by decide +kernel
theorem dX12_tellsAll_129 : decode cX12_tellsAll 129 = .ok (.istore_n 3, 1) := by decide +kernel
theorem dX12_tellsAll_130 : decode cX12_tellsAll 130 = .ok (.iconst 1, 1) := by decide +kernel
theorem dX12_tellsAll_131 : decode cX12_tellsAll 131 = .ok (.istore 4, 2) := by decide +kernel
theorem dX12_tellsAll_133 : decode cX12_tellsAll 133 = .ok (.iload 4, 2) := by decide +kernel
theorem dX12_tellsAll_135 : decode cX12_tellsAll 135 = .ok (.aload_n 0, 1) := by decide +kernel
theorem dX12_tellsAll_136 : decode cX12_tellsAll 136 = .ok (.getfield 136, 3) := by decide +kernel
theorem dX12_tellsAll_139 : decode cX12_tellsAll 139 = .ok (.if_icmp .gt 24, 3) := by decide +kernel
theorem dX12_tellsAll_142 : decode cX12_tellsAll 142 = .ok (.iload_n 3, 1) := by decide +kernel
theorem dX12_tellsAll_143 : decode cX12_tellsAll 143 = .ok (.ifCond .eq 20, 3) := by decide +kernel
theorem dX12_tellsAll_146 : decode cX12_tellsAll 146 = .ok (.aload_n 0, 1) := by decide +kernel
theorem dX12_tellsAll_147 : decode cX12_tellsAll 147 = .ok (.invokevirtual 276, 3) := by decide +kernel
theorem dX12_tellsAll_150 : decode cX12_tellsAll 150 = .ok (.aload_n 0, 1) := by decide +kernel
theorem dX12_tellsAll_151 : decode cX12_tellsAll 151 = .ok (.iload 4, 2) := by decide +kernel
theorem dX12_tellsAll_153 : decode cX12_tellsAll 153 = .ok (.invokevirtual 297, 3) := by decide +kernel
theorem dX12_tellsAll_156 : decode cX12_tellsAll 156 = .ok (.istore_n 3, 1) := by decide +kernel
theorem dX12_tellsAll_157 : decode cX12_tellsAll 157 = .ok (.iinc 4 1, 3) := by decide +kernel
theorem dX12_tellsAll_160 : decode cX12_tellsAll 160 = .ok (.goto (-27), 3) := by decide +kernel
theorem dX12_tellsAll_163 : decode cX12_tellsAll 163 = .ok (.iload_n 3, 1) := by decide +kernel
theorem dX12_tellsAll_164 : decode cX12_tellsAll 164 = .ok (.ireturn, 1) := by decide +kernel
theorem dX12_lastReading_0 : decode cX12_lastReading 0 = .ok (.iconst 0, 1) := by decide +kernel
theorem dX12_lastReading_1 : decode cX12_lastReading 1 = .ok (.istore_n 1, 1) := by decide +kernel
theorem dX12_lastReading_2 : decode cX12_lastReading 2 = .ok (.iconst 0, 1) := by decide +kernel
theorem dX12_lastReading_3 : decode cX12_lastReading 3 = .ok (.istore_n 2, 1) := by decide +kernel
theorem dX12_lastReading_4 : decode cX12_lastReading 4 = .ok (.iload_n 2, 1) := by decide +kernel
theorem dX12_lastReading_5 : decode cX12_lastReading 5 = .ok (.aload_n 0, 1) := by decide +kernel
theorem dX12_lastReading_6 : decode cX12_lastReading 6 = .ok (.getfield 291, 3) := by decide +kernel
theorem dX12_lastReading_9 : decode cX12_lastReading 9 = .ok (.if_icmp .ge 30, 3) := by decide +kernel
theorem dX12_lastReading_12 : decode cX12_lastReading 12 = .ok (.aload_n 0, 1) := by decide +kernel
theorem dX12_lastReading_13 : decode cX12_lastReading 13 = .ok (.getfield 95, 3) := by decide +kernel
theorem dX12_lastReading_16 : decode cX12_lastReading 16 = .ok (.iload_n 2, 1) := by decide +kernel
theorem dX12_lastReading_17 : decode cX12_lastReading 17 = .ok (.iaload, 1) := by decide +kernel
theorem dX12_lastReading_18 : decode cX12_lastReading 18 = .ok (.iload_n 1, 1) := by decide +kernel
theorem dX12_lastReading_19 : decode cX12_lastReading 19 = .ok (.if_icmp .le 12, 3) := by decide +kernel
theorem dX12_lastReading_22 : decode cX12_lastReading 22 = .ok (.aload_n 0, 1) := by decide +kernel
theorem dX12_lastReading_23 : decode cX12_lastReading 23 = .ok (.getfield 95, 3) := by decide +kernel
theorem dX12_lastReading_26 : decode cX12_lastReading 26 = .ok (.iload_n 2, 1) := by decide +kernel
theorem dX12_lastReading_27 : decode cX12_lastReading 27 = .ok (.iaload, 1) := by decide +kernel
theorem dX12_lastReading_28 : decode cX12_lastReading 28 = .ok (.goto 4, 3) := by decide +kernel
theorem dX12_lastReading_31 : decode cX12_lastReading 31 = .ok (.iload_n 1, 1) := by decide +kernel
theorem dX12_lastReading_32 : decode cX12_lastReading 32 = .ok (.istore_n 1, 1) := by decide +kernel
theorem dX12_lastReading_33 : decode cX12_lastReading 33 = .ok (.iinc 2 1, 3) := by decide +kernel
theorem dX12_lastReading_36 : decode cX12_lastReading 36 = .ok (.goto (-32), 3) := by decide +kernel
theorem dX12_lastReading_39 : decode cX12_lastReading 39 = .ok (.iload_n 1, 1) := by decide +kernel
theorem dX12_lastReading_40 : decode cX12_lastReading 40 = .ok (.ireturn, 1) := by decide +kernel
set_option maxRecDepth 100000 in
theorem ggX12_leak_X12_in : GoodIn wsX12_leak wsX12_in := goodIn_s _ [] [8] (by decide +kernel) rfl (by decide +kernel)
set_option maxRecDepth 20000 in
theorem gX12_leak_X12_in : GoodIn wsX12_leak (va_wsS RX12 150 yX12_in wsX12_in) := goodIn_app (goodIn_of _ (by decide +kernel)) ggX12_leak_X12_in
set_option maxRecDepth 100000 in
theorem ggX12_leak_X12_lastReading : GoodIn wsX12_leak wsX12_lastReading := goodIn_s _ [13, 14, 124, 125, 126, 127, 128, 129, 130, 131, 132, 133, 134, 135, 136, 137, 138, 139, 140, 141, 142, 143, 144, 145, 146, 147, 148, 149, 150, 151, 152, 153, 154, 155, 156, 157, 158, 159, 160, 161, 162, 163, 164, 165, 166, 167, 168, 169, 170, 171, 172, 173, 174, 175, 176, 177, 178, 179, 180, 181, 182, 183, 184, 185, 186, 187, 188, 189] [12] (by decide +kernel) rfl (by decide +kernel)
set_option maxRecDepth 20000 in
theorem gX12_leak_X12_lastReading : GoodIn wsX12_leak (wsV RX12 300 RX12 yX12_lastReading wsX12_lastReading) := goodIn_app (goodIn_of _ (by decide +kernel)) ggX12_leak_X12_lastReading
set_option maxRecDepth 100000 in
theorem ggX12_leak_X12_putAside : GoodIn wsX12_leak wsX12_putAside := goodIn_s _ [19, 20, 21, 22, 23, 24, 25, 26, 27, 28, 29, 30, 31, 32, 33, 34, 35, 36, 37, 38, 39, 40, 41, 42, 43, 124, 125, 126, 127, 128, 129, 130, 131, 132, 133, 134, 135, 136, 137, 138, 139, 140, 141, 142, 143, 144, 145, 146, 147, 148, 149, 150, 151, 152, 153, 154, 155, 156, 157, 158, 159, 160, 161, 162, 163, 164, 165, 166, 167, 168, 169, 170, 171, 172, 173, 174, 175, 176, 177, 178, 179, 180, 181, 182, 183, 184, 185, 186, 187, 188, 189] [18] (by decide +kernel) rfl (by decide +kernel)
set_option maxRecDepth 20000 in
theorem gX12_leak_X12_putAside : GoodIn wsX12_leak (wsV RX12 303 RX12 yX12_putAside wsX12_putAside) := goodIn_app (goodIn_of _ (by decide +kernel)) ggX12_leak_X12_putAside
set_option maxRecDepth 100000 in
theorem ggX12_leak_X12_tellsAll : GoodIn wsX12_leak wsX12_tellsAll := goodIn_s _ [3, 20, 48, 49, 22, 50, 30, 51, 24, 52, 32, 53, 33, 2, 54, 55, 56, 7, 13, 14, 58, 59, 60, 61, 62, 64, 65, 66, 67, 34, 37, 68, 69, 70, 71, 26, 72, 28, 73, 74, 36, 35, 39, 40, 41, 42, 75, 76, 77, 79, 80, 81, 82, 83, 85, 86, 87, 88, 89, 4, 91, 92, 93, 94, 96, 97, 99, 100, 101, 103, 104, 105, 106, 107, 109, 110, 111, 113, 114, 115, 116, 118, 119, 124, 125, 126, 127, 128, 129, 130, 131, 132, 133, 134, 135, 136, 137, 138, 139, 140, 141, 142, 143, 144, 145, 146, 147, 148, 149, 150, 151, 152, 153, 154, 155, 156, 157, 158, 159, 160, 161, 162, 163, 164, 165, 166, 167, 168, 169, 170, 171, 172, 173, 174, 175, 176, 177, 178, 179, 180, 181, 182, 183, 184, 185, 186, 187, 188, 189] [47, 57, 63, 78, 84, 90, 95, 98, 102, 108, 112, 117] (by decide +kernel) rfl (by decide +kernel)
set_option maxRecDepth 20000 in
theorem gX12_leak_X12_tellsAll : GoodIn wsX12_leak (wsV RX12 306 RX12 yX12_tellsAll wsX12_tellsAll) := goodIn_app (goodIn_of _ (by decide +kernel)) ggX12_leak_X12_tellsAll
set_option maxRecDepth 100000 in
theorem ggX12_leak_X12_putBack : GoodIn wsX12_leak wsX12_putBack := goodIn_s _ [20, 19, 22, 21, 24, 23, 26, 25, 28, 27, 30, 29, 31, 32, 33, 34, 35, 36, 37, 38, 39, 40, 41, 43, 42, 124, 125, 126, 127, 128, 129, 130, 131, 132, 133, 134, 135, 136, 137, 138, 139, 140, 141, 142, 143, 144, 145, 146, 147, 148, 149, 150, 151, 152, 153, 154, 155, 156, 157, 158, 159, 160, 161, 162, 163, 164, 165, 166, 167, 168, 169, 170, 171, 172, 173, 174, 175, 176, 177, 178, 179, 180, 181, 182, 183, 184, 185, 186, 187, 188, 189] [123] (by decide +kernel) rfl (by decide +kernel)
set_option maxRecDepth 20000 in
theorem gX12_leak_X12_putBack : GoodIn wsX12_leak (wsV RX12 310 RX12 yX12_putBack wsX12_putBack) := goodIn_app (goodIn_of _ (by decide +kernel)) ggX12_leak_X12_putBack
theorem dX12_leak_0 : decode cX12_leak 0 = .ok (.iload_n 1, 1) := by decide +kernel
theorem dX12_leak_1 : decode cX12_leak 1 = .ok (.i2l, 1) := by decide +kernel
theorem dX12_leak_2 : decode cX12_leak 2 = .ok (.lconst 0, 1) := by decide +kernel
theorem dX12_leak_3 : decode cX12_leak 3 = .ok (.lconst 1, 1) := by decide +kernel
theorem dX12_leak_4 : decode cX12_leak 4 = .ok (.invokestatic 150, 3) := by decide +kernel
theorem dX12_leak_7 : decode cX12_leak 7 = .ok (.ifCond .ne 6, 3) := by decide +kernel
theorem dX12_leak_10 : decode cX12_leak 10 = .ok (.bipush (-2), 2) := by decide +kernel
theorem dX12_leak_12 : decode cX12_leak 12 = .ok (.ireturn, 1) := by decide +kernel
theorem dX12_leak_13 : decode cX12_leak 13 = .ok (.aload_n 0, 1) := by decide +kernel
theorem dX12_leak_14 : decode cX12_leak 14 = .ok (.getfield 279, 3) := by decide +kernel
theorem dX12_leak_17 : decode cX12_leak 17 = .ok (.ifCond .eq 24, 3) := by decide +kernel
theorem dX12_leak_20 : decode cX12_leak 20 = .ok (.aload_n 0, 1) := by decide +kernel
theorem dX12_leak_21 : decode cX12_leak 21 = .ok (.getfield 136, 3) := by decide +kernel
theorem dX12_leak_24 : decode cX12_leak 24 = .ok (.sipush 200, 3) := by decide +kernel
theorem dX12_leak_27 : decode cX12_leak 27 = .ok (.if_icmp .gt 14, 3) := by decide +kernel
theorem dX12_leak_30 : decode cX12_leak 30 = .ok (.aload_n 0, 1) := by decide +kernel
theorem dX12_leak_31 : decode cX12_leak 31 = .ok (.invokevirtual 300, 3) := by decide +kernel
theorem dX12_leak_34 : decode cX12_leak 34 = .ok (.aload_n 0, 1) := by decide +kernel
theorem dX12_leak_35 : decode cX12_leak 35 = .ok (.getfield 136, 3) := by decide +kernel
theorem dX12_leak_38 : decode cX12_leak 38 = .ok (.if_icmp .le 6, 3) := by decide +kernel
theorem dX12_leak_41 : decode cX12_leak 41 = .ok (.bipush (-3), 2) := by decide +kernel
theorem dX12_leak_43 : decode cX12_leak 43 = .ok (.ireturn, 1) := by decide +kernel
theorem dX12_leak_44 : decode cX12_leak 44 = .ok (.aload_n 0, 1) := by decide +kernel
theorem dX12_leak_45 : decode cX12_leak 45 = .ok (.invokevirtual 303, 3) := by decide +kernel
theorem dX12_leak_48 : decode cX12_leak 48 = .ok (.bipush (-9), 2) := by decide +kernel
theorem dX12_leak_50 : decode cX12_leak 50 = .ok (.istore_n 2, 1) := by decide +kernel
theorem dX12_leak_51 : decode cX12_leak 51 = .ok (.iconst 0, 1) := by decide +kernel
theorem dX12_leak_52 : decode cX12_leak 52 = .ok (.istore_n 3, 1) := by decide +kernel
theorem dX12_leak_53 : decode cX12_leak 53 = .ok (.iload_n 3, 1) := by decide +kernel
theorem dX12_leak_54 : decode cX12_leak 54 = .ok (.aload_n 0, 1) := by decide +kernel
theorem dX12_leak_55 : decode cX12_leak 55 = .ok (.getfield 179, 3) := by decide +kernel
theorem dX12_leak_58 : decode cX12_leak 58 = .ok (.if_icmp .ge 63, 3) := by decide +kernel
theorem dX12_leak_61 : decode cX12_leak 61 = .ok (.iload_n 2, 1) := by decide +kernel
theorem dX12_leak_62 : decode cX12_leak 62 = .ok (.ifCond .ge 59, 3) := by decide +kernel
theorem dX12_leak_65 : decode cX12_leak 65 = .ok (.iconst 1, 1) := by decide +kernel
theorem dX12_leak_66 : decode cX12_leak 66 = .ok (.istore 4, 2) := by decide +kernel
theorem dX12_leak_68 : decode cX12_leak 68 = .ok (.iload 4, 2) := by decide +kernel
theorem dX12_leak_70 : decode cX12_leak 70 = .ok (.bipush 20, 2) := by decide +kernel
theorem dX12_leak_72 : decode cX12_leak 72 = .ok (.if_icmp .gt 43, 3) := by decide +kernel
theorem dX12_leak_75 : decode cX12_leak 75 = .ok (.iload_n 2, 1) := by decide +kernel
theorem dX12_leak_76 : decode cX12_leak 76 = .ok (.ifCond .ge 39, 3) := by decide +kernel
theorem dX12_leak_79 : decode cX12_leak 79 = .ok (.aload_n 0, 1) := by decide +kernel
theorem dX12_leak_80 : decode cX12_leak 80 = .ok (.getfield 22, 3) := by decide +kernel
theorem dX12_leak_83 : decode cX12_leak 83 = .ok (.iload_n 3, 1) := by decide +kernel
theorem dX12_leak_84 : decode cX12_leak 84 = .ok (.iaload, 1) := by decide +kernel
theorem dX12_leak_85 : decode cX12_leak 85 = .ok (.ifCond .ne 30, 3) := by decide +kernel
theorem dX12_leak_88 : decode cX12_leak 88 = .ok (.aload_n 0, 1) := by decide +kernel
end
section
theorem dX12_leak_89 : decode cX12_leak 89 = .ok (.iload_n 3, 1) := by decide +kernel
theorem dX12_leak_90 : decode cX12_leak 90 = .ok (.iload 4, 2) := by decide +kernel
theorem dX12_leak_92 : decode cX12_leak 92 = .ok (.invokevirtual 306, 3) := by decide +kernel
theorem dX12_leak_95 : decode cX12_leak 95 = .ok (.ifCond .eq 14, 3) := by decide +kernel
theorem dX12_leak_98 : decode cX12_leak 98 = .ok (.iload_n 1, 1) := by decide +kernel
theorem dX12_leak_99 : decode cX12_leak 99 = .ok (.ifCond .ne 7, 3) := by decide +kernel
theorem dX12_leak_102 : decode cX12_leak 102 = .ok (.iload_n 3, 1) := by decide +kernel
theorem dX12_leak_103 : decode cX12_leak 103 = .ok (.goto 5, 3) := by decide +kernel
theorem dX12_leak_106 : decode cX12_leak 106 = .ok (.iload 4, 2) := by decide +kernel
theorem dX12_leak_108 : decode cX12_leak 108 = .ok (.istore_n 2, 1) := by decide +kernel
theorem dX12_leak_109 : decode cX12_leak 109 = .ok (.iinc 4 1, 3) := by decide +kernel
theorem dX12_leak_112 : decode cX12_leak 112 = .ok (.goto (-44), 3) := by decide +kernel
theorem dX12_leak_115 : decode cX12_leak 115 = .ok (.iinc 3 1, 3) := by decide +kernel
theorem dX12_leak_118 : decode cX12_leak 118 = .ok (.goto (-65), 3) := by decide +kernel
theorem dX12_leak_121 : decode cX12_leak 121 = .ok (.aload_n 0, 1) := by decide +kernel
theorem dX12_leak_122 : decode cX12_leak 122 = .ok (.invokevirtual 310, 3) := by decide +kernel
theorem dX12_leak_125 : decode cX12_leak 125 = .ok (.iload_n 2, 1) := by decide +kernel
theorem dX12_leak_126 : decode cX12_leak 126 = .ok (.ireturn, 1) := by decide +kernel
theorem dX12_traced_0 : decode cX12_traced 0 = .ok (.aload_n 0, 1) := by decide +kernel
theorem dX12_traced_1 : decode cX12_traced 1 = .ok (.bipush 31, 2) := by decide +kernel
theorem dX12_traced_3 : decode cX12_traced 3 = .ok (.aload_n 0, 1) := by decide +kernel
theorem dX12_traced_4 : decode cX12_traced 4 = .ok (.getfield 313, 3) := by decide +kernel
theorem dX12_traced_7 : decode cX12_traced 7 = .ok (.imul, 1) := by decide +kernel
theorem dX12_traced_8 : decode cX12_traced 8 = .ok (.iload_n 1, 1) := by decide +kernel
theorem dX12_traced_9 : decode cX12_traced 9 = .ok (.iadd, 1) := by decide +kernel
theorem dX12_traced_10 : decode cX12_traced 10 = .ok (.putfield 313, 3) := by decide +kernel
theorem dX12_traced_13 : decode cX12_traced 13 = .ok (.return_, 1) := by decide +kernel
set_option maxRecDepth 100000 in
theorem ggX12_tell_X12_noCylinder : GoodIn wsX12_tell wsX12_noCylinder := goodIn_s _ [9, 10, 11, 7, 18, 19, 20, 21, 22, 23, 24, 25, 26, 27, 28, 29, 30, 31, 32, 33, 34, 35, 36, 37, 38, 39, 40, 41, 42, 43, 44, 45, 46, 47, 48, 49, 50, 51, 52, 53, 54, 55, 56, 57, 58, 59, 60, 61, 62, 63, 64, 65, 66, 67, 68, 69, 70, 71, 72, 73, 74, 75, 76, 77, 78, 79, 80, 81, 82, 83] [8, 12] (by decide +kernel) rfl (by decide +kernel)
set_option maxRecDepth 20000 in
theorem gX12_tell_X12_noCylinder : GoodIn wsX12_tell (wsV RX12 189 RX12 yX12_noCylinder wsX12_noCylinder) := goodIn_app (goodIn_of _ (by decide +kernel)) ggX12_tell_X12_noCylinder
set_option maxRecDepth 100000 in
theorem ggX12_tell_X12_traced : GoodIn wsX12_tell wsX12_traced := goodIn_s _ [17, 18, 19, 20, 21, 22, 23, 24, 25, 26, 27, 28, 29, 30, 31, 32, 33, 34, 35, 36, 37, 38, 39, 40, 41, 42, 43, 44, 45, 46, 47, 48, 49, 50, 51, 52, 53, 54, 55, 56, 57, 58, 59, 60, 61, 62, 63, 64, 65, 66, 67, 68, 69, 70, 71, 72, 73, 74, 75, 76, 77, 78, 79, 80, 81, 82, 83] [16] (by decide +kernel) rfl (by decide +kernel)
set_option maxRecDepth 20000 in
theorem gX12_tell_X12_traced : GoodIn wsX12_tell (wsV RX12 316 RX12 yX12_traced wsX12_traced) := goodIn_app (goodIn_of _ (by decide +kernel)) ggX12_tell_X12_traced
theorem dX12_tell_0 : decode cX12_tell 0 = .ok (.aload_n 0, 1) := by decide +kernel
theorem dX12_tell_1 : decode cX12_tell 1 = .ok (.iload_n 1, 1) := by decide +kernel
theorem dX12_tell_2 : decode cX12_tell 2 = .ok (.invokevirtual 189, 3) := by decide +kernel
theorem dX12_tell_5 : decode cX12_tell 5 = .ok (.ifCond .eq 5, 3) := by decide +kernel
theorem dX12_tell_8 : decode cX12_tell 8 = .ok (.iconst (-1), 1) := by decide +kernel
theorem dX12_tell_9 : decode cX12_tell 9 = .ok (.ireturn, 1) := by decide +kernel
theorem dX12_tell_10 : decode cX12_tell 10 = .ok (.aload_n 0, 1) := by decide +kernel
theorem dX12_tell_11 : decode cX12_tell 11 = .ok (.getfield 22, 3) := by decide +kernel
theorem dX12_tell_14 : decode cX12_tell 14 = .ok (.iload_n 1, 1) := by decide +kernel
theorem dX12_tell_15 : decode cX12_tell 15 = .ok (.iaload, 1) := by decide +kernel
theorem dX12_tell_16 : decode cX12_tell 16 = .ok (.ifCond .le 15, 3) := by decide +kernel
theorem dX12_tell_19 : decode cX12_tell 19 = .ok (.aload_n 0, 1) := by decide +kernel
theorem dX12_tell_20 : decode cX12_tell 20 = .ok (.aload_n 0, 1) := by decide +kernel
theorem dX12_tell_21 : decode cX12_tell 21 = .ok (.getfield 22, 3) := by decide +kernel
theorem dX12_tell_24 : decode cX12_tell 24 = .ok (.iload_n 1, 1) := by decide +kernel
theorem dX12_tell_25 : decode cX12_tell 25 = .ok (.iaload, 1) := by decide +kernel
theorem dX12_tell_26 : decode cX12_tell 26 = .ok (.iconst 1, 1) := by decide +kernel
theorem dX12_tell_27 : decode cX12_tell 27 = .ok (.iadd, 1) := by decide +kernel
theorem dX12_tell_28 : decode cX12_tell 28 = .ok (.invokevirtual 316, 3) := by decide +kernel
theorem dX12_tell_31 : decode cX12_tell 31 = .ok (.aload_n 0, 1) := by decide +kernel
theorem dX12_tell_32 : decode cX12_tell 32 = .ok (.iconst 1, 1) := by decide +kernel
theorem dX12_tell_33 : decode cX12_tell 33 = .ok (.invokevirtual 316, 3) := by decide +kernel
theorem dX12_tell_36 : decode cX12_tell 36 = .ok (.aload_n 0, 1) := by decide +kernel
theorem dX12_tell_37 : decode cX12_tell 37 = .ok (.getfield 22, 3) := by decide +kernel
theorem dX12_tell_40 : decode cX12_tell 40 = .ok (.iload_n 1, 1) := by decide +kernel
theorem dX12_tell_41 : decode cX12_tell 41 = .ok (.iaload, 1) := by decide +kernel
theorem dX12_tell_42 : decode cX12_tell 42 = .ok (.ifCond .ne 12, 3) := by decide +kernel
theorem dX12_tell_45 : decode cX12_tell 45 = .ok (.aload_n 0, 1) := by decide +kernel
theorem dX12_tell_46 : decode cX12_tell 46 = .ok (.getfield 31, 3) := by decide +kernel
theorem dX12_tell_49 : decode cX12_tell 49 = .ok (.iload_n 1, 1) := by decide +kernel
theorem dX12_tell_50 : decode cX12_tell 50 = .ok (.iaload, 1) := by decide +kernel
theorem dX12_tell_51 : decode cX12_tell 51 = .ok (.goto 34, 3) := by decide +kernel
theorem dX12_tell_54 : decode cX12_tell 54 = .ok (.aload_n 0, 1) := by decide +kernel
theorem dX12_tell_55 : decode cX12_tell 55 = .ok (.getfield 22, 3) := by decide +kernel
theorem dX12_tell_58 : decode cX12_tell 58 = .ok (.iload_n 1, 1) := by decide +kernel
theorem dX12_tell_59 : decode cX12_tell 59 = .ok (.iaload, 1) := by decide +kernel
theorem dX12_tell_60 : decode cX12_tell 60 = .ok (.iconst 1, 1) := by decide +kernel
theorem dX12_tell_61 : decode cX12_tell 61 = .ok (.if_icmp .ne 16, 3) := by decide +kernel
theorem dX12_tell_64 : decode cX12_tell 64 = .ok (.aload_n 0, 1) := by decide +kernel
theorem dX12_tell_65 : decode cX12_tell 65 = .ok (.getfield 31, 3) := by decide +kernel
theorem dX12_tell_68 : decode cX12_tell 68 = .ok (.iload_n 1, 1) := by decide +kernel
theorem dX12_tell_69 : decode cX12_tell 69 = .ok (.iaload, 1) := by decide +kernel
theorem dX12_tell_70 : decode cX12_tell 70 = .ok (.ldc_w 320, 3) := by decide +kernel
theorem dX12_tell_73 : decode cX12_tell 73 = .ok (.iadd, 1) := by decide +kernel
theorem dX12_tell_74 : decode cX12_tell 74 = .ok (.goto 11, 3) := by decide +kernel
theorem dX12_tell_77 : decode cX12_tell 77 = .ok (.iconst 2, 1) := by decide +kernel
theorem dX12_tell_78 : decode cX12_tell 78 = .ok (.aload_n 0, 1) := by decide +kernel
theorem dX12_tell_79 : decode cX12_tell 79 = .ok (.getfield 31, 3) := by decide +kernel
theorem dX12_tell_82 : decode cX12_tell 82 = .ok (.iload_n 1, 1) := by decide +kernel
theorem dX12_tell_83 : decode cX12_tell 83 = .ok (.iaload, 1) := by decide +kernel
theorem dX12_tell_84 : decode cX12_tell 84 = .ok (.imul, 1) := by decide +kernel
theorem dX12_tell_85 : decode cX12_tell 85 = .ok (.ireturn, 1) := by decide +kernel
set_option maxRecDepth 100000 in
theorem ggX12_look_X12_noCylinder : GoodIn wsX12_look wsX12_noCylinder := goodIn_s _ [7, 8, 9, 5, 16, 17, 18, 19, 20, 21, 22, 23, 24, 25, 26, 27, 28, 29, 30, 31, 32, 33, 34, 35, 36, 37, 38, 39, 40, 41, 42, 43, 44, 45, 46, 47, 48, 49, 50, 51, 52, 53, 54, 55, 56, 57, 58, 59, 60, 61, 62, 63, 64, 65, 66, 67, 68, 69, 70, 71, 72, 73, 74, 75, 76, 77, 78, 79, 80, 81] [6, 10] (by decide +kernel) rfl (by decide +kernel)
set_option maxRecDepth 20000 in
theorem gX12_look_X12_noCylinder : GoodIn wsX12_look (wsV RX12 189 RX12 yX12_noCylinder wsX12_noCylinder) := goodIn_app (goodIn_of _ (by decide +kernel)) ggX12_look_X12_noCylinder
set_option maxRecDepth 100000 in
theorem ggX12_look_X12_traced : GoodIn wsX12_look wsX12_traced := goodIn_s _ [15, 16, 17, 18, 19, 20, 21, 22, 23, 24, 25, 26, 27, 28, 29, 30, 31, 32, 33, 34, 35, 36, 37, 38, 39, 40, 41, 42, 43, 44, 45, 46, 47, 48, 49, 50, 51, 52, 53, 54, 55, 56, 57, 58, 59, 60, 61, 62, 63, 64, 65, 66, 67, 68, 69, 70, 71, 72, 73, 74, 75, 76, 77, 78, 79, 80, 81] [14] (by decide +kernel) rfl (by decide +kernel)
set_option maxRecDepth 20000 in
theorem gX12_look_X12_traced : GoodIn wsX12_look (wsV RX12 316 RX12 yX12_traced wsX12_traced) := goodIn_app (goodIn_of _ (by decide +kernel)) ggX12_look_X12_traced
theorem dX12_look_0 : decode cX12_look 0 = .ok (.aload_n 0, 1) := by decide +kernel
theorem dX12_look_1 : decode cX12_look 1 = .ok (.iload_n 1, 1) := by decide +kernel
theorem dX12_look_2 : decode cX12_look 2 = .ok (.invokevirtual 189, 3) := by decide +kernel
theorem dX12_look_5 : decode cX12_look 5 = .ok (.ifCond .eq 5, 3) := by decide +kernel
theorem dX12_look_8 : decode cX12_look 8 = .ok (.iconst (-1), 1) := by decide +kernel
theorem dX12_look_9 : decode cX12_look 9 = .ok (.ireturn, 1) := by decide +kernel
theorem dX12_look_10 : decode cX12_look 10 = .ok (.aload_n 0, 1) := by decide +kernel
theorem dX12_look_11 : decode cX12_look 11 = .ok (.aload_n 0, 1) := by decide +kernel
theorem dX12_look_12 : decode cX12_look 12 = .ok (.getfield 22, 3) := by decide +kernel
theorem dX12_look_15 : decode cX12_look 15 = .ok (.iload_n 1, 1) := by decide +kernel
theorem dX12_look_16 : decode cX12_look 16 = .ok (.iaload, 1) := by decide +kernel
theorem dX12_look_17 : decode cX12_look 17 = .ok (.iconst 2, 1) := by decide +kernel
theorem dX12_look_18 : decode cX12_look 18 = .ok (.if_icmp .ne 7, 3) := by decide +kernel
theorem dX12_look_21 : decode cX12_look 21 = .ok (.iconst 5, 1) := by decide +kernel
theorem dX12_look_22 : decode cX12_look 22 = .ok (.goto 4, 3) := by decide +kernel
theorem dX12_look_25 : decode cX12_look 25 = .ok (.iconst 4, 1) := by decide +kernel
theorem dX12_look_26 : decode cX12_look 26 = .ok (.invokevirtual 316, 3) := by decide +kernel
theorem dX12_look_29 : decode cX12_look 29 = .ok (.aload_n 0, 1) := by decide +kernel
theorem dX12_look_30 : decode cX12_look 30 = .ok (.getfield 22, 3) := by decide +kernel
theorem dX12_look_33 : decode cX12_look 33 = .ok (.iload_n 1, 1) := by decide +kernel
theorem dX12_look_34 : decode cX12_look 34 = .ok (.iaload, 1) := by decide +kernel
theorem dX12_look_35 : decode cX12_look 35 = .ok (.iconst 2, 1) := by decide +kernel
theorem dX12_look_36 : decode cX12_look 36 = .ok (.if_icmp .ne 8, 3) := by decide +kernel
theorem dX12_look_39 : decode cX12_look 39 = .ok (.bipush 88, 2) := by decide +kernel
theorem dX12_look_41 : decode cX12_look 41 = .ok (.goto 4, 3) := by decide +kernel
theorem dX12_look_44 : decode cX12_look 44 = .ok (.iload_n 1, 1) := by decide +kernel
theorem dX12_look_45 : decode cX12_look 45 = .ok (.ireturn, 1) := by decide +kernel
set_option maxRecDepth 100000 in
theorem ggX12_as_X12_noCylinder : GoodIn wsX12_as wsX12_noCylinder := goodIn_s _ [8, 9, 10, 6, 21, 22, 23, 24, 25, 26, 27, 28, 29, 30, 31, 32, 33, 34, 35, 36, 37, 38, 39, 40, 41, 42, 43, 44, 45, 46, 47, 48, 49, 50, 51, 52, 53, 54, 55, 56, 57, 58, 59, 60, 61, 62, 63, 64, 65, 66, 67, 68, 69, 70, 71, 72, 73, 74, 75, 76, 77, 78, 79, 80, 81, 82, 83, 84, 85, 86] [7, 11] (by decide +kernel) rfl (by decide +kernel)
set_option maxRecDepth 20000 in
theorem gX12_as_X12_noCylinder : GoodIn wsX12_as (wsV RX12 189 RX12 yX12_noCylinder wsX12_noCylinder) := goodIn_app (goodIn_of _ (by decide +kernel)) ggX12_as_X12_noCylinder
set_option maxRecDepth 100000 in
theorem ggX12_as_X12_refused : GoodIn wsX12_as wsX12_refused := goodIn_s _ [16, 21, 22, 23, 24, 25, 26, 27, 28, 29, 30, 31, 32, 33, 34, 35, 36, 37, 38, 39, 40, 41, 42, 43, 44, 45, 46, 47, 48, 49, 50, 51, 52, 53, 54, 55, 56, 57, 58, 59, 60, 61, 62, 63, 64, 65, 66, 67, 68, 69, 70, 71, 72, 73, 74, 75, 76, 77, 78, 79, 80, 81, 82, 83, 84, 85, 86] [15] (by decide +kernel) rfl (by decide +kernel)
set_option maxRecDepth 20000 in
theorem gX12_as_X12_refused : GoodIn wsX12_as (wsV RX12 158 RX12 yX12_refused wsX12_refused) := goodIn_app (goodIn_of _ (by decide +kernel)) ggX12_as_X12_refused
set_option maxRecDepth 100000 in
theorem ggX12_as_X12_in : GoodIn wsX12_as wsX12_in := goodIn_s _ [] [11] (by decide +kernel) rfl (by decide +kernel)
set_option maxRecDepth 20000 in
theorem gX12_as_X12_in : GoodIn wsX12_as (va_wsS RX12 150 yX12_in wsX12_in) := goodIn_app (goodIn_of _ (by decide +kernel)) ggX12_as_X12_in
set_option maxRecDepth 100000 in
theorem ggX12_as_X12_failed : GoodIn wsX12_as wsX12_failed := goodIn_s _ [16, 21, 22, 23, 24, 25, 26, 27, 28, 29, 30, 31, 32, 33, 34, 35, 36, 37, 38, 39, 40, 41, 42, 43, 44, 45, 46, 47, 48, 49, 50, 51, 52, 53, 54, 55, 56, 57, 58, 59, 60, 61, 62, 63, 64, 65, 66, 67, 68, 69, 70, 71, 72, 73, 74, 75, 76, 77, 78, 79, 80, 81, 82, 83, 84, 85, 86] [20] (by decide +kernel) rfl (by decide +kernel)
set_option maxRecDepth 20000 in
theorem gX12_as_X12_failed : GoodIn wsX12_as (wsV RX12 164 RX12 yX12_failed wsX12_failed) := goodIn_app (goodIn_of _ (by decide +kernel)) ggX12_as_X12_failed
theorem dX12_as_0 : decode cX12_as 0 = .ok (.aload_n 0, 1) := by decide +kernel
theorem dX12_as_1 : decode cX12_as 1 = .ok (.iload_n 1, 1) := by decide +kernel
theorem dX12_as_2 : decode cX12_as 2 = .ok (.invokevirtual 189, 3) := by decide +kernel
theorem dX12_as_5 : decode cX12_as 5 = .ok (.ifCond .eq 9, 3) := by decide +kernel
theorem dX12_as_8 : decode cX12_as 8 = .ok (.aload_n 0, 1) := by decide +kernel
theorem dX12_as_9 : decode cX12_as 9 = .ok (.iconst (-1), 1) := by decide +kernel
theorem dX12_as_10 : decode cX12_as 10 = .ok (.invokevirtual 158, 3) := by decide +kernel
theorem dX12_as_13 : decode cX12_as 13 = .ok (.ireturn, 1) := by decide +kernel
theorem dX12_as_14 : decode cX12_as 14 = .ok (.iload_n 2, 1) := by decide +kernel
theorem dX12_as_15 : decode cX12_as 15 = .ok (.i2l, 1) := by decide +kernel
theorem dX12_as_16 : decode cX12_as 16 = .ok (.lconst 0, 1) := by decide +kernel
theorem dX12_as_17 : decode cX12_as 17 = .ok (.ldc2_w 162, 3) := by decide +kernel
theorem dX12_as_20 : decode cX12_as 20 = .ok (.invokestatic 150, 3) := by decide +kernel
theorem dX12_as_23 : decode cX12_as 23 = .ok (.ifCond .ne 10, 3) := by decide +kernel
theorem dX12_as_26 : decode cX12_as 26 = .ok (.aload_n 0, 1) := by decide +kernel
theorem dX12_as_27 : decode cX12_as 27 = .ok (.bipush (-2), 2) := by decide +kernel
theorem dX12_as_29 : decode cX12_as 29 = .ok (.invokevirtual 158, 3) := by decide +kernel
theorem dX12_as_32 : decode cX12_as 32 = .ok (.ireturn, 1) := by decide +kernel
theorem dX12_as_33 : decode cX12_as 33 = .ok (.aload_n 0, 1) := by decide +kernel
theorem dX12_as_34 : decode cX12_as 34 = .ok (.getfield 22, 3) := by decide +kernel
theorem dX12_as_37 : decode cX12_as 37 = .ok (.iload_n 1, 1) := by decide +kernel
theorem dX12_as_38 : decode cX12_as 38 = .ok (.iaload, 1) := by decide +kernel
theorem dX12_as_39 : decode cX12_as 39 = .ok (.iload_n 2, 1) := by decide +kernel
theorem dX12_as_40 : decode cX12_as 40 = .ok (.if_icmp .lt 11, 3) := by decide +kernel
theorem dX12_as_43 : decode cX12_as 43 = .ok (.aload_n 0, 1) := by decide +kernel
theorem dX12_as_44 : decode cX12_as 44 = .ok (.iconst 1, 1) := by decide +kernel
theorem dX12_as_45 : decode cX12_as 45 = .ok (.invokevirtual 158, 3) := by decide +kernel
theorem dX12_as_48 : decode cX12_as 48 = .ok (.goto 8, 3) := by decide +kernel
theorem dX12_as_51 : decode cX12_as 51 = .ok (.aload_n 0, 1) := by decide +kernel
theorem dX12_as_52 : decode cX12_as 52 = .ok (.iconst 2, 1) := by decide +kernel
theorem dX12_as_53 : decode cX12_as 53 = .ok (.invokevirtual 164, 3) := by decide +kernel
theorem dX12_as_56 : decode cX12_as 56 = .ok (.ireturn, 1) := by decide +kernel
theorem dX12_trace_0 : decode cX12_trace 0 = .ok (.aload_n 0, 1) := by decide +kernel
theorem dX12_trace_1 : decode cX12_trace 1 = .ok (.getfield 313, 3) := by decide +kernel
theorem dX12_trace_4 : decode cX12_trace 4 = .ok (.ireturn, 1) := by decide +kernel
theorem dX12_fault_0 : decode cX12_fault 0 = .ok (.aload_n 0, 1) := by decide +kernel
theorem dX12_fault_1 : decode cX12_fault 1 = .ok (.getfield 141, 3) := by decide +kernel
theorem dX12_fault_4 : decode cX12_fault 4 = .ok (.ireturn, 1) := by decide +kernel
set_option maxRecDepth 100000 in
theorem ggX12_told_X12_room : GoodIn wsX12_told wsX12_room := goodIn_s _ [11, 12, 13, 14, 15, 16, 17, 18, 19, 20, 21, 22, 23, 24, 25, 26, 27, 28, 29, 30, 31, 32, 33, 34, 35, 36, 37, 38, 39, 40, 41, 42, 43, 44, 45, 46, 47, 48, 49, 50, 51, 52, 53, 54, 55, 56, 57, 58, 59, 60, 61, 62, 63, 64, 65, 66, 67, 68, 69, 70, 71, 72, 73, 74, 75, 76, 77, 78] [10] (by decide +kernel) rfl (by decide +kernel)
set_option maxRecDepth 20000 in
theorem gX12_told_X12_room : GoodIn wsX12_told (wsV RX12 198 RX12 yX12_room wsX12_room) := goodIn_app (goodIn_of _ (by decide +kernel)) ggX12_told_X12_room
theorem dX12_told_0 : decode cX12_told 0 = .ok (.iconst 0, 1) := by decide +kernel
theorem dX12_told_1 : decode cX12_told 1 = .ok (.istore_n 2, 1) := by decide +kernel
theorem dX12_told_2 : decode cX12_told 2 = .ok (.iconst 0, 1) := by decide +kernel
theorem dX12_told_3 : decode cX12_told 3 = .ok (.istore_n 3, 1) := by decide +kernel
theorem dX12_told_4 : decode cX12_told 4 = .ok (.iload_n 3, 1) := by decide +kernel
theorem dX12_told_5 : decode cX12_told 5 = .ok (.aload_n 0, 1) := by decide +kernel
theorem dX12_told_6 : decode cX12_told 6 = .ok (.getfield 179, 3) := by decide +kernel
theorem dX12_told_9 : decode cX12_told 9 = .ok (.if_icmp .ge 50, 3) := by decide +kernel
theorem dX12_told_12 : decode cX12_told 12 = .ok (.iload_n 2, 1) := by decide +kernel
theorem dX12_told_13 : decode cX12_told 13 = .ok (.iload_n 1, 1) := by decide +kernel
theorem dX12_told_14 : decode cX12_told 14 = .ok (.iconst 4, 1) := by decide +kernel
theorem dX12_told_15 : decode cX12_told 15 = .ok (.if_icmp .ne 17, 3) := by decide +kernel
theorem dX12_told_18 : decode cX12_told 18 = .ok (.aload_n 0, 1) := by decide +kernel
theorem dX12_told_19 : decode cX12_told 19 = .ok (.getfield 31, 3) := by decide +kernel
theorem dX12_told_22 : decode cX12_told 22 = .ok (.iload_n 3, 1) := by decide +kernel
theorem dX12_told_23 : decode cX12_told 23 = .ok (.iaload, 1) := by decide +kernel
theorem dX12_told_24 : decode cX12_told 24 = .ok (.aload_n 0, 1) := by decide +kernel
theorem dX12_told_25 : decode cX12_told 25 = .ok (.iload_n 3, 1) := by decide +kernel
theorem dX12_told_26 : decode cX12_told 26 = .ok (.invokevirtual 198, 3) := by decide +kernel
theorem dX12_told_29 : decode cX12_told 29 = .ok (.if_icmp .eq 17, 3) := by decide +kernel
theorem dX12_told_32 : decode cX12_told 32 = .ok (.iload_n 1, 1) := by decide +kernel
theorem dX12_told_33 : decode cX12_told 33 = .ok (.iconst 5, 1) := by decide +kernel
theorem dX12_told_34 : decode cX12_told 34 = .ok (.if_icmp .ne 16, 3) := by decide +kernel
theorem dX12_told_37 : decode cX12_told 37 = .ok (.aload_n 0, 1) := by decide +kernel
theorem dX12_told_38 : decode cX12_told 38 = .ok (.getfield 31, 3) := by decide +kernel
theorem dX12_told_41 : decode cX12_told 41 = .ok (.iload_n 3, 1) := by decide +kernel
theorem dX12_told_42 : decode cX12_told 42 = .ok (.iaload, 1) := by decide +kernel
theorem dX12_told_43 : decode cX12_told 43 = .ok (.ifCond .ne 7, 3) := by decide +kernel
theorem dX12_told_46 : decode cX12_told 46 = .ok (.iconst 1, 1) := by decide +kernel
theorem dX12_told_47 : decode cX12_told 47 = .ok (.goto 4, 3) := by decide +kernel
theorem dX12_told_50 : decode cX12_told 50 = .ok (.iconst 0, 1) := by decide +kernel
theorem dX12_told_51 : decode cX12_told 51 = .ok (.iadd, 1) := by decide +kernel
theorem dX12_told_52 : decode cX12_told 52 = .ok (.istore_n 2, 1) := by decide +kernel
theorem dX12_told_53 : decode cX12_told 53 = .ok (.iinc 3 1, 3) := by decide +kernel
theorem dX12_told_56 : decode cX12_told 56 = .ok (.goto (-52), 3) := by decide +kernel
theorem dX12_told_59 : decode cX12_told 59 = .ok (.iload_n 1, 1) := by decide +kernel
theorem dX12_told_60 : decode cX12_told 60 = .ok (.tableswitch 62 0 5 #[40, 45, 50, 55, 60, 60], 40) := by decide +kernel
theorem dX12_told_100 : decode cX12_told 100 = .ok (.aload_n 0, 1) := by decide +kernel
theorem dX12_told_101 : decode cX12_told 101 = .ok (.getfield 179, 3) := by decide +kernel
theorem dX12_told_104 : decode cX12_told 104 = .ok (.ireturn, 1) := by decide +kernel
theorem dX12_told_105 : decode cX12_told 105 = .ok (.aload_n 0, 1) := by decide +kernel
theorem dX12_told_106 : decode cX12_told 106 = .ok (.getfield 221, 3) := by decide +kernel
theorem dX12_told_109 : decode cX12_told 109 = .ok (.ireturn, 1) := by decide +kernel
theorem dX12_told_110 : decode cX12_told 110 = .ok (.aload_n 0, 1) := by decide +kernel
theorem dX12_told_111 : decode cX12_told 111 = .ok (.getfield 291, 3) := by decide +kernel
theorem dX12_told_114 : decode cX12_told 114 = .ok (.ireturn, 1) := by decide +kernel
theorem dX12_told_115 : decode cX12_told 115 = .ok (.aload_n 0, 1) := by decide +kernel
theorem dX12_told_116 : decode cX12_told 116 = .ok (.getfield 136, 3) := by decide +kernel
theorem dX12_told_119 : decode cX12_told 119 = .ok (.ireturn, 1) := by decide +kernel
theorem dX12_told_120 : decode cX12_told 120 = .ok (.iload_n 2, 1) := by decide +kernel
theorem dX12_told_121 : decode cX12_told 121 = .ok (.ireturn, 1) := by decide +kernel
theorem dX12_told_122 : decode cX12_told 122 = .ok (.bipush (-2), 2) := by decide +kernel
theorem dX12_told_124 : decode cX12_told 124 = .ok (.ireturn, 1) := by decide +kernel
theorem dJ9_max_7cf53_0 : decode cJ9_max_7cf53 0 = .ok (.iload_n 0, 1) := by decide +kernel
theorem dJ9_max_7cf53_1 : decode cJ9_max_7cf53 1 = .ok (.iload_n 1, 1) := by decide +kernel
theorem dJ9_max_7cf53_2 : decode cJ9_max_7cf53 2 = .ok (.if_icmp .lt 7, 3) := by decide +kernel
theorem dJ9_max_7cf53_5 : decode cJ9_max_7cf53 5 = .ok (.iload_n 0, 1) := by decide +kernel
theorem dJ9_max_7cf53_6 : decode cJ9_max_7cf53 6 = .ok (.goto 4, 3) := by decide +kernel
theorem dJ9_max_7cf53_9 : decode cJ9_max_7cf53 9 = .ok (.iload_n 1, 1) := by decide +kernel
theorem dJ9_max_7cf53_10 : decode cJ9_max_7cf53 10 = .ok (.ireturn, 1) := by decide +kernel
theorem dJ9_min_7cf53_0 : decode cJ9_min_7cf53 0 = .ok (.iload_n 0, 1) := by decide +kernel
theorem dJ9_min_7cf53_1 : decode cJ9_min_7cf53 1 = .ok (.iload_n 1, 1) := by decide +kernel
theorem dJ9_min_7cf53_2 : decode cJ9_min_7cf53 2 = .ok (.if_icmp .gt 7, 3) := by decide +kernel
theorem dJ9_min_7cf53_5 : decode cJ9_min_7cf53 5 = .ok (.iload_n 0, 1) := by decide +kernel
theorem dJ9_min_7cf53_6 : decode cJ9_min_7cf53 6 = .ok (.goto 4, 3) := by decide +kernel
theorem dJ9_min_7cf53_9 : decode cJ9_min_7cf53 9 = .ok (.iload_n 1, 1) := by decide +kernel
theorem dJ9_min_7cf53_10 : decode cJ9_min_7cf53 10 = .ok (.ireturn, 1) := by decide +kernel
theorem dJ7_fill_53178_0 : decode cJ7_fill_53178 0 = .ok (.iconst 0, 1) := by decide +kernel
theorem dJ7_fill_53178_1 : decode cJ7_fill_53178 1 = .ok (.istore_n 2, 1) := by decide +kernel
theorem dJ7_fill_53178_2 : decode cJ7_fill_53178 2 = .ok (.aload_n 0, 1) := by decide +kernel
theorem dJ7_fill_53178_3 : decode cJ7_fill_53178 3 = .ok (.arraylength, 1) := by decide +kernel
theorem dJ7_fill_53178_4 : decode cJ7_fill_53178 4 = .ok (.istore_n 3, 1) := by decide +kernel
theorem dJ7_fill_53178_5 : decode cJ7_fill_53178 5 = .ok (.iload_n 2, 1) := by decide +kernel
theorem dJ7_fill_53178_6 : decode cJ7_fill_53178 6 = .ok (.iload_n 3, 1) := by decide +kernel
theorem dJ7_fill_53178_7 : decode cJ7_fill_53178 7 = .ok (.if_icmp .ge 13, 3) := by decide +kernel
theorem dJ7_fill_53178_10 : decode cJ7_fill_53178 10 = .ok (.aload_n 0, 1) := by decide +kernel
theorem dJ7_fill_53178_11 : decode cJ7_fill_53178 11 = .ok (.iload_n 2, 1) := by decide +kernel
theorem dJ7_fill_53178_12 : decode cJ7_fill_53178 12 = .ok (.iload_n 1, 1) := by decide +kernel
theorem dJ7_fill_53178_13 : decode cJ7_fill_53178 13 = .ok (.iastore, 1) := by decide +kernel
theorem dJ7_fill_53178_14 : decode cJ7_fill_53178 14 = .ok (.iinc 2 1, 3) := by decide +kernel
theorem dJ7_fill_53178_17 : decode cJ7_fill_53178 17 = .ok (.goto (-12), 3) := by decide +kernel
theorem dJ7_fill_53178_20 : decode cJ7_fill_53178 20 = .ok (.return_, 1) := by decide +kernel
abbrev vwCl : List vw_C := [(RX0, TX0, 7), (RX1, TX1, 13), (RX2, TX2, 7), (RX3, TX3, 5), (RX4, TX4, 5), (RX5, TX5, 4), (RX6, TX6, 4), (RX7, TX7, 5), (RX8, TX8, 4), (RX9, TX9, 1), (RX10, TX10, 7), (RX11, TX11, 15), (RX12, TX12, 66)]
end
section
-- OUR LAYER over the kit's worlds: one bundle for a method's surroundings, contracts that carry a list of cells
abbrev Gt : Type := va_G × (Nat → ClassId)
abbrev tyG (g : Gt) : List (ClassId × FieldType) := [(g.2 0, .int), (g.2 1, .boolean), (g.2 2, .long), (g.2 3, .object "OilPush$Cylinder"), (g.2 4, .object "OilPush$Sheet")]
abbrev nestL : List (String × Nat × MethodName × String) := [("OilPush", 11, yX4_init, "OilPush"), ("OilPush", 20, yX7_init, "OilPush"), ("OilPush$State", 23, yX8_init, "OilPush"), ("OilPush", 27, yX1_init, "OilPush"), ("OilPush", 34, yX3_init, "OilPush"), ("OilPush", 54, yX5_init, "OilPush"), ("OilPush", 67, yX9_init, "OilPush"), ("OilPush", 72, yX6_init, "OilPush"), ("OilPush$Sheet", 38, yX11_get, "OilPush"), ("OilPush$Sheet", 42, yX11_within, "OilPush"), ("OilPush$Cylinder", 41, yX11_get, "OilPush"), ("OilPush$Cylinder", 55, yX11_set, "OilPush"), ("OilPush$Orders", 37, yX11_get, "OilPush"), ("OilPush$Orders", 28, yX11_set, "OilPush"), ("OilPush$Engine", 106, yX11_get, "OilPush"), ("OilPush$Engine", 37, yX11_set, "OilPush"), ("OilPush$State", 28, yX11_get, "OilPush"), ("OilPush$State", 32, yX11_set, "OilPush"), ("OilPush$Readings", 25, yX11_set, "OilPush"), ("OilPush$Readings", 29, yX11_get, "OilPush"), ("OilPush$Sheet", 46, yX11_set, "OilPush"), ("OilPush$Plant", 46, yX11_get, "OilPush")]
def okN (U : State) : Prop := (∀ q ∈ nestL, va_Nw (.methodLinkNest q.1 q.2.1 q.2.2.1 q.2.2.2) U) ∧ va_AO "OilPush$Cylinder" U ∧ va_AO "OilPush$Sheet" U ∧ va_Nw (.castable "OilPush$Held" "OilPush$Cylinder") U ∧ va_Nw (.castable "OilPush$Twin" "OilPush$Cylinder") U ∧ va_Nw (.castable "OilPush$Twin" "OilPush$Held") U
theorem okN.warm {s U : State} (hW : s.WarmedH U.vm) (h : okN s) : okN U := ⟨fun q hq => va_Nw.warmM hW (h.1 q hq), va_AO.moved hW.alike h.2.1, va_AO.moved hW.alike h.2.2.1, va_Nw.warmC hW h.2.2.2.1, va_Nw.warmC hW h.2.2.2.2.1, va_Nw.warmC hW h.2.2.2.2.2⟩
theorem okN.same {U V : State} (e : U.vm = V.vm) (h : okN U) : okN V := ⟨fun q hq => va_Nw.same rfl e (h.1 q hq), va_AO.moved (by rw [e]; exact Vm.Alike.refl _) h.2.1, va_AO.moved (by rw [e]; exact Vm.Alike.refl _) h.2.2.1, va_Nw.same rfl e h.2.2.2.1, va_Nw.same rfl e h.2.2.2.2.1, va_Nw.same rfl e h.2.2.2.2.2⟩
theorem okN.nest {U : State} (h : okN U) (k : Nat) {q : String × Nat × MethodName × String} (hk : nestL[k]? = some q) : va_Nw (.methodLinkNest q.1 q.2.1 q.2.2.1 q.2.2.2) U := h.1 q (List.mem_of_getElem? hk)
def Kw (g : Gt) (U : State) : Prop := va_K g.1 vwCl (tyG g) U ∧ okN U
theorem Kw.warm {g : Gt} {s U : State} (hW : s.WarmedH U.vm) (h : Kw g s) : Kw g U := ⟨va_K.moved hW.alike h.1, h.2.warm hW⟩
theorem Kw.same {g : Gt} {U V : State} (e : U.vm = V.vm) (h : Kw g U) : Kw g V := ⟨va_K.moved (by rw [e]; exact Vm.Alike.refl _) h.1, h.2.same e⟩
def PreW (g : Gt) (av : List Value) (ws : va_W) (sz : Nat) : Array Value → State → Prop := va_Pc av (fun U => U.heap.size = sz ∧ va_P g.1 vwCl ws U.heap ∧ va_D (fun _ => True) ws ∧ Kw g U)
theorem PreW.blind {g : Gt} {av : List Value} {ws : va_W} {sz : Nat} : FrameBlind (PreW g av ws sz) := fun a U gf mk q => by
  obtain ⟨q0, q1, qP, qD, qK⟩ := q
  exact ⟨q0, q1, qP, qD, Kw.same (U := U) rfl qK⟩
abbrev BwA (g : Gt) (A : Nat → Prop) {S : Type} (ws' : S → va_W) : S → State → Prop := fun u t => va_P g.1 vwCl (ws' u) t.heap ∧ va_D A (ws' u)
abbrev QI (g : Gt) (A : Nat → Prop) {S : Type} (post : Int32 → S → Prop) (ws' : S → va_W) := va_Qi post (BwA g A ws') A
abbrev QL (g : Gt) (A : Nat → Prop) {S : Type} (post : Int64 → S → Prop) (ws' : S → va_W) := va_Ql post (BwA g A ws') A
abbrev QV (g : Gt) (A : Nat → Prop) {S : Type} (post : S → Prop) (ws' : S → va_W) := va_Qv post (BwA g A ws') A
abbrev QQ (g : Gt) (A : Nat → Prop) {S : Type} (post : Option Nat → S → Prop) (ws' : S → va_W) := va_Qq post (BwA g A ws') A
/-- a contract: any heap that holds the cells ws; what comes back is one of the lists ws' u -/
def Ctr (l : Launch) (g : Gt) (y : MethodName) (wl : List Cond) (rm : Room) (av : List Value) (ws : va_W) (Qc : (Nat → Prop) → Array Value → State → Outcome → State → Prop) : Prop := ∀ sz : Nat, Met l y wl rm (PreW g av ws sz) (Qc (va_A ws sz)) rm.cells rm.slots (va_A ws sz)
def Ctx (g : Gt) (p : Program) (s : State) (m : MethodId) (args : Array Value) (meth : Method) (c : Code) (y : MethodName) (wl : List Cond) (cc : ByteArray) (maxL : Nat) (ret : Option FieldType) : Prop :=
  p.tables.exec = Jvm.exec ∧ c.code = cc ∧ meth.sig.returnType = ret ∧ (∀ w ∈ wl, w.before args s = true) ∧ s.vm.findClass y.cls = some m.cls ∧ meth.locks = false ∧ c.maxLocals = maxL ∧ (y.name = "<init>" → meth.name = "<init>") ∧ Kw g s
theorem Ctr.of {l : Launch} {g : Gt} {y : MethodName} {wl wl' : List Cond} {rm : Room} {av : List Value} {ws : va_W} {Qc : (Nat → Prop) → Array Value → State → Outcome → State → Prop} {cc : ByteArray} {maxL : Nat} {ret : Option FieldType} (hy : plainName y.cls = true) (hw : wl = Cond.code y cc maxL ret :: wl') (hn : (lg_sl av).length ≤ maxL)
    (body : ∀ (p : Program) (e : Env) (s : State) (m : MethodId) (below : List Frame) (meth : Method) (c : Code) (A : Nat → Prop) (ls : Array Slot) (H : Heap), Ctx g p s m av.toArray meth c y wl cc maxL ret → va_P g.1 vwCl ws H → va_D A ws → (∀ q, s.heap.size ≤ q → A q) → va_S A s.heap H [] → lv_has ls maxL (lv_args 0 av) →
      W p l e rm s m av.toArray below meth c H [] 0 0 (MQ below (Qc A) av.toArray s rm.cells rm.slots A) (F0 m 0 ls [])) : Ctr l g y wl rm av ws Qc := by
  intro sz
  refine Met.ofW (cc := cc) (maxL := maxL) (ret := ret) hy hw ?_
  intro p e s m args below meth c s₁ B hml hv
  obtain ⟨rfl, hsz, hP, hD0, hK⟩ := hv
  subst hsz
  have hl := lv_entry av (n := maxL) hn
  rw [lg_entry_eq]
  generalize (lg_sl av ++ List.replicate (maxL - (lg_sl av).length) Slot.unset).toArray = ls at hl ⊢
  exact body p e s m below meth c _ ls _ ⟨B.exec, B.bytes, B.returns, atoms_spec (ws := wl) B.pre, findClass_of_methodNamed B.named, B.notSynchronized, hml, (fun h => (name_of_methodNamed B.named B.method).1.trans h), hK⟩ hP hD0.self (fun q h => Or.inr h) va_S.rf hl
def z0 : Nat → Int32 := fun _ => 0
def zL : Nat → Int64 := fun _ => 0
theorem upd_zero (k : Nat) : upd z0 k 0 = z0 := by funext j; unfold upd z0; split <;> rfl
theorem updL_zero (k : Nat) : vp_updL zL k 0 = zL := by funext j; unfold vp_updL zL; split <;> rfl
theorem sw_out {x : Int32} {n : Nat} (hn : n < 100) (h : ∀ j : Nat, j ≤ n → ¬ x = Int32.ofNat j) : x.toInt < 0 ∨ (n : Int) < x.toInt := by
  by_cases h0 : x.toInt < 0
  · exact Or.inl h0
  · refine Or.inr (Int.not_le.mp fun h1 => ?_)
    refine h x.toInt.toNat (by omega) (Int32.toInt_inj.mp ?_)
    have := Int32.toInt_ofNat_of_lt (n := x.toInt.toNat) (by omega)
    rw [this]; omega
theorem sw4 {x : Int32} (h0 : ¬ x = 0) (h1 : ¬ x = 1) (h2 : ¬ x = 2) (h3 : ¬ x = 3) (h4 : ¬ x = 4) : x.toInt < 0 ∨ (4 : Int) < x.toInt := sw_out (n := 4) (by omega) (fun j hj => by rcases (show j = 0 ∨ j = 1 ∨ j = 2 ∨ j = 3 ∨ j = 4 by omega) with rfl | rfl | rfl | rfl | rfl <;> assumption)
theorem sw5 {x : Int32} (h0 : ¬ x = 0) (h1 : ¬ x = 1) (h2 : ¬ x = 2) (h3 : ¬ x = 3) (h4 : ¬ x = 4) (h5 : ¬ x = 5) : x.toInt < 0 ∨ (5 : Int) < x.toInt := sw_out (n := 5) (by omega) (fun j hj => by rcases (show j = 0 ∨ j = 1 ∨ j = 2 ∨ j = 3 ∨ j = 4 ∨ j = 5 by omega) with rfl | rfl | rfl | rfl | rfl | rfl <;> assumption)
theorem inc_toInt {i n : Int32} (h : ¬ n ≤ i) : (i + 1).toInt = i.toInt + 1 := by
  rw [Int32.le_iff_toInt_le] at h
  have h1 := Int32.toInt_lt n
  have h2 := Int32.le_toInt i
  rw [Int32.toInt_add, show (1 : Int32).toInt = 1 from by decide]
  rw [Int.bmod_eq_of_le] <;> omega
theorem inc_le {i n : Int32} (h : ¬ n ≤ i) : (i + 1).toInt ≤ n.toInt := by
  have := inc_toInt h
  rw [Int32.le_iff_toInt_le] at h
  omega
theorem inc_mu {i n : Int32} (h : ¬ n ≤ i) (hb : i.toInt ≤ n.toInt) : (n.toInt - (i + 1).toInt).toNat < (n.toInt - i.toInt).toNat := by
  have := inc_toInt h
  rw [Int32.le_iff_toInt_le] at h
  omega
section BASE
variable {p : Program} {l : Launch} {e : Env} {R : Room} {s : State} {m : MethodId} {args : Array Value} {below : List Frame} {meth : Method} {c : Code} {H : Heap} {locs : List Loc} {cells slots : Nat} {Q : State → Prop}
variable {cc : ByteArray} {pc : Nat} {ls : Array Slot} {rest st0 : List Value} {A : Nat → Prop} {g : Gt} {y0 : MethodName} {wl0 : List Cond} {nL : Nat} {ret0 : Option FieldType} {mc ms : Nat}
theorem nx_i {x v : Int32} (h : x = v) (k : W p l e R s m args below meth c H locs cells slots Q (F0 m pc ls (.int v :: rest))) : W p l e R s m args below meth c H locs cells slots Q (F0 m pc ls (.int x :: rest)) := by subst h; exact k
theorem nx_l {x v : Int64} (h : x = v) (k : W p l e R s m args below meth c H locs cells slots Q (F0 m pc ls (.long v :: rest))) : W p l e R s m args below meth c H locs cells slots Q (F0 m pc ls (.long x :: rest)) := by subst h; exact k
theorem nx_v {x v : Value} (h : x = v) (k : W p l e R s m args below meth c H locs cells slots Q (F0 m pc ls (v :: rest))) : W p l e R s m args below meth c H locs cells slots Q (F0 m pc ls (x :: rest)) := by subst h; exact k
theorem W.loop {α : Type} (P : α → Array Slot → Heap → List Loc → Prop) (μ : α → Nat) (x : α) (h : P x ls H locs) (step : ∀ (x : α) (ls : Array Slot) (H : Heap) (locs : List Loc), P x ls H locs → (∀ (x' : α) (ls' : Array Slot) (H' : Heap) (locs' : List Loc), P x' ls' H' locs' → μ x' < μ x → W p l e R s m args below meth c H' locs' cells slots Q (F0 m pc ls' rest)) → W p l e R s m args below meth c H locs cells slots Q (F0 m pc ls rest)) : W p l e R s m args below meth c H locs cells slots Q (F0 m pc ls rest) := by
  have key : ∀ (k : Nat) (x : α) (ls : Array Slot) (H : Heap) (locs : List Loc), μ x < k → P x ls H locs → W p l e R s m args below meth c H locs cells slots Q (F0 m pc ls rest) := by
    intro k
    induction k with
    | zero => intro x ls H locs h1; omega
    | succ k ih => intro x ls H locs h1 h2; exact step x ls H locs h2 (fun x' ls' H' locs' h3 h4 => ih x' ls' H' locs' (by omega) h3)
  exact key (μ x + 1) x ls H locs (by omega) h
theorem retI {S : Type} {post : Int32 → S → Prop} {ws' : S → va_W} {r : Int32} (C : Ctx g p s m args meth c y0 wl0 cc nL (some .int)) (hS : va_S A s.heap H locs) (u : S) (hp : post r u) (hP : va_P g.1 vwCl (ws' u) H) (hD : va_D A (ws' u)) (hc : cells ≤ mc) (hs : slots ≤ ms) (hdg : decode cc pc = .ok (.ireturn, 1)) : W p l e R s m args below meth c H locs cells slots (MQ below (QI g A post ws') args s mc ms A) (F0 m pc ls [.int r]) :=
  W.widen hc hs (W.iret C.1 C.2.1 C.2.2.1 (fun t ht _ => ⟨⟨r, u, rfl, hp, by rw [ht]; exact hP, hD⟩, hS.F ht⟩) hS.2.2 hdg C.2.2.2.2.2.1)
theorem retZ {S : Type} {post : Int32 → S → Prop} {ws' : S → va_W} {r : Int32} (C : Ctx g p s m args meth c y0 wl0 cc nL (some .boolean)) (hn : narrow .boolean (.int r) = .int r) (hS : va_S A s.heap H locs) (u : S) (hp : post r u) (hP : va_P g.1 vwCl (ws' u) H) (hD : va_D A (ws' u)) (hc : cells ≤ mc) (hs : slots ≤ ms) (hdg : decode cc pc = .ok (.ireturn, 1)) : W p l e R s m args below meth c H locs cells slots (MQ below (QI g A post ws') args s mc ms A) (F0 m pc ls [.int r]) :=
  W.widen hc hs (W.zret C.1 C.2.1 C.2.2.1 hn (fun t ht _ => ⟨⟨r, u, rfl, hp, by rw [ht]; exact hP, hD⟩, hS.F ht⟩) hS.2.2 hdg C.2.2.2.2.2.1)
theorem retL {S : Type} {post : Int64 → S → Prop} {ws' : S → va_W} {r : Int64} (C : Ctx g p s m args meth c y0 wl0 cc nL (some .long)) (hS : va_S A s.heap H locs) (u : S) (hp : post r u) (hP : va_P g.1 vwCl (ws' u) H) (hD : va_D A (ws' u)) (hc : cells ≤ mc) (hs : slots ≤ ms) (hdg : decode cc pc = .ok (.lreturn, 1)) : W p l e R s m args below meth c H locs cells slots (MQ below (QL g A post ws') args s mc ms A) (F0 m pc ls [.long r]) :=
  W.widen hc hs (W.lret C.1 C.2.1 C.2.2.1 (fun t ht _ => ⟨⟨r, u, rfl, hp, by rw [ht]; exact hP, hD⟩, hS.F ht⟩) hS.2.2 hdg C.2.2.2.2.2.1)
theorem retV {S : Type} {post : S → Prop} {ws' : S → va_W} (C : Ctx g p s m args meth c y0 wl0 cc nL none) (hS : va_S A s.heap H locs) (u : S) (hp : post u) (hP : va_P g.1 vwCl (ws' u) H) (hD : va_D A (ws' u)) (hc : cells ≤ mc) (hs : slots ≤ ms) (hdg : decode cc pc = .ok (.return_, 1)) : W p l e R s m args below meth c H locs cells slots (MQ below (QV g A post ws') args s mc ms A) (F0 m pc ls []) :=
  W.widen hc hs (W.vret C.1 C.2.1 C.2.2.1 (fun t ht _ => ⟨⟨u, rfl, hp, by rw [ht]; exact hP, hD⟩, hS.F ht⟩) hS.2.2 hdg C.2.2.2.2.2.1)
theorem retQ {S : Type} {post : Option Nat → S → Prop} {ws' : S → va_W} {n : String} {r : Option Nat} (C : Ctx g p s m args meth c y0 wl0 cc nL (some (.object n))) (hS : va_S A s.heap H locs) (u : S) (hp : post r u) (hP : va_P g.1 vwCl (ws' u) H) (hD : va_D A (ws' u)) (hc : cells ≤ mc) (hs : slots ≤ ms) {v : Value} (hv : v = va_rf r) (hdg : decode cc pc = .ok (.areturn, 1)) : W p l e R s m args below meth c H locs cells slots (MQ below (QQ g A post ws') args s mc ms A) (F0 m pc ls [v]) := by
  subst hv
  exact W.widen hc hs (W.aret C.1 C.2.1 C.2.2.1 (Or.inl ⟨_, rfl⟩) (by cases r with | none => exact Or.inl rfl | some a => exact Or.inr ⟨a, rfl⟩) (fun t ht _ => ⟨⟨r, u, rfl, hp, by rw [ht]; exact hP, hD⟩, hS.F ht⟩) hS.2.2 hdg C.2.2.2.2.2.1)
theorem va_P.pick {D : va_G} {cl : List vw_C} {ws wc : va_W} (hP : va_P D cl ws H) (is : List Nat) (hC : is.map (fun i => ws[i]?) = wc.map some) : va_P D cl wc H := by
  intro k q hk
  have h1 : (is.map (fun i => ws[i]?))[k]? = some (some q) := by rw [hC, List.getElem?_map, hk]; rfl
  rw [List.getElem?_map] at h1
  cases hi : is[k]? with
  | none => rw [hi] at h1; cases h1
  | some i => rw [hi] at h1; exact hP i q (Option.some.inj h1)
variable {y : MethodName} {wl wl' : List Cond} {rm : Room} {b index maxL n : Nat} {Cn : String} {bytes : ByteArray} {ret : Option FieldType} {As : List Value} {ws wc wr : va_W}
theorem callIV {S : Type} {post : Int32 → S → Prop} {ws' : S → va_W} (C : Ctx g p s m args meth c y0 wl0 cc nL ret0) (hM : Ctr l g y wl rm (.ref b :: As) wc (fun A => QI g A post ws')) (n : Nat) (hG : GoodIn wl0 (wsV y0.cls index Cn y wl)) (hw : wl = Cond.code y bytes maxL ret :: wl') (hd : y.cls = Cn ∧ y.cls ≠ "java/lang/invoke/MethodHandle" ∧ y.cls ≠ "java/lang/invoke/VarHandle" ∧ (parseMethodDescriptor y.desc).map (fun d => d.parameters.length) = some n) (hRm : rm.frames + 1 ≤ R.frames ∧ 8 + (maxL + 11) + rm.locals ≤ R.locals) (isC isR : List Nat) (hP : va_P g.1 vwCl ws H) (hD : va_D A ws) (hA : ∀ q, s.heap.size ≤ q → A q) (hS : va_S A s.heap H locs) (hC : isC.map (fun i => ws[i]?) = wc.map some) (hR : isR.map (fun i => ws[i]?) = wr.map some) (hnC : va_nd isC = true) (hnR : va_nd isR = true) (hdis : ∀ i ∈ isR, i ∉ isC) {k ci : Nat} {r0 : vw_C} {fs : List Value} (hrec : ws[k]? = some (b, .inr (ci, fs))) (hci : vwCl[ci]? = some r0) (hcn : r0.1 = Cn) (hnA : As.length = n) (hl : ls.size = nL) (hst : st0 = As.reverse ++ .ref b :: rest) (hrm : (rest.map fun v => v.category).sum ≤ 8) (hdg : decode cc pc = .ok (.invokevirtual index, 3)) (hf : cells + rm.cells ≤ R.cells ∧ slots + rm.slots ≤ R.slots)
    (kk : ∀ (r : Int32) (u : S) (H1 : Heap) (locs1 : List Loc), post r u → va_P g.1 vwCl (wr ++ ws' u) H1 → va_D A (wr ++ ws' u) → va_S A s.heap H1 locs1 → W p l e R s m args below meth c H1 locs1 (cells + rm.cells) (slots + rm.slots) Q (F0 m (pc + 3) ls (.int r :: rest))) : W p l e R s m args below meth c H locs cells slots Q (F0 m pc ls st0) := by
  subst hcn
  have hPc := hP.pick isC hC
  have hDc := hD.sub isC hnC hC
  have hFc := va_free hD hS hA isC hC
  refine va_calli (va_runV ⟨C.1, C.2.1, C.2.2.2.2.2.2.1, C.2.2.2.2.1, C.2.2.2.1⟩ (hM H.size) (cwV n C.2.2.2.1 hG hw rfl rfl hd hRm) ⟨PreW.blind, va_recv C.2.2.2.2.2.2.2.2.1 hP hci hrec, fun U hU hW => ⟨rfl, by rw [hU], by rw [hU]; exact hPc, hDc.weaken (fun _ _ _ _ => trivial), C.2.2.2.2.2.2.2.2.warm hW⟩⟩ rfl hnA hl hst (lv_room hrm) hdg hf) hS (fun q _ h => hFc q h) hFc (fun r u t H1 locs1 ht hvm hw hB hz1 hk1 hS1 => ?_)
  obtain ⟨hP1, hD1⟩ := hB
  rw [ht] at hP1
  obtain ⟨hP2, hD2⟩ := va_join hP hD isC isR hC hR hnR hdis hk1 hFc hP1 hD1
  exact kk r u H1 locs1 hw hP2 hD2 hS1
theorem callIS {S : Type} {post : Int32 → S → Prop} {ws' : S → va_W} (C : Ctx g p s m args meth c y0 wl0 cc nL ret0) (hM : Ctr l g y wl rm As wc (fun A => QI g A post ws')) (n : Nat) (hG : GoodIn wl0 (va_wsS y0.cls index y wl)) (hw : wl = Cond.code y bytes maxL ret :: wl') (hd : y.cls ≠ "java/lang/invoke/MethodHandle" ∧ y.cls ≠ "java/lang/invoke/VarHandle" ∧ (parseMethodDescriptor y.desc).map (fun d => d.parameters.length) = some n) (hRm : rm.frames + 1 ≤ R.frames ∧ 8 + (maxL + 11) + rm.locals ≤ R.locals) (isC isR : List Nat) (hP : va_P g.1 vwCl ws H) (hD : va_D A ws) (hA : ∀ q, s.heap.size ≤ q → A q) (hS : va_S A s.heap H locs) (hC : isC.map (fun i => ws[i]?) = wc.map some) (hR : isR.map (fun i => ws[i]?) = wr.map some) (hnC : va_nd isC = true) (hnR : va_nd isR = true) (hdis : ∀ i ∈ isR, i ∉ isC) (hnA : As.length = n) (hl : ls.size = nL) (hst : st0 = As.reverse ++ rest) (hrm : (rest.map fun v => v.category).sum ≤ 8) (hdg : decode cc pc = .ok (.invokestatic index, 3)) (hf : cells + rm.cells ≤ R.cells ∧ slots + rm.slots ≤ R.slots)
    (kk : ∀ (r : Int32) (u : S) (H1 : Heap) (locs1 : List Loc), post r u → va_P g.1 vwCl (wr ++ ws' u) H1 → va_D A (wr ++ ws' u) → va_S A s.heap H1 locs1 → W p l e R s m args below meth c H1 locs1 (cells + rm.cells) (slots + rm.slots) Q (F0 m (pc + 3) ls (.int r :: rest))) : W p l e R s m args below meth c H locs cells slots Q (F0 m pc ls st0) := by
  have hPc := hP.pick isC hC
  have hDc := hD.sub isC hnC hC
  have hFc := va_free hD hS hA isC hC
  refine va_calli (va_runS ⟨C.1, C.2.1, C.2.2.2.2.2.2.1, C.2.2.2.2.1, C.2.2.2.1⟩ (hM H.size) (va_cwS n C.2.2.2.1 hG hw rfl rfl hd hRm) ⟨PreW.blind, fun U hU hW => ⟨rfl, by rw [hU], by rw [hU]; exact hPc, hDc.weaken (fun _ _ _ _ => trivial), C.2.2.2.2.2.2.2.2.warm hW⟩⟩ rfl hnA hl hst (lv_room hrm) hdg hf) hS (fun q _ h => hFc q h) hFc (fun r u t H1 locs1 ht hvm hw hB hz1 hk1 hS1 => ?_)
  obtain ⟨hP1, hD1⟩ := hB
  rw [ht] at hP1
  obtain ⟨hP2, hD2⟩ := va_join hP hD isC isR hC hR hnR hdis hk1 hFc hP1 hD1
  exact kk r u H1 locs1 hw hP2 hD2 hS1
theorem callIN {S : Type} {post : Int32 → S → Prop} {ws' : S → va_W} (C : Ctx g p s m args meth c y0 wl0 cc nL ret0) {host : String} (hM : Ctr l g y wl rm As wc (fun A => QI g A post ws')) (n : Nat) (hG : GoodIn wl0 wl) (hw : wl = Cond.code y bytes maxL ret :: wl') (hl0 : va_Nw (.methodLinkNest y0.cls index y host) s) (hini : Cond.initialized y.cls ∈ wl0) (hst2 : Cond.static y ∈ wl0) (hd : y.cls ≠ "java/lang/invoke/MethodHandle" ∧ y.cls ≠ "java/lang/invoke/VarHandle" ∧ (parseMethodDescriptor y.desc).map (fun d => d.parameters.length) = some n) (hRm : rm.frames + 1 ≤ R.frames ∧ 8 + (maxL + 11) + rm.locals ≤ R.locals) (isC isR : List Nat) (hP : va_P g.1 vwCl ws H) (hD : va_D A ws) (hA : ∀ q, s.heap.size ≤ q → A q) (hS : va_S A s.heap H locs) (hC : isC.map (fun i => ws[i]?) = wc.map some) (hR : isR.map (fun i => ws[i]?) = wr.map some) (hnC : va_nd isC = true) (hnR : va_nd isR = true) (hdis : ∀ i ∈ isR, i ∉ isC) (hnA : As.length = n) (hl : ls.size = nL) (hst : st0 = As.reverse ++ rest) (hrm : (rest.map fun v => v.category).sum ≤ 8) (hdg : decode cc pc = .ok (.invokestatic index, 3)) (hf : cells + rm.cells ≤ R.cells ∧ slots + rm.slots ≤ R.slots)
    (kk : ∀ (r : Int32) (u : S) (H1 : Heap) (locs1 : List Loc), post r u → va_P g.1 vwCl (wr ++ ws' u) H1 → va_D A (wr ++ ws' u) → va_S A s.heap H1 locs1 → W p l e R s m args below meth c H1 locs1 (cells + rm.cells) (slots + rm.slots) Q (F0 m (pc + 3) ls (.int r :: rest))) : W p l e R s m args below meth c H locs cells slots Q (F0 m pc ls st0) := by
  have hPc := hP.pick isC hC
  have hDc := hD.sub isC hnC hC
  have hFc := va_free hD hS hA isC hC
  refine va_calli (va_runSN (host := host) ⟨C.1, C.2.1, C.2.2.2.2.2.2.1, C.2.2.2.2.1, C.2.2.2.1⟩ (hM H.size) ⟨va_cnB n C.2.2.2.1 hG hw rfl rfl hl0 (C.2.2.2.1 _ hini) hd hRm, C.2.2.2.1 _ hst2, trivial⟩ ⟨PreW.blind, fun U hU hW => ⟨rfl, by rw [hU], by rw [hU]; exact hPc, hDc.weaken (fun _ _ _ _ => trivial), C.2.2.2.2.2.2.2.2.warm hW⟩⟩ rfl hnA hl hst (lv_room hrm) hdg hf) hS (fun q _ h => hFc q h) hFc (fun r u t H1 locs1 ht hvm hw hB hz1 hk1 hS1 => ?_)
  obtain ⟨hP1, hD1⟩ := hB
  rw [ht] at hP1
  obtain ⟨hP2, hD2⟩ := va_join hP hD isC isR hC hR hnR hdis hk1 hFc hP1 hD1
  exact kk r u H1 locs1 hw hP2 hD2 hS1
theorem callLV {S : Type} {post : Int64 → S → Prop} {ws' : S → va_W} (C : Ctx g p s m args meth c y0 wl0 cc nL ret0) (hM : Ctr l g y wl rm (.ref b :: As) wc (fun A => QL g A post ws')) (n : Nat) (hG : GoodIn wl0 (wsV y0.cls index Cn y wl)) (hw : wl = Cond.code y bytes maxL ret :: wl') (hd : y.cls = Cn ∧ y.cls ≠ "java/lang/invoke/MethodHandle" ∧ y.cls ≠ "java/lang/invoke/VarHandle" ∧ (parseMethodDescriptor y.desc).map (fun d => d.parameters.length) = some n) (hRm : rm.frames + 1 ≤ R.frames ∧ 8 + (maxL + 11) + rm.locals ≤ R.locals) (isC isR : List Nat) (hP : va_P g.1 vwCl ws H) (hD : va_D A ws) (hA : ∀ q, s.heap.size ≤ q → A q) (hS : va_S A s.heap H locs) (hC : isC.map (fun i => ws[i]?) = wc.map some) (hR : isR.map (fun i => ws[i]?) = wr.map some) (hnC : va_nd isC = true) (hnR : va_nd isR = true) (hdis : ∀ i ∈ isR, i ∉ isC) {k ci : Nat} {r0 : vw_C} {fs : List Value} (hrec : ws[k]? = some (b, .inr (ci, fs))) (hci : vwCl[ci]? = some r0) (hcn : r0.1 = Cn) (hnA : As.length = n) (hl : ls.size = nL) (hst : st0 = As.reverse ++ .ref b :: rest) (hrm : (rest.map fun v => v.category).sum ≤ 8) (hdg : decode cc pc = .ok (.invokevirtual index, 3)) (hf : cells + rm.cells ≤ R.cells ∧ slots + rm.slots ≤ R.slots)
    (kk : ∀ (r : Int64) (u : S) (H1 : Heap) (locs1 : List Loc), post r u → va_P g.1 vwCl (wr ++ ws' u) H1 → va_D A (wr ++ ws' u) → va_S A s.heap H1 locs1 → W p l e R s m args below meth c H1 locs1 (cells + rm.cells) (slots + rm.slots) Q (F0 m (pc + 3) ls (.long r :: rest))) : W p l e R s m args below meth c H locs cells slots Q (F0 m pc ls st0) := by
  subst hcn
  have hPc := hP.pick isC hC
  have hDc := hD.sub isC hnC hC
  have hFc := va_free hD hS hA isC hC
  refine va_calll (va_runV ⟨C.1, C.2.1, C.2.2.2.2.2.2.1, C.2.2.2.2.1, C.2.2.2.1⟩ (hM H.size) (cwV n C.2.2.2.1 hG hw rfl rfl hd hRm) ⟨PreW.blind, va_recv C.2.2.2.2.2.2.2.2.1 hP hci hrec, fun U hU hW => ⟨rfl, by rw [hU], by rw [hU]; exact hPc, hDc.weaken (fun _ _ _ _ => trivial), C.2.2.2.2.2.2.2.2.warm hW⟩⟩ rfl hnA hl hst (lv_room hrm) hdg hf) hS (fun q _ h => hFc q h) hFc (fun r u t H1 locs1 ht hvm hw hB hz1 hk1 hS1 => ?_)
  obtain ⟨hP1, hD1⟩ := hB
  rw [ht] at hP1
  obtain ⟨hP2, hD2⟩ := va_join hP hD isC isR hC hR hnR hdis hk1 hFc hP1 hD1
  exact kk r u H1 locs1 hw hP2 hD2 hS1
theorem callLS {S : Type} {post : Int64 → S → Prop} {ws' : S → va_W} (C : Ctx g p s m args meth c y0 wl0 cc nL ret0) (hM : Ctr l g y wl rm As wc (fun A => QL g A post ws')) (n : Nat) (hG : GoodIn wl0 (va_wsS y0.cls index y wl)) (hw : wl = Cond.code y bytes maxL ret :: wl') (hd : y.cls ≠ "java/lang/invoke/MethodHandle" ∧ y.cls ≠ "java/lang/invoke/VarHandle" ∧ (parseMethodDescriptor y.desc).map (fun d => d.parameters.length) = some n) (hRm : rm.frames + 1 ≤ R.frames ∧ 8 + (maxL + 11) + rm.locals ≤ R.locals) (isC isR : List Nat) (hP : va_P g.1 vwCl ws H) (hD : va_D A ws) (hA : ∀ q, s.heap.size ≤ q → A q) (hS : va_S A s.heap H locs) (hC : isC.map (fun i => ws[i]?) = wc.map some) (hR : isR.map (fun i => ws[i]?) = wr.map some) (hnC : va_nd isC = true) (hnR : va_nd isR = true) (hdis : ∀ i ∈ isR, i ∉ isC) (hnA : As.length = n) (hl : ls.size = nL) (hst : st0 = As.reverse ++ rest) (hrm : (rest.map fun v => v.category).sum ≤ 8) (hdg : decode cc pc = .ok (.invokestatic index, 3)) (hf : cells + rm.cells ≤ R.cells ∧ slots + rm.slots ≤ R.slots)
    (kk : ∀ (r : Int64) (u : S) (H1 : Heap) (locs1 : List Loc), post r u → va_P g.1 vwCl (wr ++ ws' u) H1 → va_D A (wr ++ ws' u) → va_S A s.heap H1 locs1 → W p l e R s m args below meth c H1 locs1 (cells + rm.cells) (slots + rm.slots) Q (F0 m (pc + 3) ls (.long r :: rest))) : W p l e R s m args below meth c H locs cells slots Q (F0 m pc ls st0) := by
  have hPc := hP.pick isC hC
  have hDc := hD.sub isC hnC hC
  have hFc := va_free hD hS hA isC hC
  refine va_calll (va_runS ⟨C.1, C.2.1, C.2.2.2.2.2.2.1, C.2.2.2.2.1, C.2.2.2.1⟩ (hM H.size) (va_cwS n C.2.2.2.1 hG hw rfl rfl hd hRm) ⟨PreW.blind, fun U hU hW => ⟨rfl, by rw [hU], by rw [hU]; exact hPc, hDc.weaken (fun _ _ _ _ => trivial), C.2.2.2.2.2.2.2.2.warm hW⟩⟩ rfl hnA hl hst (lv_room hrm) hdg hf) hS (fun q _ h => hFc q h) hFc (fun r u t H1 locs1 ht hvm hw hB hz1 hk1 hS1 => ?_)
  obtain ⟨hP1, hD1⟩ := hB
  rw [ht] at hP1
  obtain ⟨hP2, hD2⟩ := va_join hP hD isC isR hC hR hnR hdis hk1 hFc hP1 hD1
  exact kk r u H1 locs1 hw hP2 hD2 hS1
theorem callLN {S : Type} {post : Int64 → S → Prop} {ws' : S → va_W} (C : Ctx g p s m args meth c y0 wl0 cc nL ret0) {host : String} (hM : Ctr l g y wl rm As wc (fun A => QL g A post ws')) (n : Nat) (hG : GoodIn wl0 wl) (hw : wl = Cond.code y bytes maxL ret :: wl') (hl0 : va_Nw (.methodLinkNest y0.cls index y host) s) (hini : Cond.initialized y.cls ∈ wl0) (hst2 : Cond.static y ∈ wl0) (hd : y.cls ≠ "java/lang/invoke/MethodHandle" ∧ y.cls ≠ "java/lang/invoke/VarHandle" ∧ (parseMethodDescriptor y.desc).map (fun d => d.parameters.length) = some n) (hRm : rm.frames + 1 ≤ R.frames ∧ 8 + (maxL + 11) + rm.locals ≤ R.locals) (isC isR : List Nat) (hP : va_P g.1 vwCl ws H) (hD : va_D A ws) (hA : ∀ q, s.heap.size ≤ q → A q) (hS : va_S A s.heap H locs) (hC : isC.map (fun i => ws[i]?) = wc.map some) (hR : isR.map (fun i => ws[i]?) = wr.map some) (hnC : va_nd isC = true) (hnR : va_nd isR = true) (hdis : ∀ i ∈ isR, i ∉ isC) (hnA : As.length = n) (hl : ls.size = nL) (hst : st0 = As.reverse ++ rest) (hrm : (rest.map fun v => v.category).sum ≤ 8) (hdg : decode cc pc = .ok (.invokestatic index, 3)) (hf : cells + rm.cells ≤ R.cells ∧ slots + rm.slots ≤ R.slots)
    (kk : ∀ (r : Int64) (u : S) (H1 : Heap) (locs1 : List Loc), post r u → va_P g.1 vwCl (wr ++ ws' u) H1 → va_D A (wr ++ ws' u) → va_S A s.heap H1 locs1 → W p l e R s m args below meth c H1 locs1 (cells + rm.cells) (slots + rm.slots) Q (F0 m (pc + 3) ls (.long r :: rest))) : W p l e R s m args below meth c H locs cells slots Q (F0 m pc ls st0) := by
  have hPc := hP.pick isC hC
  have hDc := hD.sub isC hnC hC
  have hFc := va_free hD hS hA isC hC
  refine va_calll (va_runSN (host := host) ⟨C.1, C.2.1, C.2.2.2.2.2.2.1, C.2.2.2.2.1, C.2.2.2.1⟩ (hM H.size) ⟨va_cnB n C.2.2.2.1 hG hw rfl rfl hl0 (C.2.2.2.1 _ hini) hd hRm, C.2.2.2.1 _ hst2, trivial⟩ ⟨PreW.blind, fun U hU hW => ⟨rfl, by rw [hU], by rw [hU]; exact hPc, hDc.weaken (fun _ _ _ _ => trivial), C.2.2.2.2.2.2.2.2.warm hW⟩⟩ rfl hnA hl hst (lv_room hrm) hdg hf) hS (fun q _ h => hFc q h) hFc (fun r u t H1 locs1 ht hvm hw hB hz1 hk1 hS1 => ?_)
  obtain ⟨hP1, hD1⟩ := hB
  rw [ht] at hP1
  obtain ⟨hP2, hD2⟩ := va_join hP hD isC isR hC hR hnR hdis hk1 hFc hP1 hD1
  exact kk r u H1 locs1 hw hP2 hD2 hS1
theorem callVV {S : Type} {post : S → Prop} {ws' : S → va_W} (C : Ctx g p s m args meth c y0 wl0 cc nL ret0) (hM : Ctr l g y wl rm (.ref b :: As) wc (fun A => QV g A post ws')) (n : Nat) (hG : GoodIn wl0 (wsV y0.cls index Cn y wl)) (hw : wl = Cond.code y bytes maxL ret :: wl') (hd : y.cls = Cn ∧ y.cls ≠ "java/lang/invoke/MethodHandle" ∧ y.cls ≠ "java/lang/invoke/VarHandle" ∧ (parseMethodDescriptor y.desc).map (fun d => d.parameters.length) = some n) (hRm : rm.frames + 1 ≤ R.frames ∧ 8 + (maxL + 11) + rm.locals ≤ R.locals) (isC isR : List Nat) (hP : va_P g.1 vwCl ws H) (hD : va_D A ws) (hA : ∀ q, s.heap.size ≤ q → A q) (hS : va_S A s.heap H locs) (hC : isC.map (fun i => ws[i]?) = wc.map some) (hR : isR.map (fun i => ws[i]?) = wr.map some) (hnC : va_nd isC = true) (hnR : va_nd isR = true) (hdis : ∀ i ∈ isR, i ∉ isC) {k ci : Nat} {r0 : vw_C} {fs : List Value} (hrec : ws[k]? = some (b, .inr (ci, fs))) (hci : vwCl[ci]? = some r0) (hcn : r0.1 = Cn) (hnA : As.length = n) (hl : ls.size = nL) (hst : st0 = As.reverse ++ .ref b :: rest) (hrm : (rest.map fun v => v.category).sum ≤ 8) (hdg : decode cc pc = .ok (.invokevirtual index, 3)) (hf : cells + rm.cells ≤ R.cells ∧ slots + rm.slots ≤ R.slots)
    (kk : ∀ (u : S) (H1 : Heap) (locs1 : List Loc), post u → va_P g.1 vwCl (wr ++ ws' u) H1 → va_D A (wr ++ ws' u) → va_S A s.heap H1 locs1 → W p l e R s m args below meth c H1 locs1 (cells + rm.cells) (slots + rm.slots) Q (F0 m (pc + 3) ls (rest))) : W p l e R s m args below meth c H locs cells slots Q (F0 m pc ls st0) := by
  subst hcn
  have hPc := hP.pick isC hC
  have hDc := hD.sub isC hnC hC
  have hFc := va_free hD hS hA isC hC
  refine va_callv (va_runV ⟨C.1, C.2.1, C.2.2.2.2.2.2.1, C.2.2.2.2.1, C.2.2.2.1⟩ (hM H.size) (cwV n C.2.2.2.1 hG hw rfl rfl hd hRm) ⟨PreW.blind, va_recv C.2.2.2.2.2.2.2.2.1 hP hci hrec, fun U hU hW => ⟨rfl, by rw [hU], by rw [hU]; exact hPc, hDc.weaken (fun _ _ _ _ => trivial), C.2.2.2.2.2.2.2.2.warm hW⟩⟩ rfl hnA hl hst (lv_room hrm) hdg hf) hS (fun q _ h => hFc q h) hFc (fun u t H1 locs1 ht hvm hw hB hz1 hk1 hS1 => ?_)
  obtain ⟨hP1, hD1⟩ := hB
  rw [ht] at hP1
  obtain ⟨hP2, hD2⟩ := va_join hP hD isC isR hC hR hnR hdis hk1 hFc hP1 hD1
  exact kk u H1 locs1 hw hP2 hD2 hS1
theorem callVS {S : Type} {post : S → Prop} {ws' : S → va_W} (C : Ctx g p s m args meth c y0 wl0 cc nL ret0) (hM : Ctr l g y wl rm As wc (fun A => QV g A post ws')) (n : Nat) (hG : GoodIn wl0 (va_wsS y0.cls index y wl)) (hw : wl = Cond.code y bytes maxL ret :: wl') (hd : y.cls ≠ "java/lang/invoke/MethodHandle" ∧ y.cls ≠ "java/lang/invoke/VarHandle" ∧ (parseMethodDescriptor y.desc).map (fun d => d.parameters.length) = some n) (hRm : rm.frames + 1 ≤ R.frames ∧ 8 + (maxL + 11) + rm.locals ≤ R.locals) (isC isR : List Nat) (hP : va_P g.1 vwCl ws H) (hD : va_D A ws) (hA : ∀ q, s.heap.size ≤ q → A q) (hS : va_S A s.heap H locs) (hC : isC.map (fun i => ws[i]?) = wc.map some) (hR : isR.map (fun i => ws[i]?) = wr.map some) (hnC : va_nd isC = true) (hnR : va_nd isR = true) (hdis : ∀ i ∈ isR, i ∉ isC) (hnA : As.length = n) (hl : ls.size = nL) (hst : st0 = As.reverse ++ rest) (hrm : (rest.map fun v => v.category).sum ≤ 8) (hdg : decode cc pc = .ok (.invokestatic index, 3)) (hf : cells + rm.cells ≤ R.cells ∧ slots + rm.slots ≤ R.slots)
    (kk : ∀ (u : S) (H1 : Heap) (locs1 : List Loc), post u → va_P g.1 vwCl (wr ++ ws' u) H1 → va_D A (wr ++ ws' u) → va_S A s.heap H1 locs1 → W p l e R s m args below meth c H1 locs1 (cells + rm.cells) (slots + rm.slots) Q (F0 m (pc + 3) ls (rest))) : W p l e R s m args below meth c H locs cells slots Q (F0 m pc ls st0) := by
  have hPc := hP.pick isC hC
  have hDc := hD.sub isC hnC hC
  have hFc := va_free hD hS hA isC hC
  refine va_callv (va_runS ⟨C.1, C.2.1, C.2.2.2.2.2.2.1, C.2.2.2.2.1, C.2.2.2.1⟩ (hM H.size) (va_cwS n C.2.2.2.1 hG hw rfl rfl hd hRm) ⟨PreW.blind, fun U hU hW => ⟨rfl, by rw [hU], by rw [hU]; exact hPc, hDc.weaken (fun _ _ _ _ => trivial), C.2.2.2.2.2.2.2.2.warm hW⟩⟩ rfl hnA hl hst (lv_room hrm) hdg hf) hS (fun q _ h => hFc q h) hFc (fun u t H1 locs1 ht hvm hw hB hz1 hk1 hS1 => ?_)
  obtain ⟨hP1, hD1⟩ := hB
  rw [ht] at hP1
  obtain ⟨hP2, hD2⟩ := va_join hP hD isC isR hC hR hnR hdis hk1 hFc hP1 hD1
  exact kk u H1 locs1 hw hP2 hD2 hS1
theorem callVN {S : Type} {post : S → Prop} {ws' : S → va_W} (C : Ctx g p s m args meth c y0 wl0 cc nL ret0) {host : String} (hM : Ctr l g y wl rm As wc (fun A => QV g A post ws')) (n : Nat) (hG : GoodIn wl0 wl) (hw : wl = Cond.code y bytes maxL ret :: wl') (hl0 : va_Nw (.methodLinkNest y0.cls index y host) s) (hini : Cond.initialized y.cls ∈ wl0) (hst2 : Cond.static y ∈ wl0) (hd : y.cls ≠ "java/lang/invoke/MethodHandle" ∧ y.cls ≠ "java/lang/invoke/VarHandle" ∧ (parseMethodDescriptor y.desc).map (fun d => d.parameters.length) = some n) (hRm : rm.frames + 1 ≤ R.frames ∧ 8 + (maxL + 11) + rm.locals ≤ R.locals) (isC isR : List Nat) (hP : va_P g.1 vwCl ws H) (hD : va_D A ws) (hA : ∀ q, s.heap.size ≤ q → A q) (hS : va_S A s.heap H locs) (hC : isC.map (fun i => ws[i]?) = wc.map some) (hR : isR.map (fun i => ws[i]?) = wr.map some) (hnC : va_nd isC = true) (hnR : va_nd isR = true) (hdis : ∀ i ∈ isR, i ∉ isC) (hnA : As.length = n) (hl : ls.size = nL) (hst : st0 = As.reverse ++ rest) (hrm : (rest.map fun v => v.category).sum ≤ 8) (hdg : decode cc pc = .ok (.invokestatic index, 3)) (hf : cells + rm.cells ≤ R.cells ∧ slots + rm.slots ≤ R.slots)
    (kk : ∀ (u : S) (H1 : Heap) (locs1 : List Loc), post u → va_P g.1 vwCl (wr ++ ws' u) H1 → va_D A (wr ++ ws' u) → va_S A s.heap H1 locs1 → W p l e R s m args below meth c H1 locs1 (cells + rm.cells) (slots + rm.slots) Q (F0 m (pc + 3) ls (rest))) : W p l e R s m args below meth c H locs cells slots Q (F0 m pc ls st0) := by
  have hPc := hP.pick isC hC
  have hDc := hD.sub isC hnC hC
  have hFc := va_free hD hS hA isC hC
  refine va_callv (va_runSN (host := host) ⟨C.1, C.2.1, C.2.2.2.2.2.2.1, C.2.2.2.2.1, C.2.2.2.1⟩ (hM H.size) ⟨va_cnB n C.2.2.2.1 hG hw rfl rfl hl0 (C.2.2.2.1 _ hini) hd hRm, C.2.2.2.1 _ hst2, trivial⟩ ⟨PreW.blind, fun U hU hW => ⟨rfl, by rw [hU], by rw [hU]; exact hPc, hDc.weaken (fun _ _ _ _ => trivial), C.2.2.2.2.2.2.2.2.warm hW⟩⟩ rfl hnA hl hst (lv_room hrm) hdg hf) hS (fun q _ h => hFc q h) hFc (fun u t H1 locs1 ht hvm hw hB hz1 hk1 hS1 => ?_)
  obtain ⟨hP1, hD1⟩ := hB
  rw [ht] at hP1
  obtain ⟨hP2, hD2⟩ := va_join hP hD isC isR hC hR hnR hdis hk1 hFc hP1 hD1
  exact kk u H1 locs1 hw hP2 hD2 hS1
theorem callVI {S : Type} {post : S → Prop} {ws' : S → va_W} (C : Ctx g p s m args meth c y0 wl0 cc nL ret0) (hM : Ctr l g y wl rm (.ref b :: As) wc (fun A => QV g A post ws')) (n : Nat) (hG : GoodIn wl0 wl) (hw : wl = Cond.code y bytes maxL none :: wl') (hini : Cond.initialized y.cls ∈ wl0) (hlk : Cond.methodLink y0.cls index y ∈ wl0) (hins : Cond.instanceMethod y ∈ wl0) (hnm : y.name = "<init>") (hd : y.cls ≠ "java/lang/invoke/MethodHandle" ∧ y.cls ≠ "java/lang/invoke/VarHandle" ∧ (parseMethodDescriptor y.desc).map (fun d => d.parameters.length) = some n) (hRm : rm.frames + 1 ≤ R.frames ∧ 8 + (maxL + 11) + rm.locals ≤ R.locals) (isC isR : List Nat) (hP : va_P g.1 vwCl ws H) (hD : va_D A ws) (hA : ∀ q, s.heap.size ≤ q → A q) (hS : va_S A s.heap H locs) (hC : isC.map (fun i => ws[i]?) = wc.map some) (hR : isR.map (fun i => ws[i]?) = wr.map some) (hnC : va_nd isC = true) (hnR : va_nd isR = true) (hdis : ∀ i ∈ isR, i ∉ isC) (hnA : As.length = n) (hl : ls.size = nL) (hst : st0 = As.reverse ++ .ref b :: rest) (hrm : (rest.map fun v => v.category).sum ≤ 8) (hdg : decode cc pc = .ok (.invokespecial index, 3)) (hf : cells + rm.cells ≤ R.cells ∧ slots + rm.slots ≤ R.slots)
    (kk : ∀ (u : S) (H1 : Heap) (locs1 : List Loc), post u → va_P g.1 vwCl (wr ++ ws' u) H1 → va_D A (wr ++ ws' u) → va_S A s.heap H1 locs1 → W p l e R s m args below meth c H1 locs1 (cells + rm.cells) (slots + rm.slots) Q (F0 m (pc + 3) ls (rest))) : W p l e R s m args below meth c H locs cells slots Q (F0 m pc ls st0) := by
  have hPc := hP.pick isC hC
  have hDc := hD.sub isC hnC hC
  have hFc := va_free hD hS hA isC hC
  refine va_callv (va_runI ⟨C.1, C.2.1, C.2.2.2.2.2.2.1, C.2.2.2.2.1, C.2.2.2.1⟩ (hM H.size) (cwI n C.2.2.2.1 hG hw rfl rfl (C.2.2.2.1 _ hini) (C.2.2.2.1 _ hlk) (C.2.2.2.1 _ hins) hnm hd hRm) ⟨PreW.blind, fun U hU hW => ⟨rfl, by rw [hU], by rw [hU]; exact hPc, hDc.weaken (fun _ _ _ _ => trivial), C.2.2.2.2.2.2.2.2.warm hW⟩⟩ rfl hnA hl hst (lv_room hrm) hdg hf) hS (fun q _ h => hFc q h) hFc (fun u t H1 locs1 ht hvm hw hB hz1 hk1 hS1 => ?_)
  obtain ⟨hP1, hD1⟩ := hB
  rw [ht] at hP1
  obtain ⟨hP2, hD2⟩ := va_join hP hD isC isR hC hR hnR hdis hk1 hFc hP1 hD1
  exact kk u H1 locs1 hw hP2 hD2 hS1
theorem callVIN {S : Type} {post : S → Prop} {ws' : S → va_W} (C : Ctx g p s m args meth c y0 wl0 cc nL ret0) {host : String} (hM : Ctr l g y wl rm (.ref b :: As) wc (fun A => QV g A post ws')) (n : Nat) (hG : GoodIn wl0 wl) (hw : wl = Cond.code y bytes maxL none :: wl') (hl0 : va_Nw (.methodLinkNest y0.cls index y host) s) (hini : Cond.initialized y.cls ∈ wl0) (hins : Cond.instanceMethod y ∈ wl0) (hnm : y.name = "<init>") (hd : y.cls ≠ "java/lang/invoke/MethodHandle" ∧ y.cls ≠ "java/lang/invoke/VarHandle" ∧ (parseMethodDescriptor y.desc).map (fun d => d.parameters.length) = some n) (hRm : rm.frames + 1 ≤ R.frames ∧ 8 + (maxL + 11) + rm.locals ≤ R.locals) (isC isR : List Nat) (hP : va_P g.1 vwCl ws H) (hD : va_D A ws) (hA : ∀ q, s.heap.size ≤ q → A q) (hS : va_S A s.heap H locs) (hC : isC.map (fun i => ws[i]?) = wc.map some) (hR : isR.map (fun i => ws[i]?) = wr.map some) (hnC : va_nd isC = true) (hnR : va_nd isR = true) (hdis : ∀ i ∈ isR, i ∉ isC) (hnA : As.length = n) (hl : ls.size = nL) (hst : st0 = As.reverse ++ .ref b :: rest) (hrm : (rest.map fun v => v.category).sum ≤ 8) (hdg : decode cc pc = .ok (.invokespecial index, 3)) (hf : cells + rm.cells ≤ R.cells ∧ slots + rm.slots ≤ R.slots)
    (kk : ∀ (u : S) (H1 : Heap) (locs1 : List Loc), post u → va_P g.1 vwCl (wr ++ ws' u) H1 → va_D A (wr ++ ws' u) → va_S A s.heap H1 locs1 → W p l e R s m args below meth c H1 locs1 (cells + rm.cells) (slots + rm.slots) Q (F0 m (pc + 3) ls (rest))) : W p l e R s m args below meth c H locs cells slots Q (F0 m pc ls st0) := by
  have hPc := hP.pick isC hC
  have hDc := hD.sub isC hnC hC
  have hFc := va_free hD hS hA isC hC
  refine va_callv (va_runIN (host := host) ⟨C.1, C.2.1, C.2.2.2.2.2.2.1, C.2.2.2.2.1, C.2.2.2.1⟩ (hM H.size) ⟨va_cnB n C.2.2.2.1 hG hw rfl rfl hl0 (C.2.2.2.1 _ hini) hd hRm, hnm, C.2.2.2.1 _ hins⟩ ⟨PreW.blind, fun U hU hW => ⟨rfl, by rw [hU], by rw [hU]; exact hPc, hDc.weaken (fun _ _ _ _ => trivial), C.2.2.2.2.2.2.2.2.warm hW⟩⟩ rfl hnA hl hst (lv_room hrm) hdg hf) hS (fun q _ h => hFc q h) hFc (fun u t H1 locs1 ht hvm hw hB hz1 hk1 hS1 => ?_)
  obtain ⟨hP1, hD1⟩ := hB
  rw [ht] at hP1
  obtain ⟨hP2, hD2⟩ := va_join hP hD isC isR hC hR hnR hdis hk1 hFc hP1 hD1
  exact kk u H1 locs1 hw hP2 hD2 hS1
theorem callQV {S : Type} {post : Option Nat → S → Prop} {ws' : S → va_W} (C : Ctx g p s m args meth c y0 wl0 cc nL ret0) (hM : Ctr l g y wl rm (.ref b :: As) wc (fun A => QQ g A post ws')) (n : Nat) (hG : GoodIn wl0 (wsV y0.cls index Cn y wl)) (hw : wl = Cond.code y bytes maxL ret :: wl') (hd : y.cls = Cn ∧ y.cls ≠ "java/lang/invoke/MethodHandle" ∧ y.cls ≠ "java/lang/invoke/VarHandle" ∧ (parseMethodDescriptor y.desc).map (fun d => d.parameters.length) = some n) (hRm : rm.frames + 1 ≤ R.frames ∧ 8 + (maxL + 11) + rm.locals ≤ R.locals) (isC isR : List Nat) (hP : va_P g.1 vwCl ws H) (hD : va_D A ws) (hA : ∀ q, s.heap.size ≤ q → A q) (hS : va_S A s.heap H locs) (hC : isC.map (fun i => ws[i]?) = wc.map some) (hR : isR.map (fun i => ws[i]?) = wr.map some) (hnC : va_nd isC = true) (hnR : va_nd isR = true) (hdis : ∀ i ∈ isR, i ∉ isC) {k ci : Nat} {r0 : vw_C} {fs : List Value} (hrec : ws[k]? = some (b, .inr (ci, fs))) (hci : vwCl[ci]? = some r0) (hcn : r0.1 = Cn) (hnA : As.length = n) (hl : ls.size = nL) (hst : st0 = As.reverse ++ .ref b :: rest) (hrm : (rest.map fun v => v.category).sum ≤ 8) (hdg : decode cc pc = .ok (.invokevirtual index, 3)) (hf : cells + rm.cells ≤ R.cells ∧ slots + rm.slots ≤ R.slots)
    (kk : ∀ (r : Option Nat) (u : S) (H1 : Heap) (locs1 : List Loc), post r u → va_P g.1 vwCl (wr ++ ws' u) H1 → va_D A (wr ++ ws' u) → va_S A s.heap H1 locs1 → W p l e R s m args below meth c H1 locs1 (cells + rm.cells) (slots + rm.slots) Q (F0 m (pc + 3) ls (va_rf r :: rest))) : W p l e R s m args below meth c H locs cells slots Q (F0 m pc ls st0) := by
  subst hcn
  have hPc := hP.pick isC hC
  have hDc := hD.sub isC hnC hC
  have hFc := va_free hD hS hA isC hC
  refine va_callq (va_runV ⟨C.1, C.2.1, C.2.2.2.2.2.2.1, C.2.2.2.2.1, C.2.2.2.1⟩ (hM H.size) (cwV n C.2.2.2.1 hG hw rfl rfl hd hRm) ⟨PreW.blind, va_recv C.2.2.2.2.2.2.2.2.1 hP hci hrec, fun U hU hW => ⟨rfl, by rw [hU], by rw [hU]; exact hPc, hDc.weaken (fun _ _ _ _ => trivial), C.2.2.2.2.2.2.2.2.warm hW⟩⟩ rfl hnA hl hst (lv_room hrm) hdg hf) hS (fun q _ h => hFc q h) hFc (fun r u t H1 locs1 ht hvm hw hB hz1 hk1 hS1 => ?_)
  obtain ⟨hP1, hD1⟩ := hB
  rw [ht] at hP1
  obtain ⟨hP2, hD2⟩ := va_join hP hD isC isR hC hR hnR hdis hk1 hFc hP1 hD1
  exact kk r u H1 locs1 hw hP2 hD2 hS1
theorem callQS {S : Type} {post : Option Nat → S → Prop} {ws' : S → va_W} (C : Ctx g p s m args meth c y0 wl0 cc nL ret0) (hM : Ctr l g y wl rm As wc (fun A => QQ g A post ws')) (n : Nat) (hG : GoodIn wl0 (va_wsS y0.cls index y wl)) (hw : wl = Cond.code y bytes maxL ret :: wl') (hd : y.cls ≠ "java/lang/invoke/MethodHandle" ∧ y.cls ≠ "java/lang/invoke/VarHandle" ∧ (parseMethodDescriptor y.desc).map (fun d => d.parameters.length) = some n) (hRm : rm.frames + 1 ≤ R.frames ∧ 8 + (maxL + 11) + rm.locals ≤ R.locals) (isC isR : List Nat) (hP : va_P g.1 vwCl ws H) (hD : va_D A ws) (hA : ∀ q, s.heap.size ≤ q → A q) (hS : va_S A s.heap H locs) (hC : isC.map (fun i => ws[i]?) = wc.map some) (hR : isR.map (fun i => ws[i]?) = wr.map some) (hnC : va_nd isC = true) (hnR : va_nd isR = true) (hdis : ∀ i ∈ isR, i ∉ isC) (hnA : As.length = n) (hl : ls.size = nL) (hst : st0 = As.reverse ++ rest) (hrm : (rest.map fun v => v.category).sum ≤ 8) (hdg : decode cc pc = .ok (.invokestatic index, 3)) (hf : cells + rm.cells ≤ R.cells ∧ slots + rm.slots ≤ R.slots)
    (kk : ∀ (r : Option Nat) (u : S) (H1 : Heap) (locs1 : List Loc), post r u → va_P g.1 vwCl (wr ++ ws' u) H1 → va_D A (wr ++ ws' u) → va_S A s.heap H1 locs1 → W p l e R s m args below meth c H1 locs1 (cells + rm.cells) (slots + rm.slots) Q (F0 m (pc + 3) ls (va_rf r :: rest))) : W p l e R s m args below meth c H locs cells slots Q (F0 m pc ls st0) := by
  have hPc := hP.pick isC hC
  have hDc := hD.sub isC hnC hC
  have hFc := va_free hD hS hA isC hC
  refine va_callq (va_runS ⟨C.1, C.2.1, C.2.2.2.2.2.2.1, C.2.2.2.2.1, C.2.2.2.1⟩ (hM H.size) (va_cwS n C.2.2.2.1 hG hw rfl rfl hd hRm) ⟨PreW.blind, fun U hU hW => ⟨rfl, by rw [hU], by rw [hU]; exact hPc, hDc.weaken (fun _ _ _ _ => trivial), C.2.2.2.2.2.2.2.2.warm hW⟩⟩ rfl hnA hl hst (lv_room hrm) hdg hf) hS (fun q _ h => hFc q h) hFc (fun r u t H1 locs1 ht hvm hw hB hz1 hk1 hS1 => ?_)
  obtain ⟨hP1, hD1⟩ := hB
  rw [ht] at hP1
  obtain ⟨hP2, hD2⟩ := va_join hP hD isC isR hC hR hnR hdis hk1 hFc hP1 hD1
  exact kk r u H1 locs1 hw hP2 hD2 hS1
theorem callQN {S : Type} {post : Option Nat → S → Prop} {ws' : S → va_W} (C : Ctx g p s m args meth c y0 wl0 cc nL ret0) {host : String} (hM : Ctr l g y wl rm As wc (fun A => QQ g A post ws')) (n : Nat) (hG : GoodIn wl0 wl) (hw : wl = Cond.code y bytes maxL ret :: wl') (hl0 : va_Nw (.methodLinkNest y0.cls index y host) s) (hini : Cond.initialized y.cls ∈ wl0) (hst2 : Cond.static y ∈ wl0) (hd : y.cls ≠ "java/lang/invoke/MethodHandle" ∧ y.cls ≠ "java/lang/invoke/VarHandle" ∧ (parseMethodDescriptor y.desc).map (fun d => d.parameters.length) = some n) (hRm : rm.frames + 1 ≤ R.frames ∧ 8 + (maxL + 11) + rm.locals ≤ R.locals) (isC isR : List Nat) (hP : va_P g.1 vwCl ws H) (hD : va_D A ws) (hA : ∀ q, s.heap.size ≤ q → A q) (hS : va_S A s.heap H locs) (hC : isC.map (fun i => ws[i]?) = wc.map some) (hR : isR.map (fun i => ws[i]?) = wr.map some) (hnC : va_nd isC = true) (hnR : va_nd isR = true) (hdis : ∀ i ∈ isR, i ∉ isC) (hnA : As.length = n) (hl : ls.size = nL) (hst : st0 = As.reverse ++ rest) (hrm : (rest.map fun v => v.category).sum ≤ 8) (hdg : decode cc pc = .ok (.invokestatic index, 3)) (hf : cells + rm.cells ≤ R.cells ∧ slots + rm.slots ≤ R.slots)
    (kk : ∀ (r : Option Nat) (u : S) (H1 : Heap) (locs1 : List Loc), post r u → va_P g.1 vwCl (wr ++ ws' u) H1 → va_D A (wr ++ ws' u) → va_S A s.heap H1 locs1 → W p l e R s m args below meth c H1 locs1 (cells + rm.cells) (slots + rm.slots) Q (F0 m (pc + 3) ls (va_rf r :: rest))) : W p l e R s m args below meth c H locs cells slots Q (F0 m pc ls st0) := by
  have hPc := hP.pick isC hC
  have hDc := hD.sub isC hnC hC
  have hFc := va_free hD hS hA isC hC
  refine va_callq (va_runSN (host := host) ⟨C.1, C.2.1, C.2.2.2.2.2.2.1, C.2.2.2.2.1, C.2.2.2.1⟩ (hM H.size) ⟨va_cnB n C.2.2.2.1 hG hw rfl rfl hl0 (C.2.2.2.1 _ hini) hd hRm, C.2.2.2.1 _ hst2, trivial⟩ ⟨PreW.blind, fun U hU hW => ⟨rfl, by rw [hU], by rw [hU]; exact hPc, hDc.weaken (fun _ _ _ _ => trivial), C.2.2.2.2.2.2.2.2.warm hW⟩⟩ rfl hnA hl hst (lv_room hrm) hdg hf) hS (fun q _ h => hFc q h) hFc (fun r u t H1 locs1 ht hvm hw hB hz1 hk1 hS1 => ?_)
  obtain ⟨hP1, hD1⟩ := hB
  rw [ht] at hP1
  obtain ⟨hP2, hD2⟩ := va_join hP hD isC isR hC hR hnR hdis hk1 hFc hP1 hD1
  exact kk r u H1 locs1 hw hP2 hD2 hS1
def PureI (l : Launch) (y : MethodName) (wl : List Cond) (rm : Room) (av : List Value) (r : Int32) : Prop := Met l y wl rm (fun v _ => v = av.toArray) (vp_Si (fun x => x = r)) 0 0 (fun _ => False)
def PureL (l : Launch) (y : MethodName) (wl : List Cond) (rm : Room) (av : List Value) (r : Int64) : Prop := Met l y wl rm (fun v _ => v = av.toArray) (vp_Sl (fun x => x = r)) 0 0 (fun _ => False)
theorem pureIS {r : Int32} (F : CallFix p m c cc nL s args wl0 y0.cls) (hM : PureI l y wl rm As r) (n : Nat) (hG : GoodIn wl0 (va_wsS y0.cls index y wl)) (hw : wl = Cond.code y bytes maxL ret :: wl') (hd : y.cls ≠ "java/lang/invoke/MethodHandle" ∧ y.cls ≠ "java/lang/invoke/VarHandle" ∧ (parseMethodDescriptor y.desc).map (fun d => d.parameters.length) = some n) (hrc : rm.cells = 0) (hrs : rm.slots = 0) (hRm : rm.frames + 1 ≤ R.frames ∧ 8 + (maxL + 11) + rm.locals ≤ R.locals) (hcl : cells ≤ R.cells) (hsl : slots ≤ R.slots) (hnA : As.length = n) (hl : ls.size = nL) (hst : st0 = As.reverse ++ rest) (hrm : (rest.map fun v => v.category).sum ≤ 8) (hdg : decode cc pc = .ok (.invokestatic index, 3)) (kk : W p l e R s m args below meth c H locs cells slots Q (F0 m (pc + 3) ls (.int r :: rest))) : W p l e R s m args below meth c H locs cells slots Q (F0 m pc ls st0) :=
  vp_callSi (W.runS F hM (va_cwS n F.2.2.2.2 hG hw hrc hrs hd hRm) preEq rfl hnA hl hst (lv_room hrm) hdg ⟨hcl, hsl⟩) (fun r1 h1 => by subst h1; exact kk)
theorem pureIN {r : Int32} {host : String} (F : CallFix p m c cc nL s args wl0 y0.cls) (hM : PureI l y wl rm As r) (n : Nat) (hG : GoodIn wl0 wl) (hl0 : va_Nw (.methodLinkNest y0.cls index y host) s) (hini : Cond.initialized y.cls ∈ wl0) (hst2 : Cond.static y ∈ wl0) (hw : wl = Cond.code y bytes maxL ret :: wl') (hd : y.cls ≠ "java/lang/invoke/MethodHandle" ∧ y.cls ≠ "java/lang/invoke/VarHandle" ∧ (parseMethodDescriptor y.desc).map (fun d => d.parameters.length) = some n) (hrc : rm.cells = 0) (hrs : rm.slots = 0) (hRm : rm.frames + 1 ≤ R.frames ∧ 8 + (maxL + 11) + rm.locals ≤ R.locals) (hcl : cells ≤ R.cells) (hsl : slots ≤ R.slots) (hnA : As.length = n) (hl : ls.size = nL) (hst : st0 = As.reverse ++ rest) (hrm : (rest.map fun v => v.category).sum ≤ 8) (hdg : decode cc pc = .ok (.invokestatic index, 3)) (kk : W p l e R s m args below meth c H locs cells slots Q (F0 m (pc + 3) ls (.int r :: rest))) : W p l e R s m args below meth c H locs cells slots Q (F0 m pc ls st0) :=
  vp_callSi (va_Run.run (va_runSN (host := host) F hM ⟨va_cnB n F.2.2.2.2 hG hw hrc hrs hl0 (F.2.2.2.2 _ hini) hd hRm, F.2.2.2.2 _ hst2, trivial⟩ preEq rfl hnA hl hst (lv_room hrm) hdg ⟨hcl, hsl⟩)) (fun r1 h1 => by subst h1; exact kk)
theorem pureLS {r : Int64} (F : CallFix p m c cc nL s args wl0 y0.cls) (hM : PureL l y wl rm As r) (n : Nat) (hG : GoodIn wl0 (va_wsS y0.cls index y wl)) (hw : wl = Cond.code y bytes maxL ret :: wl') (hd : y.cls ≠ "java/lang/invoke/MethodHandle" ∧ y.cls ≠ "java/lang/invoke/VarHandle" ∧ (parseMethodDescriptor y.desc).map (fun d => d.parameters.length) = some n) (hrc : rm.cells = 0) (hrs : rm.slots = 0) (hRm : rm.frames + 1 ≤ R.frames ∧ 8 + (maxL + 11) + rm.locals ≤ R.locals) (hcl : cells ≤ R.cells) (hsl : slots ≤ R.slots) (hnA : As.length = n) (hl : ls.size = nL) (hst : st0 = As.reverse ++ rest) (hrm : (rest.map fun v => v.category).sum ≤ 8) (hdg : decode cc pc = .ok (.invokestatic index, 3)) (kk : W p l e R s m args below meth c H locs cells slots Q (F0 m (pc + 3) ls (.long r :: rest))) : W p l e R s m args below meth c H locs cells slots Q (F0 m pc ls st0) :=
  vp_callSl (W.runS F hM (va_cwS n F.2.2.2.2 hG hw hrc hrs hd hRm) preEq rfl hnA hl hst (lv_room hrm) hdg ⟨hcl, hsl⟩) (fun r1 h1 => by subst h1; exact kk)
theorem PureI.of {r : Int32} {av : List Value} (hy : plainName y.cls = true) (hw : wl = Cond.code y cc maxL ret :: wl') (hn : (lg_sl av).length ≤ maxL)
    (body : ∀ (p : Program) (e : Env) (s : State) (m : MethodId) (below : List Frame) (meth : Method) (c : Code) (ls : Array Slot), p.tables.exec = Jvm.exec → c.code = cc → meth.sig.returnType = ret → (∀ w ∈ wl, w.before av.toArray s = true) → s.vm.findClass y.cls = some m.cls → meth.locks = false → c.maxLocals = maxL → lv_has ls maxL (lv_args 0 av) →
      W p l e rm s m av.toArray below meth c s.heap [] 0 0 (MQ below (vp_Si (fun x => x = r)) av.toArray s 0 0 (fun _ => False)) (F0 m 0 ls [])) : PureI l y wl rm av r := by
  refine Met.ofW (cc := cc) (maxL := maxL) (ret := ret) hy hw ?_
  intro p e s m args below meth c s₁ B hml hv
  have hv : args = av.toArray := hv
  subst hv
  have hl := lv_entry av (n := maxL) hn
  rw [lg_entry_eq]
  generalize (lg_sl av ++ List.replicate (maxL - (lg_sl av).length) Slot.unset).toArray = ls at hl ⊢
  exact body p e s m below meth c ls B.exec B.bytes B.returns (atoms_spec (ws := wl) B.pre) (findClass_of_methodNamed B.named) B.notSynchronized hml hl
theorem PureL.of {r : Int64} {av : List Value} (hy : plainName y.cls = true) (hw : wl = Cond.code y cc maxL ret :: wl') (hn : (lg_sl av).length ≤ maxL)
    (body : ∀ (p : Program) (e : Env) (s : State) (m : MethodId) (below : List Frame) (meth : Method) (c : Code) (ls : Array Slot), p.tables.exec = Jvm.exec → c.code = cc → meth.sig.returnType = ret → (∀ w ∈ wl, w.before av.toArray s = true) → s.vm.findClass y.cls = some m.cls → meth.locks = false → c.maxLocals = maxL → lv_has ls maxL (lv_args 0 av) →
      W p l e rm s m av.toArray below meth c s.heap [] 0 0 (MQ below (vp_Sl (fun x => x = r)) av.toArray s 0 0 (fun _ => False)) (F0 m 0 ls [])) : PureL l y wl rm av r := by
  refine Met.ofW (cc := cc) (maxL := maxL) (ret := ret) hy hw ?_
  intro p e s m args below meth c s₁ B hml hv
  have hv : args = av.toArray := hv
  subst hv
  have hl := lv_entry av (n := maxL) hn
  rw [lg_entry_eq]
  generalize (lg_sl av ++ List.replicate (maxL - (lg_sl av).length) Slot.unset).toArray = ls at hl ⊢
  exact body p e s m below meth c ls B.exec B.bytes B.returns (atoms_spec (ws := wl) B.pre) (findClass_of_methodNamed B.named) B.notSynchronized hml hl
theorem pretI {r v : Int32} (hx : p.tables.exec = Jvm.exec) (hb : c.code = cc) (hr : meth.sig.returnType = some .int) (hlocks : meth.locks = false) (hv : v = r) (hdg : decode cc pc = .ok (.ireturn, 1)) : W p l e R s m args below meth c s.heap [] 0 0 (MQ below (vp_Si (fun x => x = r)) args s 0 0 (fun _ => False)) (F0 m pc ls [.int v]) :=
  W.iret hx hb hr (fun t ht _ => ⟨v, rfl, hv, ht⟩) (fun q h => by cases h) hdg hlocks
theorem pretZ {r v : Int32} (hx : p.tables.exec = Jvm.exec) (hb : c.code = cc) (hr : meth.sig.returnType = some .boolean) (hlocks : meth.locks = false) (hn : narrow .boolean (.int v) = .int v) (hv : v = r) (hdg : decode cc pc = .ok (.ireturn, 1)) : W p l e R s m args below meth c s.heap [] 0 0 (MQ below (vp_Si (fun x => x = r)) args s 0 0 (fun _ => False)) (F0 m pc ls [.int v]) :=
  W.zret hx hb hr hn (fun t ht _ => ⟨v, rfl, hv, ht⟩) (fun q h => by cases h) hdg hlocks
theorem pretL {r v : Int64} (hx : p.tables.exec = Jvm.exec) (hb : c.code = cc) (hr : meth.sig.returnType = some .long) (hlocks : meth.locks = false) (hv : v = r) (hdg : decode cc pc = .ok (.lreturn, 1)) : W p l e R s m args below meth c s.heap [] 0 0 (MQ below (vp_Sl (fun x => x = r)) args s 0 0 (fun _ => False)) (F0 m pc ls [.long v]) :=
  W.lret hx hb hr (fun t ht _ => ⟨v, rfl, hv, ht⟩) (fun q h => by cases h) hdg hlocks
/-- new arrays: their class is the one of our list -/
theorem newG {atype : ArrayType} {ty : FieldType} (k : Nat) (hk : (tyG g)[k]? = some (g.2 k, ty)) (hra : ∀ cA : ClassId, va_RA s cA ty → s.vm.findClass ("[" ++ ty.toString) = some cA) (C : Ctx g p s m args meth c y0 wl0 cc nL ret0) (harr : Cond.arrayClass ty ∈ wl0) (hty : newarray.typeOf atype = ty) (hP : va_P g.1 vwCl ws H) (hD : va_D A ws) (hS : va_S A s.heap H locs) (hA : ∀ q, s.heap.size ≤ q → A q)
    {n : Int32} {N' : Nat} {a0 : vp_A} (ha : ∀ cA : ClassId, vp_cell cA a0 = arrV cA N' (fun _ => defaultValue ty)) (hn : ¬ n < 0) (hN : n.toNatClampNeg = N') (hbytes : N' * componentBytes ty ≤ 536870912) (hcells : cells + 1 ≤ R.cells) (hslots : slots + N' ≤ R.slots) (hdg : decode cc pc = .ok (.newarray atype, 2))
    (kk : ∀ (q : Nat) (H1 : Heap), va_P g.1 vwCl (ws ++ [(q, .inl (g.2 k, a0))]) H1 → va_D A (ws ++ [(q, .inl (g.2 k, a0))]) → va_S A s.heap H1 locs →
      W p l e R s m args below meth c H1 locs (cells + 1) (slots + N') Q (F0 m (pc + 2) ls (.ref q :: rest))) : W p l e R s m args below meth c H locs cells slots Q (F0 m pc ls (.int n :: rest)) := by
  subst hty
  refine va_newa C.1 C.2.1 (C.2.2.2.1 _ harr) rfl C.2.2.2.2.2.2.2.2.1 hP hD hS hA ha hn hN hbytes hcells hslots hdg (fun q cA H1 hK1 hP1 hD1 hS1 => ?_)
  have e1 := hra _ (hK1.2 5 (cA, _) rfl).2
  have e2 := hra _ (C.2.2.2.2.2.2.2.2.1.2 k _ hk).2
  have e3 : cA = g.2 k := Option.some.inj (e1.symm.trans e2)
  subst e3
  exact kk q H1 hP1 hD1 hS1
theorem newQ {Cn : String} (k : Nat) (hk : (tyG g)[k]? = some (g.2 k, .object Cn)) (C : Ctx g p s m args meth c y0 wl0 cc nL ret0) (hlk : Cond.classLink y0.cls index Cn ∈ wl0) (hov : va_AO Cn s) (hP : va_P g.1 vwCl ws H) (hD : va_D A ws) (hS : va_S A s.heap H locs) (hA : ∀ q, s.heap.size ≤ q → A q)
    {n : Int32} {N' : Nat} (hn : ¬ n < 0) (hN : n.toNatClampNeg = N') (hbytes : N' * 4 ≤ 536870912) (hcells : cells + 1 ≤ R.cells) (hslots : slots + N' ≤ R.slots) (hdg : decode cc pc = .ok (.anewarray index, 3))
    (kk : ∀ (q : Nat) (H1 : Heap), va_P g.1 vwCl (ws ++ [(q, .inl (g.2 k, N', .inr (.inr (.inr (.inr (fun _ => none))))))]) H1 → va_D A (ws ++ [(q, .inl (g.2 k, N', .inr (.inr (.inr (.inr (fun _ => none))))))]) → va_S A s.heap H1 locs →
      W p l e R s m args below meth c H1 locs (cells + 1) (slots + N') Q (F0 m (pc + 3) ls (.ref q :: rest))) : W p l e R s m args below meth c H locs cells slots Q (F0 m pc ls (.int n :: rest)) := by
  refine va_newq C.1 C.2.1 C.2.2.2.2.1 (C.2.2.2.1 _ hlk) hov C.2.2.2.2.2.2.2.2.1 hP hD hS hA hn hN hbytes hcells hslots hdg (fun q cA H1 hK1 hP1 hD1 hS1 => ?_)
  obtain ⟨kA, comp, -, -, -, e1⟩ := (hK1.2 5 (cA, _) rfl).2
  obtain ⟨kA2, comp2, -, -, -, e2⟩ := (C.2.2.2.2.2.2.2.2.1.2 k _ hk).2
  have e3 : cA = g.2 k := Option.some.inj (e1.symm.trans e2)
  subst e3
  exact kk q H1 hP1 hD1 hS1
end BASE
theorem nwX0 : ∀ j, j < 7 → defaultValue (tyX0 j) = vp_V [.int 0, .int 0, .int 0, .null, .int 0, .int 0, .int 0] j := by decide +kernel
theorem nwX1 : ∀ j, j < 13 → defaultValue (tyX1 j) = vp_V [.null, .null, .int 0, .null, .null, .null, .int 0, .int 0, .int 0, .int 0, .long 0, .long 0, .long 0] j := by decide +kernel
theorem nwX2 : ∀ j, j < 7 → defaultValue (tyX2 j) = vp_V [.int 0, .int 0, .int 0, .null, .int 0, .int 0, .int 0] j := by decide +kernel
theorem nwX3 : ∀ j, j < 5 → defaultValue (tyX3 j) = vp_V [.null, .null, .null, .null, .int 0] j := by decide +kernel
theorem nwX4 : ∀ j, j < 5 → defaultValue (tyX4 j) = vp_V [.int 0, .int 0, .null, .int 0, .null] j := by decide +kernel
theorem nwX5 : ∀ j, j < 4 → defaultValue (tyX5 j) = vp_V [.null, .null, .null, .int 0] j := by decide +kernel
theorem nwX6 : ∀ j, j < 4 → defaultValue (tyX6 j) = vp_V [.null, .int 0, .int 0, .int 0] j := by decide +kernel
theorem nwX7 : ∀ j, j < 5 → defaultValue (tyX7 j) = vp_V [.null, .null, .null, .null, .int 0] j := by decide +kernel
theorem nwX8 : ∀ j, j < 4 → defaultValue (tyX8 j) = vp_V [.int 0, .int 0, .int 0, .int 0] j := by decide +kernel
theorem nwX9 : ∀ j, j < 1 → defaultValue (tyX9 j) = vp_V [.int 0] j := by decide +kernel
theorem nwX10 : ∀ j, j < 7 → defaultValue (tyX10 j) = vp_V [.int 0, .int 0, .int 0, .null, .int 0, .int 0, .int 0] j := by decide +kernel
theorem nwX11 : ∀ j, j < 15 → defaultValue (tyX11 j) = vp_V [.null, .null, .null, .null, .null, .null, .null, .null, .null, .null, .null, .int 0, .int 0, .int 0, .int 0] j := by decide +kernel
theorem nwX12 : ∀ j, j < 66 → defaultValue (tyX12 j) = vp_V [.int 0, .null, .null, .null, .null, .int 0, .int 0, .int 0, .null, .null, .null, .null, .null, .null, .null, .null, .null, .null, .null, .null, .int 0, .int 0, .int 0, .int 0, .int 0, .null, .null, .null, .null, .int 0, .int 0, .int 0, .int 0, .int 0, .int 0, .int 0, .null, .long 0, .long 0, .long 0, .int 0, .null, .null, .null, .null, .int 0, .int 0, .null, .null, .null, .int 0, .int 0, .int 0, .null, .null, .null, .null, .null, .null, .null, .null, .null, .null, .null, .int 0, .int 0] j := by decide +kernel
end
section
def r_c_within (v : Int32) (least : Int32) (most : Int32) : Int32 := (if v < least then 0 else (if most < v then 0 else 1))
theorem nz_r_c_within (v : Int32) (least : Int32) (most : Int32) : narrow .boolean (.int (r_c_within v least most)) = .int (r_c_within v least most) := by unfold r_c_within; (repeat' split) <;> rfl
set_option maxRecDepth 100000 in
set_option maxHeartbeats 4000000 in
theorem c_within (l : Launch) (v : Int32) (least : Int32) (most : Int32)  : PureI l yX11_within wsX11_within ({ frames := 0, cells := 0, slots := 0, locals := 0 } : Room) [.int v, .int least, .int most] (r_c_within v least most) := by
  refine PureI.of (cc := cX11_within) (maxL := 3) (ret := (some .boolean)) (by decide) rfl (Nat.le_of_ble_eq_true rfl) ?_
  intro p e s m below meth c ls hx hb hr hts hown hlocks hml hl
  have F : CallFix p m c cX11_within 3 s _ wsX11_within yX11_within.cls := ⟨hx, hb, hml, hown, hts⟩
  have hl : lv_has ls 3 [(0, .int v), (1, .int least), (2, .int most)] := hl
  refine lv_iload_n hx hb dX11_within_0 rfl (lv_at hl 0 rfl) ?_
  refine lv_iload_n hx hb dX11_within_1 rfl (lv_at hl 1 rfl) ?_
  refine lv_icmp_lt (tgt := 14) hx hb dX11_within_2 (by decide) (fun c1 => ?_) (fun c1 => ?_)
  · refine lv_iconst (v := 0) hx hb dX11_within_14 (by decide) ?_
    exact pretZ hx hb hr hlocks rfl (by unfold r_c_within; rw [if_pos c1]) dX11_within_15
  refine lv_iload_n hx hb dX11_within_5 rfl (lv_at hl 0 rfl) ?_
  refine lv_iload_n hx hb dX11_within_6 rfl (lv_at hl 2 rfl) ?_
  refine lv_icmp_gt (tgt := 14) hx hb dX11_within_7 (by decide) (fun c2 => ?_) (fun c2 => ?_)
  · refine lv_iconst (v := 0) hx hb dX11_within_14 (by decide) ?_
    exact pretZ hx hb hr hlocks rfl (by unfold r_c_within; rw [if_neg c1, if_pos c2]) dX11_within_15
  refine lv_iconst (v := 1) hx hb dX11_within_10 (by decide) ?_
  refine lv_goto (tgt := 15) hx hb dX11_within_11 (by decide) ?_
  exact pretZ hx hb hr hlocks rfl (by unfold r_c_within; rw [if_neg c1, if_neg c2]) dX11_within_15
set_option maxRecDepth 100000 in
set_option maxHeartbeats 4000000 in
theorem c_isLane (l : Launch) (lane : Int32)  : PureI l yX11_isLane wsX11_isLane ({ frames := 1, cells := 0, slots := 0, locals := 22 } : Room) [.int lane] (r_c_within lane 0 2) := by
  refine PureI.of (cc := cX11_isLane) (maxL := 1) (ret := (some .boolean)) (by decide) rfl (Nat.le_of_ble_eq_true rfl) ?_
  intro p e s m below meth c ls hx hb hr hts hown hlocks hml hl
  have F : CallFix p m c cX11_isLane 1 s _ wsX11_isLane yX11_isLane.cls := ⟨hx, hb, hml, hown, hts⟩
  have hl : lv_has ls 1 [(0, .int lane)] := hl
  refine lv_iload_n hx hb dX11_isLane_0 rfl (lv_at hl 0 rfl) ?_
  refine lv_iconst (v := 0) hx hb dX11_isLane_1 (by decide) ?_
  refine lv_iconst (v := 2) hx hb dX11_isLane_2 (by decide) ?_
  refine pureIS (As := [.int lane, .int 0, .int 2]) (rest := []) F (c_within l lane 0 2) 3 gX11_isLane_X11_within rfl (by decide +kernel) rfl rfl ⟨(Nat.le_of_ble_eq_true rfl), (Nat.le_of_ble_eq_true rfl)⟩ (Nat.le_of_ble_eq_true rfl) (Nat.le_of_ble_eq_true rfl) rfl hl.1 rfl (Nat.le_of_ble_eq_true rfl) dX11_isLane_3 ?_
  exact pretZ hx hb hr hlocks (nz_r_c_within lane 0 2) rfl dX11_isLane_6
def r_c_in (v : Int64) (lo : Int64) (hi : Int64) : Int32 := (if (lg_cmp v lo) < 0 then 0 else (if 0 < (lg_cmp v hi) then 0 else 1))
theorem nz_r_c_in (v : Int64) (lo : Int64) (hi : Int64) : narrow .boolean (.int (r_c_in v lo hi)) = .int (r_c_in v lo hi) := by unfold r_c_in; (repeat' split) <;> rfl
set_option maxRecDepth 100000 in
set_option maxHeartbeats 4000000 in
theorem c_in (l : Launch) (v : Int64) (lo : Int64) (hi : Int64)  : PureI l yX12_in wsX12_in ({ frames := 0, cells := 0, slots := 0, locals := 0 } : Room) [.long v, .long lo, .long hi] (r_c_in v lo hi) := by
  refine PureI.of (cc := cX12_in) (maxL := 6) (ret := (some .boolean)) (by decide) rfl (Nat.le_of_ble_eq_true rfl) ?_
  intro p e s m below meth c ls hx hb hr hts hown hlocks hml hl
  have F : CallFix p m c cX12_in 6 s _ wsX12_in yX12_in.cls := ⟨hx, hb, hml, hown, hts⟩
  have hl : lv_has ls 6 [(0, .long v), (2, .long lo), (4, .long hi)] := hl
  refine lv_lload_n hx hb dX12_in_0 rfl (lv_at hl 0 rfl) ?_
  refine lv_lload_n hx hb dX12_in_1 rfl (lv_at hl 1 rfl) ?_
  refine W.lcmp hx hb dX12_in_2 ?_
  refine lv_if_lt (tgt := 17) hx hb dX12_in_3 (by decide) (fun c1 => ?_) (fun c1 => ?_)
  · refine lv_iconst (v := 0) hx hb dX12_in_17 (by decide) ?_
    exact pretZ hx hb hr hlocks rfl (by unfold r_c_in; rw [if_pos c1]) dX12_in_18
  refine lv_lload_n hx hb dX12_in_6 rfl (lv_at hl 0 rfl) ?_
  refine lv_lload hx hb dX12_in_7 (lv_at hl 2 rfl) ?_
  refine W.lcmp hx hb dX12_in_9 ?_
  refine lv_if_gt (tgt := 17) hx hb dX12_in_10 (by decide) (fun c2 => ?_) (fun c2 => ?_)
  · refine lv_iconst (v := 0) hx hb dX12_in_17 (by decide) ?_
    exact pretZ hx hb hr hlocks rfl (by unfold r_c_in; rw [if_neg c1, if_pos c2]) dX12_in_18
  refine lv_iconst (v := 1) hx hb dX12_in_13 (by decide) ?_
  refine lv_goto (tgt := 18) hx hb dX12_in_14 (by decide) ?_
  exact pretZ hx hb hr hlocks rfl (by unfold r_c_in; rw [if_neg c1, if_neg c2]) dX12_in_18
set_option maxRecDepth 100000 in
set_option maxHeartbeats 4000000 in
theorem c_lost (l : Launch)  : PureL l yX12_lost wsX12_lost ({ frames := 0, cells := 0, slots := 0, locals := 0 } : Room) [] (-9223372036854775808) := by
  refine PureL.of (cc := cX12_lost) (maxL := 0) (ret := (some .long)) (by decide) rfl (Nat.le_of_ble_eq_true rfl) ?_
  intro p e s m below meth c ls hx hb hr hts hown hlocks hml hl
  have F : CallFix p m c cX12_lost 0 s _ wsX12_lost yX12_lost.cls := ⟨hx, hb, hml, hown, hts⟩
  have hl : lv_has ls 0 [] := hl
  refine lv_ldc2 (v := -9223372036854775808) hx hb hown (hts (.constantLong RX12 139 (-9223372036854775808)) (by decide +kernel)) dX12_lost_0 ?_
  exact pretL hx hb hr hlocks rfl dX12_lost_3
def r_c_lesser (a : Int32) (b : Int32) : Int32 := (if b ≤ a then b else a)
set_option maxRecDepth 100000 in
set_option maxHeartbeats 4000000 in
theorem c_lesser (l : Launch) (a : Int32) (b : Int32)  : PureI l yX12_lesser wsX12_lesser ({ frames := 0, cells := 0, slots := 0, locals := 0 } : Room) [.int a, .int b] (r_c_lesser a b) := by
  refine PureI.of (cc := cX12_lesser) (maxL := 2) (ret := (some .int)) (by decide) rfl (Nat.le_of_ble_eq_true rfl) ?_
  intro p e s m below meth c ls hx hb hr hts hown hlocks hml hl
  have F : CallFix p m c cX12_lesser 2 s _ wsX12_lesser yX12_lesser.cls := ⟨hx, hb, hml, hown, hts⟩
  have hl : lv_has ls 2 [(0, .int a), (1, .int b)] := hl
  refine lv_iload_n hx hb dX12_lesser_0 rfl (lv_at hl 0 rfl) ?_
  refine lv_iload_n hx hb dX12_lesser_1 rfl (lv_at hl 1 rfl) ?_
  refine lv_icmp_ge (tgt := 9) hx hb dX12_lesser_2 (by decide) (fun c1 => ?_) (fun c1 => ?_)
  · refine lv_iload_n hx hb dX12_lesser_9 rfl (lv_at hl 1 rfl) ?_
    exact pretI hx hb hr hlocks (by unfold r_c_lesser; rw [if_pos c1]) dX12_lesser_10
  refine lv_iload_n hx hb dX12_lesser_5 rfl (lv_at hl 0 rfl) ?_
  refine lv_goto (tgt := 10) hx hb dX12_lesser_6 (by decide) ?_
  exact pretI hx hb hr hlocks (by unfold r_c_lesser; rw [if_neg c1]) dX12_lesser_10
def r_c_noSheet (k : Int32) : Int32 := (if (r_c_in (Int32.toInt64 k) 0 3) = 0 then 1 else 0)
theorem nz_r_c_noSheet (k : Int32) : narrow .boolean (.int (r_c_noSheet k)) = .int (r_c_noSheet k) := by unfold r_c_noSheet; (repeat' split) <;> rfl
set_option maxRecDepth 100000 in
set_option maxHeartbeats 4000000 in
theorem c_noSheet (l : Launch) (k : Int32)  : PureI l yX12_noSheet wsX12_noSheet ({ frames := 1, cells := 0, slots := 0, locals := 25 } : Room) [.int k] (r_c_noSheet k) := by
  refine PureI.of (cc := cX12_noSheet) (maxL := 1) (ret := (some .boolean)) (by decide) rfl (Nat.le_of_ble_eq_true rfl) ?_
  intro p e s m below meth c ls hx hb hr hts hown hlocks hml hl
  have F : CallFix p m c cX12_noSheet 1 s _ wsX12_noSheet yX12_noSheet.cls := ⟨hx, hb, hml, hown, hts⟩
  have hl : lv_has ls 1 [(0, .int k)] := hl
  refine lv_iload_n hx hb dX12_noSheet_0 rfl (lv_at hl 0 rfl) ?_
  refine lv_i2l hx hb dX12_noSheet_1 rfl ?_
  refine lv_lconst (v := 0) hx hb dX12_noSheet_2 (by decide) ?_
  refine lv_ldc2 (v := 3) hx hb hown (hts (.constantLong RX12 148 (3)) (by decide +kernel)) dX12_noSheet_3 ?_
  refine pureIS (As := [.long (Int32.toInt64 k), .long 0, .long 3]) (rest := []) F (c_in l (Int32.toInt64 k) 0 3) 3 gX12_noSheet_X12_in rfl (by decide +kernel) rfl rfl ⟨(Nat.le_of_ble_eq_true rfl), (Nat.le_of_ble_eq_true rfl)⟩ (Nat.le_of_ble_eq_true rfl) (Nat.le_of_ble_eq_true rfl) rfl hl.1 rfl (Nat.le_of_ble_eq_true rfl) dX12_noSheet_6 ?_
  refine lv_if_ne (tgt := 16) hx hb dX12_noSheet_9 (by decide) (fun c1 => ?_) (fun c1 => ?_)
  · refine lv_iconst (v := 0) hx hb dX12_noSheet_16 (by decide) ?_
    exact pretZ hx hb hr hlocks rfl (by unfold r_c_noSheet; rw [if_neg c1]) dX12_noSheet_17
  refine lv_iconst (v := 1) hx hb dX12_noSheet_12 (by decide) ?_
  refine lv_goto (tgt := 17) hx hb dX12_noSheet_13 (by decide) ?_
  exact pretZ hx hb hr hlocks rfl (by unfold r_c_noSheet; rw [if_pos c1]) dX12_noSheet_17
def r_c_isBeyond (i : Int32) (n : Int32) (all : Int32) : Int32 := (if i < 0 then 1 else (if n < 0 then 1 else (if (lg_cmp ((Int32.toInt64 i) + (Int32.toInt64 n)) (Int32.toInt64 all)) ≤ 0 then 0 else 1)))
theorem nz_r_c_isBeyond (i : Int32) (n : Int32) (all : Int32) : narrow .boolean (.int (r_c_isBeyond i n all)) = .int (r_c_isBeyond i n all) := by unfold r_c_isBeyond; (repeat' split) <;> rfl
set_option maxRecDepth 100000 in
set_option maxHeartbeats 4000000 in
theorem c_isBeyond (l : Launch) (i : Int32) (n : Int32) (all : Int32)  : PureI l yX12_isBeyond wsX12_isBeyond ({ frames := 0, cells := 0, slots := 0, locals := 0 } : Room) [.int i, .int n, .int all] (r_c_isBeyond i n all) := by
  refine PureI.of (cc := cX12_isBeyond) (maxL := 3) (ret := (some .boolean)) (by decide) rfl (Nat.le_of_ble_eq_true rfl) ?_
  intro p e s m below meth c ls hx hb hr hts hown hlocks hml hl
  have F : CallFix p m c cX12_isBeyond 3 s _ wsX12_isBeyond yX12_isBeyond.cls := ⟨hx, hb, hml, hown, hts⟩
  have hl : lv_has ls 3 [(0, .int i), (1, .int n), (2, .int all)] := hl
  refine lv_iload_n hx hb dX12_isBeyond_0 rfl (lv_at hl 0 rfl) ?_
  refine lv_if_lt (tgt := 19) hx hb dX12_isBeyond_1 (by decide) (fun c1 => ?_) (fun c1 => ?_)
  · refine lv_iconst (v := 1) hx hb dX12_isBeyond_19 (by decide) ?_
    refine lv_goto (tgt := 24) hx hb dX12_isBeyond_20 (by decide) ?_
    exact pretZ hx hb hr hlocks rfl (by unfold r_c_isBeyond; rw [if_pos c1]) dX12_isBeyond_24
  refine lv_iload_n hx hb dX12_isBeyond_4 rfl (lv_at hl 1 rfl) ?_
  refine lv_if_lt (tgt := 19) hx hb dX12_isBeyond_5 (by decide) (fun c2 => ?_) (fun c2 => ?_)
  · refine lv_iconst (v := 1) hx hb dX12_isBeyond_19 (by decide) ?_
    refine lv_goto (tgt := 24) hx hb dX12_isBeyond_20 (by decide) ?_
    exact pretZ hx hb hr hlocks rfl (by unfold r_c_isBeyond; rw [if_neg c1, if_pos c2]) dX12_isBeyond_24
  refine lv_iload_n hx hb dX12_isBeyond_8 rfl (lv_at hl 0 rfl) ?_
  refine lv_i2l hx hb dX12_isBeyond_9 rfl ?_
  refine lv_iload_n hx hb dX12_isBeyond_10 rfl (lv_at hl 1 rfl) ?_
  refine lv_i2l hx hb dX12_isBeyond_11 rfl ?_
  refine lv_ladd hx hb dX12_isBeyond_12 ?_
  refine lv_iload_n hx hb dX12_isBeyond_13 rfl (lv_at hl 2 rfl) ?_
  refine lv_i2l hx hb dX12_isBeyond_14 rfl ?_
  refine W.lcmp hx hb dX12_isBeyond_15 ?_
  refine lv_if_le (tgt := 23) hx hb dX12_isBeyond_16 (by decide) (fun c3 => ?_) (fun c3 => ?_)
  · refine lv_iconst (v := 0) hx hb dX12_isBeyond_23 (by decide) ?_
    exact pretZ hx hb hr hlocks rfl (by unfold r_c_isBeyond; rw [if_neg c1, if_neg c2, if_pos c3]) dX12_isBeyond_24
  refine lv_iconst (v := 1) hx hb dX12_isBeyond_19 (by decide) ?_
  refine lv_goto (tgt := 24) hx hb dX12_isBeyond_20 (by decide) ?_
  exact pretZ hx hb hr hlocks rfl (by unfold r_c_isBeyond; rw [if_neg c1, if_neg c2, if_neg c3]) dX12_isBeyond_24
theorem in_of {n : Nat} {i : Int32} (hn : n < 2 ^ 31) (h1 : ¬ i < 0) (h2 : ¬ Int32.ofNat n ≤ i) : vp_in i n := by
  rw [vp_in_iff]
  have e : (Int32.ofNat n).toInt = (n : Int) := nI_toInt hn
  rw [Int32.le_iff_toInt_le, e] at h2
  rw [Int32.lt_iff_toInt_lt, Int32.toInt_zero] at h1
  omega
theorem within_none (i : Int32) : r_c_within i 0 (-1) = 0 := by
  unfold r_c_within
  by_cases h : i < 0
  · rw [if_pos h]
  · rw [if_neg h, if_pos]
    rw [Int32.lt_iff_toInt_lt] at h ⊢
    have : (-1 : Int32).toInt = -1 := by decide
    have : (0 : Int32).toInt = 0 := by decide
    omega
theorem lg_lt (x y : Int64) : lg_cmp x y < 0 ↔ x < y := by
  unfold lg_cmp
  by_cases h : y < x
  · rw [if_pos h]; exact ⟨fun q => absurd q (by decide), fun q => absurd (Int64.lt_trans h q) Int64.lt_irrefl⟩
  · rw [if_neg h]
    by_cases h2 : x = y
    · rw [if_pos h2]; subst h2; exact ⟨fun q => absurd q (by decide), fun q => absurd q Int64.lt_irrefl⟩
    · rw [if_neg h2]; exact ⟨fun _ => Int64.lt_of_le_of_ne (Int64.not_lt.mp h) h2, fun _ => by decide⟩
theorem lg_gt (x y : Int64) : 0 < lg_cmp x y ↔ y < x := by
  unfold lg_cmp
  by_cases h : y < x
  · rw [if_pos h]; exact ⟨fun _ => h, fun _ => by decide⟩
  · rw [if_neg h]
    refine ⟨fun q => ?_, fun q => absurd q h⟩
    by_cases h2 : x = y
    · rw [if_pos h2] at q; exact absurd q (by decide)
    · rw [if_neg h2] at q; exact absurd q (by decide)
theorem in_eq (v lo hi : Int64) : r_c_in v lo hi = if lo.toInt ≤ v.toInt ∧ v.toInt ≤ hi.toInt then 1 else 0 := by
  unfold r_c_in
  simp only [lg_lt, lg_gt, Int64.lt_iff_toInt_lt]
  by_cases h : v.toInt < lo.toInt
  · rw [if_pos h, if_neg (by omega)]
  · rw [if_neg h]
    by_cases h2 : hi.toInt < v.toInt
    · rw [if_pos h2, if_neg (by omega)]
    · rw [if_neg h2, if_pos (by omega)]
theorem within_eq (v lo hi : Int32) : r_c_within v lo hi = if lo.toInt ≤ v.toInt ∧ v.toInt ≤ hi.toInt then 1 else 0 := by
  unfold r_c_within
  simp only [Int32.lt_iff_toInt_lt]
  by_cases h : v.toInt < lo.toInt
  · rw [if_pos h, if_neg (by omega)]
  · rw [if_neg h]
    by_cases h2 : hi.toInt < v.toInt
    · rw [if_pos h2, if_neg (by omega)]
    · rw [if_neg h2, if_pos (by omega)]
/-- the two ways to ask for a range agree -/
theorem in_within (v lo hi : Int32) : r_c_in v.toInt64 lo.toInt64 hi.toInt64 = r_c_within v lo hi := by
  rw [in_eq, within_eq]; simp only [Int32.toInt_toInt64]
theorem in_none (i : Int32) : r_c_in i.toInt64 0 (-1) = 0 := (in_within i 0 (-1)).trans (within_none i)
theorem noSheet_in {k : Int32} (h : r_c_noSheet k = 0) : vp_in k 4 := by
  rw [vp_in_iff]
  unfold r_c_noSheet at h
  by_cases h1 : r_c_in k.toInt64 0 3 = 0
  · rw [if_pos h1] at h; exact absurd h (by decide)
  · rw [show (r_c_in k.toInt64 0 3 = r_c_within k 0 3) from in_within k 0 3, within_eq] at h1
    have e0 : (0 : Int32).toInt = 0 := by decide
    have e3 : (3 : Int32).toInt = 3 := by decide
    rw [e0, e3] at h1
    by_cases h2 : 0 ≤ k.toInt ∧ k.toInt ≤ 3
    · omega
    · rw [if_neg h2] at h1; exact absurd rfl h1
end
section
def r_c_get (n : Nat) (f : Nat → Int32) (i : Int32) : Int32 := (if i < 0 then 0 else (if (Int32.ofNat n) ≤ i then 0 else (f (i.toNatClampNeg))))
set_option maxRecDepth 100000 in
set_option maxHeartbeats 4000000 in
theorem c_get (l : Launch) (g : Gt) (row : Nat) (n : Nat) (f : Nat → Int32) (i : Int32) (hn : n < 2 ^ 31) : Ctr l g yX11_get wsX11_get ({ frames := 0, cells := 0, slots := 0, locals := 0 } : Room) [.ref row, .int i] [(row, .inl (g.2 0, n, .inl f))] (fun A => QI g A (fun r (_ : Unit) => r = (r_c_get n f i)) (fun _u : Unit => [(row, .inl (g.2 0, n, .inl f))])) := by
  refine Ctr.of (cc := cX11_get) (maxL := 2) (ret := (some .int)) (by decide) rfl (Nat.le_of_ble_eq_true rfl) ?_
  intro p e s m below meth c A ls H C hP hD hA hS hl
  obtain ⟨hx, hb, hr, hts, hown, hlocks, hml, hin, hKN⟩ := id C
  have hK := hKN.1
  have hN := hKN.2
  have F : CallFix p m c cX11_get 2 s _ wsX11_get yX11_get.cls := ⟨hx, hb, hml, hown, hts⟩
  have hl : lv_has ls 2 [(0, .ref row), (1, .int i)] := hl
  refine lv_iload_n hx hb dX11_get_0 rfl (lv_at hl 1 rfl) ?_
  refine lv_if_lt (tgt := 16) hx hb dX11_get_1 (by decide) (fun c1 => ?_) (fun c1 => ?_)
  · refine lv_iconst (v := 0) hx hb dX11_get_16 (by decide) ?_
    exact retI C hS () (by unfold r_c_get; rw [if_pos c1]) (hP.pick [0] rfl) (hD.sub [0] rfl rfl) (Nat.le_of_ble_eq_true rfl) (Nat.le_of_ble_eq_true rfl) dX11_get_17
  refine lv_iload_n hx hb dX11_get_4 rfl (lv_at hl 1 rfl) ?_
  refine lv_aload_n hx hb dX11_get_5 rfl (lv_at hl 0 rfl) ?_
  refine va_alen (v := Int32.ofNat n) hx hb hK hP 0 0 rfl rfl rfl dX11_get_6 ?_
  refine lv_icmp_ge (tgt := 16) hx hb dX11_get_7 (by decide) (fun c2 => ?_) (fun c2 => ?_)
  · refine lv_iconst (v := 0) hx hb dX11_get_16 (by decide) ?_
    exact retI C hS () (by unfold r_c_get; rw [if_neg c1, if_pos c2]) (hP.pick [0] rfl) (hD.sub [0] rfl rfl) (Nat.le_of_ble_eq_true rfl) (Nat.le_of_ble_eq_true rfl) dX11_get_17
  refine lv_aload_n hx hb dX11_get_10 rfl (lv_at hl 0 rfl) ?_
  refine lv_iload_n hx hb dX11_get_11 rfl (lv_at hl 1 rfl) ?_
  refine va_iald hx hb hK hP 0 0 rfl rfl (in_of (n := n) hn c1 c2) dX11_get_12 ?_
  refine lv_goto (tgt := 17) hx hb dX11_get_13 (by decide) ?_
  exact retI C hS () (by unfold r_c_get; rw [if_neg c1, if_neg c2]) (hP.pick [0] rfl) (hD.sub [0] rfl rfl) (Nat.le_of_ble_eq_true rfl) (Nat.le_of_ble_eq_true rfl) dX11_get_17
theorem get_z (n : Nat) (i : Int32) : r_c_get n z0 i = 0 := by unfold r_c_get; (repeat' split) <;> rfl
set_option maxRecDepth 100000 in
set_option maxHeartbeats 4000000 in
theorem c_set0 (l : Launch) (g : Gt) (row : Nat) (n : Nat) (i : Int32) (hn : n < 2 ^ 31) : Ctr l g yX11_set wsX11_set ({ frames := 0, cells := 0, slots := 0, locals := 0 } : Room) [.ref row, .int i, .int 0] [(row, .inl (g.2 0, n, .inl z0))] (fun A => QV g A (fun _ : Unit => () = ()) (fun _u : Unit => [(row, .inl (g.2 0, n, .inl z0))])) := by
  refine Ctr.of (cc := cX11_set) (maxL := 3) (ret := none) (by decide) rfl (Nat.le_of_ble_eq_true rfl) ?_
  intro p e s m below meth c A ls H C hP hD hA hS hl
  obtain ⟨hx, hb, hr, hts, hown, hlocks, hml, hin, hKN⟩ := id C
  have hK := hKN.1
  have hN := hKN.2
  have F : CallFix p m c cX11_set 3 s _ wsX11_set yX11_set.cls := ⟨hx, hb, hml, hown, hts⟩
  have hl : lv_has ls 3 [(0, .ref row), (1, .int i), (2, .int 0)] := hl
  refine lv_iload_n hx hb dX11_set_0 rfl (lv_at hl 1 rfl) ?_
  refine lv_if_lt (tgt := 14) hx hb dX11_set_1 (by decide) (fun c1 => ?_) (fun c1 => ?_)
  · exact retV C hS () rfl (hP.pick [0] rfl) (hD.sub [0] rfl rfl) (Nat.le_of_ble_eq_true rfl) (Nat.le_of_ble_eq_true rfl) dX11_set_14
  refine lv_iload_n hx hb dX11_set_4 rfl (lv_at hl 1 rfl) ?_
  refine lv_aload_n hx hb dX11_set_5 rfl (lv_at hl 0 rfl) ?_
  refine va_alen (v := Int32.ofNat n) hx hb hK hP 0 0 rfl rfl rfl dX11_set_6 ?_
  refine lv_icmp_ge (tgt := 14) hx hb dX11_set_7 (by decide) (fun c2 => ?_) (fun c2 => ?_)
  · exact retV C hS () rfl (hP.pick [0] rfl) (hD.sub [0] rfl rfl) (Nat.le_of_ble_eq_true rfl) (Nat.le_of_ble_eq_true rfl) dX11_set_14
  refine lv_aload_n hx hb dX11_set_10 rfl (lv_at hl 0 rfl) ?_
  refine lv_iload_n hx hb dX11_set_11 rfl (lv_at hl 1 rfl) ?_
  refine lv_iload_n hx hb dX11_set_12 rfl (lv_at hl 2 rfl) ?_
  refine va_iast hx hb hK hP hD hS 0 0 rfl rfl (in_of (n := n) hn c1 c2) dX11_set_13 (fun H locs hP hD hS => ?_)
  have hP : va_P g.1 vwCl [(row, .inl (g.2 0, n, .inl z0))] H := by have h9 := hP; rw [upd_zero] at h9; exact h9
  have hD : va_D A [(row, .inl (g.2 0, n, .inl z0))] := by have h9 := hD; rw [upd_zero] at h9; exact h9
  exact retV C hS () rfl (hP.pick [0] rfl) (hD.sub [0] rfl rfl) (Nat.le_of_ble_eq_true rfl) (Nat.le_of_ble_eq_true rfl) dX11_set_14
def r_c_set (n : Nat) (f : Nat → Int32) (i v : Int32) : Nat → Int32 := if i < 0 then f else (if (Int32.ofNat n) ≤ i then f else upd f (i.toNatClampNeg) v)
set_option maxRecDepth 100000 in
set_option maxHeartbeats 4000000 in
theorem c_set (l : Launch) (g : Gt) (row : Nat) (n : Nat) (f : Nat → Int32) (i : Int32) (v : Int32) (hn : n < 2 ^ 31) : Ctr l g yX11_set wsX11_set ({ frames := 0, cells := 0, slots := 0, locals := 0 } : Room) [.ref row, .int i, .int v] [(row, .inl (g.2 0, n, .inl f))] (fun A => QV g A (fun _ : Unit => () = ()) (fun _u : Unit => [(row, .inl (g.2 0, n, .inl (r_c_set n f i v)))])) := by
  refine Ctr.of (cc := cX11_set) (maxL := 3) (ret := none) (by decide) rfl (Nat.le_of_ble_eq_true rfl) ?_
  intro p e s m below meth c A ls H C hP hD hA hS hl
  obtain ⟨hx, hb, hr, hts, hown, hlocks, hml, hin, hKN⟩ := id C
  have hK := hKN.1
  have hN := hKN.2
  have F : CallFix p m c cX11_set 3 s _ wsX11_set yX11_set.cls := ⟨hx, hb, hml, hown, hts⟩
  have hl : lv_has ls 3 [(0, .ref row), (1, .int i), (2, .int v)] := hl
  refine lv_iload_n hx hb dX11_set_0 rfl (lv_at hl 1 rfl) ?_
  refine lv_if_lt (tgt := 14) hx hb dX11_set_1 (by decide) (fun c1 => ?_) (fun c1 => ?_)
  · have e9 : r_c_set n f i v = f := by unfold r_c_set; rw [if_pos c1]
    have hP : va_P g.1 vwCl [(row, .inl (g.2 0, n, .inl (r_c_set n f i v)))] H := by rw [e9]; exact hP
    have hD : va_D A [(row, .inl (g.2 0, n, .inl (r_c_set n f i v)))] := by rw [e9]; exact hD
    exact retV C hS () rfl (hP.pick [0] rfl) (hD.sub [0] rfl rfl) (Nat.le_of_ble_eq_true rfl) (Nat.le_of_ble_eq_true rfl) dX11_set_14
  refine lv_iload_n hx hb dX11_set_4 rfl (lv_at hl 1 rfl) ?_
  refine lv_aload_n hx hb dX11_set_5 rfl (lv_at hl 0 rfl) ?_
  refine va_alen (v := Int32.ofNat n) hx hb hK hP 0 0 rfl rfl rfl dX11_set_6 ?_
  refine lv_icmp_ge (tgt := 14) hx hb dX11_set_7 (by decide) (fun c2 => ?_) (fun c2 => ?_)
  · have e9 : r_c_set n f i v = f := by unfold r_c_set; rw [if_neg c1, if_pos c2]
    have hP : va_P g.1 vwCl [(row, .inl (g.2 0, n, .inl (r_c_set n f i v)))] H := by rw [e9]; exact hP
    have hD : va_D A [(row, .inl (g.2 0, n, .inl (r_c_set n f i v)))] := by rw [e9]; exact hD
    exact retV C hS () rfl (hP.pick [0] rfl) (hD.sub [0] rfl rfl) (Nat.le_of_ble_eq_true rfl) (Nat.le_of_ble_eq_true rfl) dX11_set_14
  refine lv_aload_n hx hb dX11_set_10 rfl (lv_at hl 0 rfl) ?_
  refine lv_iload_n hx hb dX11_set_11 rfl (lv_at hl 1 rfl) ?_
  refine lv_iload_n hx hb dX11_set_12 rfl (lv_at hl 2 rfl) ?_
  refine va_iast hx hb hK hP hD hS 0 0 rfl rfl (in_of (n := n) hn c1 c2) dX11_set_13 (fun H locs hP hD hS => ?_)
  have hP : va_P g.1 vwCl [(row, .inl (g.2 0, n, .inl (upd f (i.toNatClampNeg) v)))] H := hP
  have hD : va_D A [(row, .inl (g.2 0, n, .inl (upd f (i.toNatClampNeg) v)))] := hD
  have e9 : r_c_set n f i v = (upd f (i.toNatClampNeg) v) := by unfold r_c_set; rw [if_neg c1, if_neg c2]
  have hP : va_P g.1 vwCl [(row, .inl (g.2 0, n, .inl (r_c_set n f i v)))] H := by rw [e9]; exact hP
  have hD : va_D A [(row, .inl (g.2 0, n, .inl (r_c_set n f i v)))] := by rw [e9]; exact hD
  exact retV C hS () rfl (hP.pick [0] rfl) (hD.sub [0] rfl rfl) (Nat.le_of_ble_eq_true rfl) (Nat.le_of_ble_eq_true rfl) dX11_set_14
end
